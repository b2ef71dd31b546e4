/-! THE LAW, all of it -/
noncomputable abbrev yy_L_law : zY := (yL_law, cL_law, 6, some .boolean, 16, 632)
theorem xi_t {n T t0 t : Nat} {x : zM} (h : XI n T t0 x) (ht : t ≤ T) (h1 : 1 ≤ t) (hterm : x 12 1 = nI t) (hmaj : n < 2 * qN n (qB (x 12 3))) (hr : ∀ r, r < n → qB (x 12 3) r = true → x 9 r = nI t) : XI n T t x := by
  obtain ⟨⟨oz, a1, a2, a3, a4, a5, a6, a7, a8, a9, b1⟩, h2⟩ := h
  refine ⟨⟨oz, a1, a2, a3, a4, a5, a6, ⟨a7.1, fun hp => ⟨(a7.2 hp).1, (a7.2 hp).2.1, t, ht, Nat.le_refl _, h1, hterm, hr⟩⟩, a8, a9, ?_, ht⟩, h2⟩
  unfold jM
  have := qN_mono (f := qB (x 12 3)) (g := fun r => decide (nI t ≤ zPl x 5 4 r)) n (fun r hrn q => decide_eq_true (by
    show nI t ≤ x 9 r
    rw [hr r hrn q]
    exact Int32.le_refl _))
  omega
theorem and_maj {n : Nat} {a b : Int32} (ha : n < 2 * qN n (qB a)) (hb : n < 2 * qN n (qB b)) : ¬ a &&& b = 0 := fun e => by
  obtain ⟨i, -, h1, h2⟩ := qN_maj ha hb
  have := qB_and a b i
  rw [e, qB_0, h1, h2] at this
  cases this
theorem xi_new : XI 5 1 0 zXI12 := ⟨j_new, ⟨0, by decide, congrFun (b_x (o := 33) (by decide)) 1⟩, 0, by decide, congrFun (b_x (o := 33) (by decide)) 0⟩
def lZ (S : zS) : Prop := S.1 = 172 ∧ S.2.2.1 = [.int 1]
theorem w_law34 {n : Nat} {sl : Nat → Option Nat} {ext : List va_E} (hcs : zCs (sh_X sl ext).length (sh_X sl ext)) : ∀ (j k T t0 : Nat) (roll : Int32) (x : zM) (l5 : Option Int32), k + 2 * j = 46 → T + 2 * j ≤ 2000 → XI n T t0 x → (roll = 0 ∨ n < 2 * qN n (qB roll)) → zT yy_L_law (0) (0) lZ (34, [some (.retAddr 998), some (.ref 0), some (.int roll), some (.int (nI t0)), some (.int (nI k)), (l5.map Value.int)], [], (sh_X sl ext), x) := by
  intro j
  induction j with
  | zero =>
    intro k T t0 roll x l5 hk hT h hR
    refine zT.run [(.iload 4, 0, 0, 0), (.bipush 46, 0, 0, 0)] (pe := 38) (ls' := [some (.retAddr 998), some (.ref 0), some (.int roll), some (.int (nI t0)), some (.int (nI k)), (l5.map Value.int)]) (st' := [.int 46, .int (nI k)]) (M' := x) (by decide +kernel) rfl ?_
    refine zT.cge (tgt := 171) (off := 133) (by decide +kernel) (by decide) (fun _ => ?_) (fun c => absurd (nI_le (a := 46) (b := k) (by omega) (by omega)) c)
    refine zT.run [(.iconst 1, 0, 0, 0)] (pe := 172) (ls' := [some (.retAddr 998), some (.ref 0), some (.int roll), some (.int (nI t0)), some (.int (nI k)), (l5.map Value.int)]) (st' := [.int 1]) (M' := x) (by decide +kernel) rfl ?_
    exact zT.here ⟨rfl, rfl⟩
  | succ j ih =>
    intro k T t0 roll x l5 hk hT h hR
    refine zT.run [(.iload 4, 0, 0, 0), (.bipush 46, 0, 0, 0)] (pe := 38) (ls' := [some (.retAddr 998), some (.ref 0), some (.int roll), some (.int (nI t0)), some (.int (nI k)), (l5.map Value.int)]) (st' := [.int 46, .int (nI k)]) (M' := x) (by decide +kernel) rfl ?_
    refine zT.cge (tgt := 171) (off := 133) (by decide +kernel) (by decide) (fun c => absurd (show nI 46 ≤ nI k from c) (nI_ge (a := k) (b := 46) (by omega) (by decide))) (fun _ => ?_)
    refine zT.run [(.aload_n 0, 0, 0, 0), (.iload 4, 0, 0, 0)] (pe := 44) (ls' := [some (.retAddr 998), some (.ref 0), some (.int roll), some (.int (nI t0)), some (.int (nI k)), (l5.map Value.int)]) (st' := [.int (nI k), .retAddr 998]) (M' := x) (by decide +kernel) rfl ?_
    refine zT.cSi (sh := sh_X sl ext) (av := [.retAddr 998, .int (nI k)]) (idx := 7) (st := []) (c_L_cell k (by omega)) rfl k_L_cell (zIn (w := 2093) (by decide +kernel) rfl) (by decide +kernel) (Nat.le_of_ble_eq_true rfl) (zLb_up (n := 1) (by cases l5 <;> rfl) len1) (zVb_up (n := 1) rfl len1) hcs (by decide +kernel) rfl rfl ?_
    intro v0 _
    refine zT.run [(.iconst 5, 0, 0, 0), (.ishr, 0, 0, 0), (.ldc 187, 67108863, 0, 5159), (.iand, 0, 0, 0)] (pe := 52) (ls' := [some (.retAddr 998), some (.ref 0), some (.int roll), some (.int (nI t0)), some (.int (nI k)), (l5.map Value.int)]) (st' := [.int ((v0 >>> (5 &&& 31)) &&& 67108863)]) (M' := x) (by decide +kernel) rfl ?_
    obtain ⟨u, hu, eu⟩ := and_low (x := v0 >>> (5 &&& 31)) (c := 67108863) (by decide)
    rw [eu]
    refine zT.run [(.istore 5, 0, 0, 0), (.aload_n 1, 0, 0, 0), (.aload_n 0, 0, 0, 0), (.iload 4, 0, 0, 0)] (pe := 58) (ls' := [some (.retAddr 998), some (.ref 0), some (.int roll), some (.int (nI t0)), some (.int (nI k)), some (.int (nI u))]) (st' := [.int (nI k), .retAddr 998, .ref 0]) (M' := x) (by decide +kernel) rfl ?_
    refine zT.eq9 (zT.cSr (idx := 188) (av := [.ref 0, .retAddr 998, .int (nI k)]) (st := []) (c_L_act h (by omega) hcs (by omega)) (zLb_up (n := 1) rfl len1) (zVb_up (n := 1) rfl len1) rfl k_L_act (zIn (w := 4183) (by decide +kernel) rfl) (by decide +kernel) (Nat.le_of_ble_eq_true rfl) (by decide +kernel) rfl ?_)
    rintro _ _ x1 ⟨rfl, rfl, h1⟩
    show zT _ _ _ _ (61, _, [], _, _)
    obtain ⟨-, h2n, h9⟩ := xi_n h1
    refine zT.run [(.aload_n 1, 0, 0, 0)] (pe := 62) (ls' := [some (.retAddr 998), some (.ref 0), some (.int roll), some (.int (nI t0)), some (.int (nI k)), some (.int (nI u))]) (st' := [.ref 0]) (M' := x1) (by decide +kernel) rfl ?_
    refine zT.cS_own (idx := 179) (av := [.ref 0]) (rv := some (.int 1)) (st := []) (S1 := [.int 1]) (c_L_isSound h1 (by omega)) k_L_isSound rfl (zIn (w := 5103) (by decide +kernel) rfl) (by decide +kernel) (by decide +kernel) rfl (Nat.le_of_ble_eq_true rfl) rfl ?_
    refine zT.zeq (tgt := 104) (off := 39) (by decide +kernel) (by decide) (fun q => absurd q (by decide)) (fun _ => ?_)
    refine zT.run [(.aload_n 1, 0, 0, 0), (.iload 5, 0, 0, 0), (.aload_n 1, 0, 0, 0), (.iconst 0, 0, 0, 0)] (pe := 73) (ls' := [some (.retAddr 998), some (.ref 0), some (.int roll), some (.int (nI t0)), some (.int (nI k)), some (.int (nI u))]) (st' := [.int 0, .ref 0, .int (nI u), .ref 0]) (M' := x1) (by decide +kernel) rfl ?_
    refine zT.cSw (idx := 113) (av := [.ref 0, .int 0]) (rv := some (.int (nI n))) (st := [.int (nI u), .ref 0]) (S1 := [.int (nI n), .int (nI u), .ref 0]) (c_L_office x1 x1 sl ext 0 (nI n) (rd_office0 h1)) rfl k_L_office (zIn (w := 2096) (by decide +kernel) rfl) (by decide +kernel) (Nat.le_of_ble_eq_true rfl) (by decide +kernel) rfl rfl ?_
    refine zT.iremN (by omega) (by omega) (by omega) (by decide +kernel) ?_
    refine zT.run [(.iload 5, 0, 0, 0), (.bipush 16, 0, 0, 0), (.idiv, 0, 0, 0)] (pe := 82) (ls' := [some (.retAddr 998), some (.ref 0), some (.int roll), some (.int (nI t0)), some (.int (nI k)), some (.int (nI u))]) (st' := [.int ((nI u) / 16), .int (nI (u % n)), .ref 0]) (M' := x1) (by decide +kernel) rfl ?_
    rw [nI_div (c := 16) (b := 16) rfl (by omega) (by decide) (by decide)]
    refine zT.run [(.aload_n 1, 0, 0, 0), (.iconst 0, 0, 0, 0)] (pe := 84) (ls' := [some (.retAddr 998), some (.ref 0), some (.int roll), some (.int (nI t0)), some (.int (nI k)), some (.int (nI u))]) (st' := [.int 0, .ref 0, .int (nI (u / 16)), .int (nI (u % n)), .ref 0]) (M' := x1) (by decide +kernel) rfl ?_
    refine zT.cSw (idx := 113) (av := [.ref 0, .int 0]) (rv := some (.int (nI n))) (st := [.int (nI (u / 16)), .int (nI (u % n)), .ref 0]) (S1 := [.int (nI n), .int (nI (u / 16)), .int (nI (u % n)), .ref 0]) (c_L_office x1 x1 sl ext 0 (nI n) (rd_office0 h1)) rfl k_L_office (zIn (w := 2096) (by decide +kernel) rfl) (by decide +kernel) (Nat.le_of_ble_eq_true rfl) (by decide +kernel) rfl rfl ?_
    refine zT.iremN (by omega) (by omega) (by omega) (by decide +kernel) ?_
    refine zT.run [(.iload 5, 0, 0, 0), (.sipush 256, 0, 0, 0), (.idiv, 0, 0, 0)] (pe := 94) (ls' := [some (.retAddr 998), some (.ref 0), some (.int roll), some (.int (nI t0)), some (.int (nI k)), some (.int (nI u))]) (st' := [.int ((nI u) / 256), .int (nI (u / 16 % n)), .int (nI (u % n)), .ref 0]) (M' := x1) (by decide +kernel) rfl ?_
    rw [nI_div (c := 256) (b := 256) rfl (by omega) (by decide) (by decide)]
    refine zT.run [(.sipush 1000, 0, 0, 0), (.irem, 0, 0, 0)] (pe := 98) (ls' := [some (.retAddr 998), some (.ref 0), some (.int roll), some (.int (nI t0)), some (.int (nI k)), some (.int (nI u))]) (st' := [.int ((nI (u / 256)) - (nI (u / 256)) / 1000 * 1000), .int (nI (u / 16 % n)), .int (nI (u % n)), .ref 0]) (M' := x1) (by decide +kernel) rfl ?_
    rw [nI_rem (c := 1000) (b := 1000) rfl (by omega) (by decide) (by decide)]
    refine zT.eq9 (zT.cSr (idx := 192) (av := [.ref 0, .int (nI (u % n)), .int (nI (u / 16 % n)), .int (nI (u / 256 % 1000))]) (st := []) (c_L_isBrokenAsSealed h1 (Nat.mod_lt _ (by omega)) (Nat.mod_lt _ (by omega)) (by omega)) (zLb_up (n := 1) rfl len1) (zVb_up (n := 1) rfl len1) rfl k_L_isBrokenAsSealed (zIn (w := 5148) (by decide +kernel) rfl) (by decide +kernel) (Nat.le_of_ble_eq_true rfl) (by decide +kernel) rfl ?_)
    rintro _ _ x2 ⟨rfl, rfl, h2⟩
    show zT _ _ _ _ (101, _, [.int 1], _, _)
    refine zT.zne (tgt := 106) (off := 5) (by decide +kernel) (by decide) (fun _ => ?_) (fun q => absurd q (by decide))
    have n165 : ∀ (r1 : Int32) (t1 : Nat), XI n (T + 2) t1 x2 → (r1 = 0 ∨ n < 2 * qN n (qB r1)) → zT yy_L_law (0) (0) lZ (165, [some (.retAddr 998), some (.ref 0), some (.int r1), some (.int (nI t1)), some (.int (nI k)), some (.int (nI u))], [], (sh_X sl ext), x2) := by
      intro r1 t1 h3 hR1
      refine zT.run [(.iinc 4 2, 0, 0, 0), (.goto (-134), 0, 0, 0)] (pe := 34) (ls' := [some (.retAddr 998), some (.ref 0), some (.int r1), some (.int (nI t1)), some (.int ((nI k) + 2)), some (.int (nI u))]) (st' := []) (M' := x2) (by decide +kernel) rfl ?_
      rw [show nI k + 2 = nI (k + 2) from nI_add k 2]
      exact ih (k + 2) (T + 2) t1 r1 x2 (some (nI u)) (by omega) (by omega) h3 hR1
    refine zT.run [(.aload_n 1, 0, 0, 0), (.iconst 5, 0, 0, 0)] (pe := 108) (ls' := [some (.retAddr 998), some (.ref 0), some (.int roll), some (.int (nI t0)), some (.int (nI k)), some (.int (nI u))]) (st' := [.int 5, .ref 0]) (M' := x2) (by decide +kernel) rfl ?_
    refine zT.cSw (idx := 113) (av := [.ref 0, .int 5]) (rv := some (.int (x2 12 0))) (st := []) (S1 := [.int (x2 12 0)]) (c_L_office x2 x2 sl ext 5 (x2 12 0) (rd_office5 h2)) rfl k_L_office (zIn (w := 2096) (by decide +kernel) rfl) (by decide +kernel) (Nat.le_of_ble_eq_true rfl) (by decide +kernel) rfl rfl ?_
    refine zT.zeq (tgt := 165) (off := 54) (by decide +kernel) (by decide) (fun _ => n165 roll t0 h2 hR) (fun hp => ?_)
    obtain ⟨hmaj, t, ht, ht0, ht1, hterm, hrr⟩ := xi_term h2 hp
    have r6 : zC yy_X9_office 0 0 [.ref 0, .int 6] (sh_X sl ext) x2 (some (.int (nI t))) (sh_X sl ext) x2 := by
      have := rd_office6 (sl := sl) (ext := ext) h2 hp
      rw [hterm] at this
      exact this
    have r8 : zC yy_X9_office 0 0 [.ref 0, .int 8] (sh_X sl ext) x2 (some (.int (x2 12 3))) (sh_X sl ext) x2 := by
      have := rd_office8 (sl := sl) (ext := ext) h2
      rw [if_neg hp] at this
      exact this
    refine zT.run [(.aload_n 1, 0, 0, 0), (.bipush 6, 0, 0, 0)] (pe := 117) (ls' := [some (.retAddr 998), some (.ref 0), some (.int roll), some (.int (nI t0)), some (.int (nI k)), some (.int (nI u))]) (st' := [.int 6, .ref 0]) (M' := x2) (by decide +kernel) rfl ?_
    refine zT.cSw (idx := 113) (av := [.ref 0, .int 6]) (rv := some (.int (nI t))) (st := []) (S1 := [.int (nI t)]) (c_L_office x2 x2 sl ext 6 (nI t) (r6)) rfl k_L_office (zIn (w := 2096) (by decide +kernel) rfl) (by decide +kernel) (Nat.le_of_ble_eq_true rfl) (by decide +kernel) rfl rfl ?_
    refine zT.run [(.iload_n 3, 0, 0, 0)] (pe := 121) (ls' := [some (.retAddr 998), some (.ref 0), some (.int roll), some (.int (nI t0)), some (.int (nI k)), some (.int (nI u))]) (st' := [.int (nI t0), .int (nI t)]) (M' := x2) (by decide +kernel) rfl ?_
    refine zT.ceq (tgt := 165) (off := 44) (by decide +kernel) (by decide) (fun _ => n165 roll t0 h2 hR) (fun q => ?_)
    have hlt : t0 < t := Nat.lt_of_le_of_ne ht0 fun e => q (by rw [e])
    have n151 : zT yy_L_law (0) (0) lZ (151, [some (.retAddr 998), some (.ref 0), some (.int roll), some (.int (nI t0)), some (.int (nI k)), some (.int (nI u))], [], (sh_X sl ext), x2) := by
      refine zT.run [(.aload_n 1, 0, 0, 0), (.bipush 6, 0, 0, 0)] (pe := 154) (ls' := [some (.retAddr 998), some (.ref 0), some (.int roll), some (.int (nI t0)), some (.int (nI k)), some (.int (nI u))]) (st' := [.int 6, .ref 0]) (M' := x2) (by decide +kernel) rfl ?_
      refine zT.cSw (idx := 113) (av := [.ref 0, .int 6]) (rv := some (.int (nI t))) (st := []) (S1 := [.int (nI t)]) (c_L_office x2 x2 sl ext 6 (nI t) (r6)) rfl k_L_office (zIn (w := 2096) (by decide +kernel) rfl) (by decide +kernel) (Nat.le_of_ble_eq_true rfl) (by decide +kernel) rfl rfl ?_
      refine zT.run [(.istore_n 3, 0, 0, 0), (.aload_n 1, 0, 0, 0), (.bipush 8, 0, 0, 0)] (pe := 161) (ls' := [some (.retAddr 998), some (.ref 0), some (.int roll), some (.int (nI t)), some (.int (nI k)), some (.int (nI u))]) (st' := [.int 8, .ref 0]) (M' := x2) (by decide +kernel) rfl ?_
      refine zT.cSw (idx := 113) (av := [.ref 0, .int 8]) (rv := some (.int (x2 12 3))) (st := []) (S1 := [.int (x2 12 3)]) (c_L_office x2 x2 sl ext 8 (x2 12 3) (r8)) rfl k_L_office (zIn (w := 2096) (by decide +kernel) rfl) (by decide +kernel) (Nat.le_of_ble_eq_true rfl) (by decide +kernel) rfl rfl ?_
      refine zT.run [(.istore_n 2, 0, 0, 0)] (pe := 165) (ls' := [some (.retAddr 998), some (.ref 0), some (.int (x2 12 3)), some (.int (nI t)), some (.int (nI k)), some (.int (nI u))]) (st' := []) (M' := x2) (by decide +kernel) rfl ?_
      exact n165 (x2 12 3) t (xi_t h2 ht ht1 hterm hmaj hrr) (Or.inr hmaj)
    refine zT.run [(.aload_n 1, 0, 0, 0), (.bipush 6, 0, 0, 0)] (pe := 127) (ls' := [some (.retAddr 998), some (.ref 0), some (.int roll), some (.int (nI t0)), some (.int (nI k)), some (.int (nI u))]) (st' := [.int 6, .ref 0]) (M' := x2) (by decide +kernel) rfl ?_
    refine zT.cSw (idx := 113) (av := [.ref 0, .int 6]) (rv := some (.int (nI t))) (st := []) (S1 := [.int (nI t)]) (c_L_office x2 x2 sl ext 6 (nI t) (r6)) rfl k_L_office (zIn (w := 2096) (by decide +kernel) rfl) (by decide +kernel) (Nat.le_of_ble_eq_true rfl) (by decide +kernel) rfl rfl ?_
    refine zT.run [(.iload_n 3, 0, 0, 0)] (pe := 131) (ls' := [some (.retAddr 998), some (.ref 0), some (.int roll), some (.int (nI t0)), some (.int (nI k)), some (.int (nI u))]) (st' := [.int (nI t0), .int (nI t)]) (M' := x2) (by decide +kernel) rfl ?_
    refine zT.cle (tgt := 149) (off := 18) (by decide +kernel) (by decide) (fun c => absurd c (nI_ge (a := t0) (b := t) hlt (by omega))) (fun _ => ?_)
    refine zT.run [(.iload_n 2, 0, 0, 0)] (pe := 135) (ls' := [some (.retAddr 998), some (.ref 0), some (.int roll), some (.int (nI t0)), some (.int (nI k)), some (.int (nI u))]) (st' := [.int roll]) (M' := x2) (by decide +kernel) rfl ?_
    refine zT.zeq (tgt := 151) (off := 16) (by decide +kernel) (by decide) (fun _ => n151) (fun q0 => ?_)
    refine zT.run [(.iload_n 2, 0, 0, 0), (.aload_n 1, 0, 0, 0), (.bipush 8, 0, 0, 0)] (pe := 142) (ls' := [some (.retAddr 998), some (.ref 0), some (.int roll), some (.int (nI t0)), some (.int (nI k)), some (.int (nI u))]) (st' := [.int 8, .ref 0, .int roll]) (M' := x2) (by decide +kernel) rfl ?_
    refine zT.cSw (idx := 113) (av := [.ref 0, .int 8]) (rv := some (.int (x2 12 3))) (st := [.int roll]) (S1 := [.int (x2 12 3), .int roll]) (c_L_office x2 x2 sl ext 8 (x2 12 3) (r8)) rfl k_L_office (zIn (w := 2096) (by decide +kernel) rfl) (by decide +kernel) (Nat.le_of_ble_eq_true rfl) (by decide +kernel) rfl rfl ?_
    refine zT.run [(.iand, 0, 0, 0)] (pe := 146) (ls' := [some (.retAddr 998), some (.ref 0), some (.int roll), some (.int (nI t0)), some (.int (nI k)), some (.int (nI u))]) (st' := [.int (roll &&& (x2 12 3))]) (M' := x2) (by decide +kernel) rfl ?_
    exact zT.zne (tgt := 151) (off := 5) (by decide +kernel) (by decide) (fun _ => n151) (fun c => absurd c (and_maj (hR.resolve_left q0) hmaj))
theorem w_law : zT yy_L_law 291 33231 lZ (0, [some (.retAddr 998), none, none, none, none, none], [], [], zM0) := by
  refine zT.new (kc := 290) (nc := 33223) (ci := 7) (ik := 20) (q := (RX9, TX9, 8)) (fs := [.null, .null, .null, .null, .null, .null, .null, .int 0]) rfl (zIn (w := 1027) (by decide +kernel) rfl) (zIn (w := 1028) (by decide +kernel) rfl) (zIn (w := 1001) (by decide +kernel) rfl) (by decide +kernel) rfl (fun _ _ => rfl) (fun q h => absurd h List.not_mem_nil) rfl rfl (by decide +kernel) ?_
  show zT _ _ _ _ (3, _, [.ref 0], [] ++ [.inr (7, [.null, .null, .null, .null, .null, .null, .null, .int 0])].map (zRe 0), zUa zM0 0 fun _ => 0)
  refine zT.congM (M2 := zM0) (fun k hk => ?_) ?_
  · have hk : k < 1 := hk
    obtain rfl : k = 0 := by omega
    exact zUa_eq
  refine zT.run [(.dup, 0, 0, 0)] (pe := 4) (ls' := [some (.retAddr 998), none, none, none, none, none]) (st' := [.ref 0, .ref 0]) (M' := zM0) (by decide +kernel) rfl ?_
  refine zT.callI (kc := 100) (nc := 30000) (pre := []) (sc := [.inr (7, [.null, .null, .null, .null, .null, .null, .null, .int 0])]) (b := 0) (o := 0) (idx := 178) (av := []) (st := [.ref 0]) (n := 0) (N := zM0) c_X9_init rfl rfl rfl (fun q h => absurd h List.not_mem_nil) rfl rfl (fun j _ => rfl) rfl k_X9_init rfl (zIn (w := 1030) (by decide +kernel) rfl) (zIn (w := 1029) (by decide +kernel) rfl) (by decide +kernel) (Nat.le_of_ble_eq_true rfl) (by decide +kernel) rfl ?_
  have hcs : zCs (sh_X (fun _ => none) []).length (sh_X (fun _ => none) []) := zCs_X (by rw [zX_len]; omega) (fun j q h => by cases h) (fun q h => by cases h)
  have hx := xi_new
  refine zT.eqSh (sh2 := sh_X (fun _ => none) []) (by rw [List.nil_append, zMapRe0]) (zT.congM (M2 := zXI12) (fun k hk => zPs_all hk) ?_)
  have hcell : zXI12 2 0 = 0 := congrFun (b_x (o := 2) (by decide)) 0
  have h331 : zXI12 33 1 = nI 0 := congrFun (b_x (o := 33) (by decide)) 1
  have h330 : zXI12 33 0 = nI 0 := congrFun (b_x (o := 33) (by decide)) 0
  obtain ⟨sl, hsl⟩ : ∃ sl : Nat → Option Nat, sl = fun _ => none := ⟨_, rfl⟩
  obtain ⟨ext, hext⟩ : ∃ ext : List va_E, ext = [] := ⟨_, rfl⟩
  rw [← hsl, ← hext] at hcs ⊢
  clear hsl hext
  generalize zXI12 = x at hx hcell h331 h330 ⊢
  refine zT.run [(.astore_n 1, 0, 0, 0), (.aload_n 1, 0, 0, 0)] (pe := 9) (ls' := [some (.retAddr 998), some (.ref 0), none, none, none, none]) (st' := [.ref 0]) (M' := x) (by decide +kernel) rfl ?_
  refine zT.cS_own (idx := 179) (av := [.ref 0]) (rv := some (.int 1)) (st := []) (S1 := [.int 1]) (c_L_isSound hx (by decide)) k_L_isSound rfl (zIn (w := 5103) (by decide +kernel) rfl) (by decide +kernel) (by decide +kernel) rfl (Nat.le_of_ble_eq_true rfl) rfl ?_
  refine zT.zeq (tgt := 24) (off := 12) (by decide +kernel) (by decide) (fun q => absurd q (by decide)) (fun _ => ?_)
  refine zT.run [(.aload_n 1, 0, 0, 0), (.aload_n 0, 0, 0, 0)] (pe := 17) (ls' := [some (.retAddr 998), some (.ref 0), none, none, none, none]) (st' := [.retAddr 998, .ref 0]) (M' := x) (by decide +kernel) rfl ?_
  refine zT.cSr (kc := 0) (nc := 0) (idx := 183) (av := [.ref 0, .retAddr 998]) (st := []) (c_L_began hcs hcell h331 (by decide) h330 (by decide)) (zLb_up (n := 1) rfl len1) rfl rfl k_L_began (zIn (w := 2194) (by decide +kernel) rfl) (by decide +kernel) (Nat.le_of_ble_eq_true rfl) (by decide +kernel) rfl ?_
  rintro _ _ x1 ⟨n, ext1, rfl, rfl, hcs1, h1⟩
  obtain ⟨-, h2n, h9⟩ := xi_n h1
  show zT _ _ _ _ (20, _, [.int (nI n)], _, _)
  refine zT.run [(.iconst 2, 0, 0, 0)] (pe := 21) (ls' := [some (.retAddr 998), some (.ref 0), none, none, none, none]) (st' := [.int 2, .int (nI n)]) (M' := x1) (by decide +kernel) rfl ?_
  refine zT.cge (tgt := 26) (off := 5) (by decide +kernel) (by decide) (fun _ => ?_) (fun c => absurd (nI_le (a := 2) (b := n) h2n (by omega)) c)
  refine zT.run [(.iconst 0, 0, 0, 0), (.istore_n 2, 0, 0, 0), (.iconst 0, 0, 0, 0), (.istore_n 3, 0, 0, 0), (.bipush 10, 0, 0, 0), (.istore 4, 0, 0, 0)] (pe := 34) (ls' := [some (.retAddr 998), some (.ref 0), some (.int 0), some (.int 0), some (.int 10), none]) (st' := []) (M' := x1) (by decide +kernel) rfl ?_
  show zT _ _ _ _ (34, [some (.retAddr 998), some (.ref 0), some (.int 0), some (.int (nI 0)), some (.int (nI 10)), none], [], _, _)
  exact w_law34 hcs1 18 10 0 0 0 x1 none rfl (by decide) h1 (Or.inl rfl)

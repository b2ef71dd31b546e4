/-! THE LAW: an office is opened, all of it -/
theorem dg_mem {v c : Nat} (hv : v < 100) (h : c ∈ dg v) : c < 128 := by
  unfold dg at h
  split at h
  · rw [List.mem_singleton.mp h]; omega
  · rcases List.mem_cons.mp h with h | h
    · rw [h]; omega
    · rw [List.mem_singleton.mp h]; omega
theorem pcs_chr : ∀ ps, (∀ q ∈ ps, oky q) → ∀ c ∈ pcs ps, c < 128
  | [], _, c, h => by cases h
  | q :: r, hok, c, h => by
    obtain ⟨h1, h2, h3⟩ := hok q (by simp)
    rcases List.mem_append.mp h with h | h
    · unfold pc at h
      rcases List.mem_append.mp h with h | h
      · exact zTx_chr 20 (by decide) c h
      rcases List.mem_append.mp h with h | h
      · exact dg_mem (by omega) h
      rcases List.mem_append.mp h with h | h
      · rw [List.mem_singleton.mp h]; decide
      rcases List.mem_append.mp h with h | h
      · exact dg_mem (by omega) h
      · rw [List.mem_singleton.mp h]; decide
    · exact pcs_chr r (fun q hq => hok q (by simp [hq])) c h
theorem gd_chr {t : List Nat} (h : ∀ c ∈ t, c < 128) (j : Nat) : t.getD j 32 < 128 := by
  rw [List.getD_eq_getElem?_getD]
  cases e : t[j]? with
  | none => decide
  | some c => exact h c (List.mem_of_getElem? e)
theorem c_L_began {sl : Nat → Option Nat} {ext : List va_E} {x : zM} (hcs : zCs (sh_X sl ext).length (sh_X sl ext)) (h20 : x 2 0 = 0) {nx hp : Nat} (hx : x 33 1 = nI nx) (h11 : nx < 11) (hp0 : x 33 0 = nI hp) (h10 : hp ≤ 10) : zCr yy_L_began 100 30000 [.ref 0, .retAddr 998] (sh_X sl ext) x (fun rv sh' x' => ∃ n ext', rv = some (.int (nI n)) ∧ sh' = sh_X sl ext' ∧ zCs sh'.length sh' ∧ XI n 0 0 x') := by
  refine zCr.of (by decide +kernel) rfl (Nat.le_of_ble_eq_true rfl) ?_
  have hB : 191 ≤ (sh_X sl ext).length := by rw [zX_len]; omega
  obtain ⟨B, eB⟩ : ∃ B, sh_X sl ext = B := ⟨_, rfl⟩
  rw [eB] at hcs hB ⊢
  refine zT.new (kc := 99) (nc := 29996) (ci := 8) (ik := 75) (q := (RJ4, TJ4, 4)) (fs := [.null, .int 0, .int 0, .int 0]) rfl (zIn (w := 2197) (by decide +kernel) rfl) (zIn (w := 2198) (by decide +kernel) rfl) (zIn (w := 1019) (by decide +kernel) rfl) (by decide +kernel) rfl (fun _ _ => rfl) hcs (zLb_up (n := 1) rfl (by omega)) rfl (by decide +kernel) ?_
  refine zT.run [(.dup, 0, 0, 0)] (pe := 4) (ls' := [some (.ref 0), some (.retAddr 998), none, none, none, none, none, none]) (st' := [.ref B.length, .ref B.length]) (M' := (zUa x B.length fun _ => 0)) (by decide +kernel) rfl ?_
  refine zT.ldcS (k := 0) rfl rfl (by decide +kernel) ?_
  have h03 : zPl (zUa x B.length fun _ => 0) B.length 0 3 = 0 := by
    show (zUa x B.length fun _ => 0) (B.length + 0) 3 = 0
    rw [Nat.add_zero, zUa_eq]
  refine zT.callIr (kc := 97) (nc := 29436) (pre := B) (sc := [.inr (8, [.null, .int 0, .int 0, .int 0])]) (b := B.length) (o := 0) (ci := 8) (q := (RJ4, TJ4, 4)) (idx := 79) (av := [.retAddr (200 + 15)]) (st := [.ref B.length]) (N := zPl (zUa x B.length fun _ => 0) B.length) (c_J4_init 15 (by decide) rfl (zCs_of rfl) h03) rfl (hcs.mono (by omega)) (zLb_up (n := 1) rfl (by omega)) (by simp [zVb]) (fun j _ => rfl) rfl (by decide) rfl rfl k_J4_init_a7421 (zIn (w := 2200) (by decide +kernel) rfl) (by decide +kernel) (Nat.le_of_ble_eq_true rfl) (by decide +kernel) rfl ?_
  rintro _ sc N ⟨rfl, hE⟩
  have hS : SB sc (zPl (zPs (zUa x B.length fun _ => 0) B.length sc.length N) B.length) (zTxt 15) (zTxt 15).length := hE.congr (fun o ho => zPl_ps ho)
  have hM : ∀ o, o < B.length → zPs (zUa x B.length fun _ => 0) B.length sc.length N o = x o := fun o ho => (zPs_out (Or.inl ho)).trans (zUa_ne (by omega))
  generalize zPs (zUa x B.length fun _ => 0) B.length sc.length N = M at hS hM ⊢
  clear hE
  have hlen := sbL (B := B) hS
  show zT _ _ _ _ (9, _, [.ref B.length], _, _)
  refine zT.run [(.astore_n 2, 0, 0, 0), (.aload_n 1, 0, 0, 0), (.iconst 0, 0, 0, 0), (.iconst 2, 0, 0, 0), (.bipush 8, 0, 0, 0)] (pe := 15) (ls' := [some (.ref 0), some (.retAddr 998), some (.ref B.length), none, none, none, none, none]) (st' := [.int 8, .int 2, .int 0, .retAddr 998]) (M' := M) (by decide +kernel) rfl ?_
  refine zT.cSi (sh := (B ++ sc.map (zRe B.length))) (av := [.retAddr 998, .int (nI 0), .int (nI 2), .int (nI 8)]) (idx := 82) (st := []) (c_L_of 0 2 8 (by decide) (by decide) (by decide)) rfl k_L_of (zIn (w := 3110) (by decide +kernel) rfl) (by decide +kernel) (Nat.le_of_ble_eq_true rfl) (zLb_up (n := B.length + 1) (by simp [zLb, zVb]) hlen) rfl (hS.zCs hcs) (by decide +kernel) rfl rfl ?_
  rintro v ⟨j, hj, rfl⟩
  have hn2 : 2 ≤ 2 + j ∧ 2 + j ≤ 9 := by omega
  generalize 2 + j = n at hn2 ⊢
  refine zT.run [(.istore_n 3, 0, 0, 0), (.iconst 0, 0, 0, 0), (.istore 4, 0, 0, 0)] (pe := 22) (ls' := [some (.ref 0), some (.retAddr 998), some (.ref B.length), some (.int (nI n)), some (.int 0), none, none, none]) (st' := []) (M' := M) (by decide +kernel) rfl ?_
  refine zT.widen (k := 5 * n + 13) (n := 2500 * n + 65) (by omega) (by omega) ?_
  refine w_began22 (x := x) hcs (n := n) hn2.2 (K := 13) (D := 65) (fun ps sc M q l5 hps hok hS hM => ?_) n 0 [] sc M _ none (Nat.zero_add _) rfl (fun q hq => by cases hq) (by show SB sc _ (zTxt 15 ++ []) _; rw [List.append_nil]; exact hS) hM
  refine zT.run [(.iconst 0, 0, 0, 0), (.istore 4, 0, 0, 0)] (pe := 87) (ls' := [some (.ref 0), some (.retAddr 998), some (.ref B.length), some (.int (nI n)), some (.int 0), (l5.map Value.int), none, none]) (st' := []) (M' := M) (by decide +kernel) rfl ?_
  show zT _ _ _ _ (87, [some (.ref 0), some (.retAddr 998), some (.ref B.length), some (.int (nI n)), some (.int (nI (20 * 0))), (l5.map Value.int), none, none], [], _, _)
  have hl15 := tx15l
  have hpl := pcs_le ps hok
  have htl : (zTxt 15 ++ pcs ps).length = 7 + (pcs ps).length := by rw [List.length_append, hl15]
  have hT : ∀ j, (zTxt 15 ++ pcs ps).getD j 32 < 128 := gd_chr fun c hc => (List.mem_append.mp hc).elim (zTx_chr 15 (by decide) c) (pcs_chr ps hok c)
  refine w_began87 (x := x) eB.symm hB hcs (by omega) hT (fun k sc M q l5 l6 l7 hge hk13 hS hX hM => ?_) 13 0 sc M q _ _ _ rfl hS ⟨(congrFun (hM 2 (by omega)) 0).trans h20, fun j hj => absurd hj (by omega)⟩ (fun o _ ho => hM o ho) (by cases l5 <;> rfl)
  have h33 : M 33 = x 33 := hM 33 (by decide) (by omega)
  obtain ⟨x', g1, g2⟩ := p_load (ty := 20 * k) (T := fun j => (zTxt 15 ++ pcs ps).getD j 32) (by omega) hT hX (by omega) (by omega) hok (fun j hj => by rw [Nat.zero_add]; exact gd_lt hj) (by omega) (fun j hj => gd_ge (by omega)) (by rw [h33]; exact hx) h11 (by rw [h33]; exact hp0) h10
  have hC := c_X9_load M sl (ext ++ sc.map (zRe B.length)) (20 * k) nx hX.1 (by omega) (by rw [h33]; exact hx) h11
  rw [g1] at hC
  have esh : B ++ sc.map (zRe B.length) = sh_X sl (ext ++ sc.map (zRe B.length)) := by rw [← ext_X, eB]
  refine zT.eqSh esh ?_
  refine zT.run [(.aload_n 0, 0, 0, 0)] (pe := 200) (ls' := [some (.ref 0), some (.retAddr 998), some (.ref B.length), some (.int (nI n)), some (.int (nI (20 * k))), l5, l6, l7]) (st' := [.ref 0]) (M' := M) (by decide +kernel) rfl ?_
  refine zT.cVx (o := 0) (idx := 110) (av := []) (rv := some (.int (nI ps.length))) (st := []) (S1 := [.int (nI ps.length)]) (hC) k_X9_load 7 _ rfl rfl rfl (zIn (w := 3193) (by decide +kernel) rfl) (by decide +kernel) (Nat.le_of_ble_eq_true rfl) (by decide +kernel) rfl rfl ?_
  exact zT.retI (ty := .int) ⟨ps.length, _, rfl, rfl, by rw [← esh]; exact hS.zCs hcs, g2⟩ rfl rfl (by decide +kernel)
theorem k_L_began : zCad yy_L_began 2 := ⟨⟨⟨zIn (w := 2196) (by decide +kernel) rfl, zIn (w := 1000) (by decide +kernel) rfl⟩, by decide +kernel⟩, zIn (w := 2195) (by decide +kernel) rfl⟩

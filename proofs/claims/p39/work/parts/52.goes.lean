/-! THE LAW: it goes on with a ballot; it acts -/
theorem zVb_up {n m : Nat} : ∀ {st : List Value}, st.all (zVb n) = true → n ≤ m → st.all (zVb m) = true
  | [], _, _ => rfl
  | v :: r, h, hm => by
    rw [List.all_cons, Bool.and_eq_true] at h ⊢
    refine ⟨?_, zVb_up h.2 hm⟩
    have h1 := h.1
    cases v with
    | ref k =>
      have : k < n := Nat.le_of_ble_eq_true h1
      have h3 : k < m := Nat.lt_of_lt_of_le this hm
      exact Nat.ble_eq_true_of_le h3
    | _ => rfl
theorem zLb_up {n m : Nat} : ∀ {ls : zL}, zLb n ls = true → n ≤ m → zLb m ls = true
  | [], _, _ => rfl
  | none :: r, h, hm => by
    simp only [zLb, List.all_cons, Bool.and_eq_true] at h ⊢
    exact ⟨trivial, zLb_up h.2 hm⟩
  | some v :: r, h, hm => by
    simp only [zLb, List.all_cons, Bool.and_eq_true] at h ⊢
    refine ⟨?_, zLb_up h.2 hm⟩
    have := zVb_up (st := [v]) (by simp only [List.all_cons, List.all_nil, Bool.and_true]; exact h.1) hm
    simpa using this
theorem zT.eq9 {Y : zY} {kc nc : Nat} {Z : zS → Prop} {S : zS} (h : zT Y (0 + kc) (0 + nc) Z S) : zT Y kc nc Z S := by
  rw [Nat.zero_add, Nat.zero_add] at h
  exact h
theorem len1 {sl : Nat → Option Nat} {ext : List va_E} : 1 ≤ (sh_X sl ext).length := by
  rw [zX_len]
  omega
noncomputable abbrev yy_L_breaks : zY := (yL_breaks, cL_breaks, 4, (some Jvm.ClassFile.FieldType.boolean), 12, 268)
theorem c_L_breaks {n T t0 : Nat} {x : zM} {sl : Nat → Option Nat} {ext : List va_E} (h : XI n T t0 x) {v c : Nat} (hv : v < n) (hc : c < n) : zCr yy_L_breaks 0 0 [.ref 0, .int (nI v), .int (nI c)] (sh_X sl ext) x (fun rv sh' x' => sh' = sh_X sl ext ∧ ∃ b : Int32, rv = some (.int b) ∧ XI n T t0 x' ∧ (b = 0 → x' 12 = x 12)) := by
  refine zCr.of (by decide +kernel) rfl (Nat.le_of_ble_eq_true rfl) ?_
  refine zT.run [(.bipush 7, 0, 0, 0), (.iload_n 1, 0, 0, 0), (.imul, 0, 0, 0), (.iload_n 2, 0, 0, 0), (.iadd, 0, 0, 0)] (pe := 6) (ls' := [some (.ref 0), some (.int (nI v)), some (.int (nI c)), none]) (st' := [.int ((7 * (nI v)) + (nI c))]) (M' := x) (by decide +kernel) rfl ?_
  rw [nI_mulc (c := 7) (k := 7) rfl, nI_add]
  refine zT.run [(.istore_n 3, 0, 0, 0), (.aload_n 0, 0, 0, 0), (.iload_n 1, 0, 0, 0), (.iload_n 2, 0, 0, 0)] (pe := 10) (ls' := [some (.ref 0), some (.int (nI v)), some (.int (nI c)), some (.int (nI (7 * v + c)))]) (st' := [.int (nI c), .int (nI v), .ref 0]) (M' := x) (by decide +kernel) rfl ?_
  refine zT.cSw (idx := 138) (av := [.ref 0, .int (nI v), .int (nI c)]) (rv := some (.int (g_X9_nonceFor x n v c))) (st := []) (S1 := [.int (g_X9_nonceFor x n v c)]) (c_L_nonceOf x x sl ext (nI v) (nI c) (g_X9_nonceFor x n v c) (rd_nonce h hv hc)) rfl k_L_nonceOf (zIn (w := 5028) (by decide +kernel) rfl) (by decide +kernel) (Nat.le_of_ble_eq_true rfl) (by decide +kernel) rfl rfl ?_
  refine zT.run [(.iload_n 3, 0, 0, 0)] (pe := 14) (ls' := [some (.ref 0), some (.int (nI v)), some (.int (nI c)), some (.int (nI (7 * v + c)))]) (st' := [.int (nI (7 * v + c)), .int (g_X9_nonceFor x n v c)]) (M' := x) (by decide +kernel) rfl ?_
  refine zT.ceq (tgt := 19) (off := 5) (by decide +kernel) (by decide) (fun q0 => ?_) (fun q0 => ?_)
  · skip
    refine zT.run [(.aload_n 0, 0, 0, 0), (.iload_n 1, 0, 0, 0), (.iload_n 2, 0, 0, 0), (.iload_n 3, 0, 0, 0)] (pe := 23) (ls' := [some (.ref 0), some (.int (nI v)), some (.int (nI c)), some (.int (nI (7 * v + c)))]) (st' := [.int (nI (7 * v + c)), .int (nI c), .int (nI v), .ref 0]) (M' := x) (by decide +kernel) rfl ?_
    obtain ⟨a, x2, hC, h2, h3⟩ := ft_break2 (sl := sl) (ext := ext) h hv hc (b := 7 * v + c) (by have := (xi_n h).2.2; omega)
    refine zT.cSw (idx := 127) (av := [.ref 0, .int (nI v), .int (nI c), .int (nI (7 * v + c))]) (rv := some (.int a)) (st := []) (S1 := [.int a]) (c_L_breakSeal x x2 sl ext (nI v) (nI c) (nI (7 * v + c)) a (hC)) rfl k_L_breakSeal (zIn (w := 5009) (by decide +kernel) rfl) (by decide +kernel) (Nat.le_of_ble_eq_true rfl) (by decide +kernel) rfl rfl ?_
    refine zT.zlt (tgt := 33) (off := 7) (by decide +kernel) (by decide) (fun q0 => ?_) (fun q0 => ?_)
    · skip
      refine zT.run [(.iconst 0, 0, 0, 0)] (pe := 34) (ls' := [some (.ref 0), some (.int (nI v)), some (.int (nI c)), some (.int (nI (7 * v + c)))]) (st' := [.int 0]) (M' := x2) (by decide +kernel) rfl ?_
      exact zT.retI (ty := .boolean) ⟨rfl, 0, rfl, h2, fun _ => h3 q0⟩ rfl rfl (by decide +kernel)
    · skip
      refine zT.run [(.iconst 1, 0, 0, 0), (.goto 4, 0, 0, 0)] (pe := 34) (ls' := [some (.ref 0), some (.int (nI v)), some (.int (nI c)), some (.int (nI (7 * v + c)))]) (st' := [.int 1]) (M' := x2) (by decide +kernel) rfl ?_
      exact zT.retI (ty := .boolean) ⟨rfl, 1, rfl, h2, fun q => absurd q (by decide)⟩ rfl rfl (by decide +kernel)
  · skip
    refine zT.run [(.iconst 0, 0, 0, 0)] (pe := 18) (ls' := [some (.ref 0), some (.int (nI v)), some (.int (nI c)), some (.int (nI (7 * v + c)))]) (st' := [.int 0]) (M' := x) (by decide +kernel) rfl ?_
    exact zT.retI (ty := .boolean) ⟨rfl, 0, rfl, h, fun _ => rfl⟩ rfl rfl (by decide +kernel)
theorem k_L_breaks : zCad yy_L_breaks 3 := ⟨⟨⟨zIn (w := 5027) (by decide +kernel) rfl, zIn (w := 1000) (by decide +kernel) rfl⟩, by decide +kernel⟩, zIn (w := 5026) (by decide +kernel) rfl⟩
noncomputable abbrev yy_L_goesOn : zY := (yL_goesOn, cL_goesOn, 7, none, 13, 291)
theorem w_goesOn205 {n T t0 : Nat} {sl : Nat → Option Nat} {ext : List va_E} (ls : zL) (x : zM) (h : XI n T t0 x) : zT yy_L_goesOn 0 0 (zEndR yy_L_goesOn (fun rv sh' x' => rv = none ∧ sh' = sh_X sl ext ∧ XI n (T + 1) t0 x')) (205, some (.ref 0) :: ls, [], (sh_X sl ext), x) := by
  refine zT.run [(.aload_n 0, 0, 0, 0)] (pe := 206) (ls' := some (.ref 0) :: ls) (st' := [.ref 0]) (M' := x) (by decide +kernel) rfl ?_
  obtain ⟨a, x2, hC, h2⟩ := ft_count (sl := sl) (ext := ext) h
  refine zT.cVx (o := 0) (idx := 135) (av := []) (rv := some (.int a)) (st := []) (S1 := [.int a]) (hC) k_X9_count 7 _ rfl rfl rfl (zIn (w := 5042) (by decide +kernel) rfl) (by decide +kernel) (Nat.le_of_ble_eq_true rfl) (by decide +kernel) rfl rfl ?_
  refine zT.run [(.pop, 0, 0, 0)] (pe := 210) (ls' := some (.ref 0) :: ls) (st' := []) (M' := x2) (by decide +kernel) rfl ?_
  exact zT.retV ⟨rfl, rfl, h2.up (Nat.le_succ T)⟩ rfl (by decide +kernel)
theorem w_goesOn {n T t0 : Nat} {sl : Nat → Option Nat} {ext : List va_E} (hT : T < 3000) {u p : Nat} (hu : u < 2 ^ 31) (h205 : ∀ (ls : zL) (x : zM), XI n T t0 x → zT yy_L_goesOn 0 0 (zEndR yy_L_goesOn (fun rv sh' x' => rv = none ∧ sh' = sh_X sl ext ∧ XI n (T + 1) t0 x')) (205, some (.ref 0) :: ls, [], (sh_X sl ext), x)) : ∀ (x : zM) (v k : Nat), XI n T t0 x → x 12 0 = nI p → v < n → zT yy_L_goesOn 0 0 (zEndR yy_L_goesOn (fun rv sh' x' => rv = none ∧ sh' = sh_X sl ext ∧ XI n (T + 1) t0 x')) (61, [some (.ref 0), some (.int (nI u)), some (.int (nI n)), some (.int (nI p)), some (.int (nI v)), some (.int (nI k)), none], [], (sh_X sl ext), x) := by
  intro x v k h hp hv
  obtain ⟨-, h2n, h9⟩ := xi_n h
  refine zT.run [(.iload_n 1, 0, 0, 0), (.bipush 16, 0, 0, 0), (.idiv, 0, 0, 0), (.iconst 3, 0, 0, 0), (.irem, 0, 0, 0), (.iload_n 2, 0, 0, 0)] (pe := 68) (ls' := [some (.ref 0), some (.int (nI u)), some (.int (nI n)), some (.int (nI p)), some (.int (nI v)), some (.int (nI k)), none]) (st' := [.int (nI n), .int (((nI u) / 16) - ((nI u) / 16) / 3 * 3)]) (M' := x) (by decide +kernel) rfl ?_
  rw [nI_div (c := 16) (b := 16) rfl hu (by decide) (by decide), nI_rem (c := 3) (b := 3) rfl (by omega) (by decide) (by decide)]
  refine zT.iremN (by omega) (by omega) (by omega) (by decide +kernel) ?_
  have hcd : u / 16 % 3 % n < n := Nat.mod_lt _ (by omega)
  generalize u / 16 % 3 % n = cd at hcd ⊢
  refine zT.run [(.istore 5, 0, 0, 0), (.iload_n 3, 0, 0, 0)] (pe := 72) (ls' := [some (.ref 0), some (.int (nI u)), some (.int (nI n)), some (.int (nI p)), some (.int (nI v)), some (.int (nI cd)), none]) (st' := [.int (nI p)]) (M' := x) (by decide +kernel) rfl ?_
  have h80 : zT yy_L_goesOn 0 0 (zEndR yy_L_goesOn (fun rv sh' x' => rv = none ∧ sh' = sh_X sl ext ∧ XI n (T + 1) t0 x')) (80, [some (.ref 0), some (.int (nI u)), some (.int (nI n)), some (.int (nI p)), some (.int (nI v)), some (.int (nI cd)), none], [], (sh_X sl ext), x) := by
    refine zT.run [(.aload_n 0, 0, 0, 0), (.iload 4, 0, 0, 0)] (pe := 83) (ls' := [some (.ref 0), some (.int (nI u)), some (.int (nI n)), some (.int (nI p)), some (.int (nI v)), some (.int (nI cd)), none]) (st' := [.int (nI v), .ref 0]) (M' := x) (by decide +kernel) rfl ?_
    obtain ⟨a, x2, hC, h2⟩ := ft_call (sl := sl) (ext := ext) h hT hv
    refine zT.cSw (idx := 119) (av := [.ref 0, .int (nI v)]) (rv := some (.int a)) (st := []) (S1 := [.int a]) (c_L_call x x2 sl ext (nI v) a (hC)) rfl k_L_call (zIn (w := 4226) (by decide +kernel) rfl) (by decide +kernel) (Nat.le_of_ble_eq_true rfl) (by decide +kernel) rfl rfl ?_
    refine zT.run [(.pop, 0, 0, 0), (.goto 123, 0, 0, 0)] (pe := 210) (ls' := [some (.ref 0), some (.int (nI u)), some (.int (nI n)), some (.int (nI p)), some (.int (nI v)), some (.int (nI cd)), none]) (st' := []) (M' := x2) (by decide +kernel) rfl ?_
    exact zT.retV ⟨rfl, rfl, h2⟩ rfl (by decide +kernel)
  refine zT.zeq (tgt := 80) (off := 8) (by decide +kernel) (by decide) (fun _ => h80) (fun q0 => ?_)
  refine zT.run [(.iload_n 3, 0, 0, 0), (.iconst 3, 0, 0, 0)] (pe := 77) (ls' := [some (.ref 0), some (.int (nI u)), some (.int (nI n)), some (.int (nI p)), some (.int (nI v)), some (.int (nI cd)), none]) (st' := [.int 3, .int (nI p)]) (M' := x) (by decide +kernel) rfl ?_
  refine zT.cne (tgt := 90) (off := 13) (by decide +kernel) (by decide) (fun q3 => ?_) (fun _ => h80)
  refine zT.run [(.iload_n 3, 0, 0, 0), (.iconst 1, 0, 0, 0)] (pe := 92) (ls' := [some (.ref 0), some (.int (nI u)), some (.int (nI n)), some (.int (nI p)), some (.int (nI v)), some (.int (nI cd)), none]) (st' := [.int 1, .int (nI p)]) (M' := x) (by decide +kernel) rfl ?_
  refine zT.cne (tgt := 122) (off := 30) (by decide +kernel) (by decide) (fun q1 => ?_) (fun q1 => ?_)
  · skip
    refine zT.run [(.iload_n 1, 0, 0, 0), (.bipush 8, 0, 0, 0), (.irem, 0, 0, 0)] (pe := 126) (ls' := [some (.ref 0), some (.int (nI u)), some (.int (nI n)), some (.int (nI p)), some (.int (nI v)), some (.int (nI cd)), none]) (st' := [.int ((nI u) - (nI u) / 8 * 8)]) (M' := x) (by decide +kernel) rfl ?_
    refine zT.zne (tgt := 149) (off := 23) (by decide +kernel) (by decide) (fun q8 => ?_) (fun q8 => ?_)
    · skip
      have hp0 : ¬ x 12 0 = 0 := by rw [hp]; exact q0
      have loop : ∀ (j k : Nat) (x : zM), k + j = 4 → XI n T t0 x → ¬ x 12 0 = 0 → zT yy_L_goesOn 0 0 (zEndR yy_L_goesOn (fun rv sh' x' => rv = none ∧ sh' = sh_X sl ext ∧ XI n (T + 1) t0 x')) (152, [some (.ref 0), some (.int (nI u)), some (.int (nI n)), some (.int (nI p)), some (.int (nI v)), some (.int (nI cd)), some (.int (nI k))], [], (sh_X sl ext), x) := by
        intro j
        induction j with
        | zero =>
          intro k x hk h hp0
          refine zT.run [(.iload 6, 0, 0, 0), (.iconst 3, 0, 0, 0)] (pe := 155) (ls' := [some (.ref 0), some (.int (nI u)), some (.int (nI n)), some (.int (nI p)), some (.int (nI v)), some (.int (nI cd)), some (.int (nI k))]) (st' := [.int 3, .int (nI k)]) (M' := x) (by decide +kernel) rfl ?_
          refine zT.cge (tgt := 205) (off := 50) (by decide +kernel) (by decide) (fun _ => h205 _ _ h) (fun c => absurd (nI_le (a := 3) (b := k) (by omega) (by omega)) c)
        | succ j ih =>
          intro k x hk h hp0
          refine zT.run [(.iload 6, 0, 0, 0), (.iconst 3, 0, 0, 0)] (pe := 155) (ls' := [some (.ref 0), some (.int (nI u)), some (.int (nI n)), some (.int (nI p)), some (.int (nI v)), some (.int (nI cd)), some (.int (nI k))]) (st' := [.int 3, .int (nI k)]) (M' := x) (by decide +kernel) rfl ?_
          refine zT.cge (tgt := 205) (off := 50) (by decide +kernel) (by decide) (fun _ => h205 _ _ h) (fun c3 => ?_)
          refine zT.run [(.iload 6, 0, 0, 0), (.iload_n 2, 0, 0, 0)] (pe := 161) (ls' := [some (.ref 0), some (.int (nI u)), some (.int (nI n)), some (.int (nI p)), some (.int (nI v)), some (.int (nI cd)), some (.int (nI k))]) (st' := [.int (nI n), .int (nI k)]) (M' := x) (by decide +kernel) rfl ?_
          refine zT.cge (tgt := 205) (off := 44) (by decide +kernel) (by decide) (fun _ => h205 _ _ h) (fun cn => ?_)
          have hkn : k < n := Nat.lt_of_not_le fun q => cn (nI_le q (by omega))
          obtain ⟨hroll, t, ht, ht0, ht1, hterm, -⟩ := xi_term h hp0
          refine zT.run [(.aload_n 0, 0, 0, 0), (.iload 6, 0, 0, 0), (.bipush 7, 0, 0, 0), (.iload 4, 0, 0, 0), (.imul, 0, 0, 0), (.iload 6, 0, 0, 0), (.iadd, 0, 0, 0)] (pe := 175) (ls' := [some (.ref 0), some (.int (nI u)), some (.int (nI n)), some (.int (nI p)), some (.int (nI v)), some (.int (nI cd)), some (.int (nI k))]) (st' := [.int ((7 * (nI v)) + (nI k)), .int (nI k), .ref 0]) (M' := x) (by decide +kernel) rfl ?_
          rw [nI_mulc (c := 7) (k := 7) rfl, nI_add]
          refine zT.run [(.aload_n 0, 0, 0, 0), (.bipush 6, 0, 0, 0)] (pe := 178) (ls' := [some (.ref 0), some (.int (nI u)), some (.int (nI n)), some (.int (nI p)), some (.int (nI v)), some (.int (nI cd)), some (.int (nI k))]) (st' := [.int 6, .ref 0, .int (nI (7 * v + k)), .int (nI k), .ref 0]) (M' := x) (by decide +kernel) rfl ?_
          refine zT.cSw (idx := 113) (av := [.ref 0, .int 6]) (rv := some (.int (x 12 1))) (st := [.int (nI (7 * v + k)), .int (nI k), .ref 0]) (S1 := [.int (x 12 1), .int (nI (7 * v + k)), .int (nI k), .ref 0]) (c_L_office x x sl ext 6 (x 12 1) (rd_office6 h hp0)) rfl k_L_office (zIn (w := 2096) (by decide +kernel) rfl) (by decide +kernel) (Nat.le_of_ble_eq_true rfl) (by decide +kernel) rfl rfl ?_
          rw [hterm]
          refine zT.cSw (idx := 129) (av := [.ref 0, .int (nI k), .int (nI (7 * v + k)), .int (nI t)]) (rv := some (.int (g_X9_sealFor n k (nI (7 * v + k)) (nI t)))) (st := []) (S1 := [.int (g_X9_sealFor n k (nI (7 * v + k)) (nI t))]) (c_L_sealFor x x sl ext (nI k) (nI (7 * v + k)) (nI t) (g_X9_sealFor n k (nI (7 * v + k)) (nI t)) (rd_sealFor h hkn (by omega) (by omega))) rfl k_L_sealFor (zIn (w := 5017) (by decide +kernel) rfl) (by decide +kernel) (Nat.le_of_ble_eq_true rfl) (by decide +kernel) rfl rfl ?_
          have nxt : ∀ x2 : zM, XI n T t0 x2 → ¬ x2 12 0 = 0 → zT yy_L_goesOn 0 0 (zEndR yy_L_goesOn (fun rv sh' x' => rv = none ∧ sh' = sh_X sl ext ∧ XI n (T + 1) t0 x')) (199, [some (.ref 0), some (.int (nI u)), some (.int (nI n)), some (.int (nI p)), some (.int (nI v)), some (.int (nI cd)), some (.int (nI k))], [], (sh_X sl ext), x2) := by
            intro x2 hx2 hp2
            refine zT.run [(.iinc 6 1, 0, 0, 0), (.goto (-50), 0, 0, 0)] (pe := 152) (ls' := [some (.ref 0), some (.int (nI u)), some (.int (nI n)), some (.int (nI p)), some (.int (nI v)), some (.int (nI cd)), some (.int ((nI k) + 1))]) (st' := []) (M' := x2) (by decide +kernel) rfl ?_
            rw [nI_1]
            exact ih (k + 1) x2 (by omega) hx2 hp2
          refine zT.zlt (tgt := 199) (off := 15) (by decide +kernel) (by decide) (fun _ => nxt x h hp0) (fun _ => ?_)
          refine zT.run [(.aload_n 0, 0, 0, 0), (.iload 4, 0, 0, 0), (.iload 6, 0, 0, 0)] (pe := 192) (ls' := [some (.ref 0), some (.int (nI u)), some (.int (nI n)), some (.int (nI p)), some (.int (nI v)), some (.int (nI cd)), some (.int (nI k))]) (st' := [.int (nI k), .int (nI v), .ref 0]) (M' := x) (by decide +kernel) rfl ?_
          refine zT.eq9 (zT.cSr (idx := 131) (av := [.ref 0, .int (nI v), .int (nI k)]) (st := []) (c_L_breaks h hv hkn) (zLb_up (n := 1) rfl len1) (zVb_up (n := 1) rfl len1) rfl k_L_breaks (zIn (w := 5025) (by decide +kernel) rfl) (by decide +kernel) (Nat.le_of_ble_eq_true rfl) (by decide +kernel) rfl ?_)
          rintro rv sh2 x2 ⟨rfl, b, rfl, h2, h3⟩
          refine zT.zeq (tgt := 199) (off := 4) (by decide +kernel) (by decide) (fun cb => nxt x2 h2 (by rw [h3 cb]; exact hp0)) (fun _ => ?_)
          exact zT.retV ⟨rfl, rfl, h2.up (Nat.le_succ T)⟩ rfl (by decide +kernel)
      refine zT.run [(.iconst 0, 0, 0, 0), (.istore 6, 0, 0, 0)] (pe := 152) (ls' := [some (.ref 0), some (.int (nI u)), some (.int (nI n)), some (.int (nI p)), some (.int (nI v)), some (.int (nI cd)), some (.int 0)]) (st' := []) (M' := x) (by decide +kernel) rfl ?_
      exact loop 4 0 x rfl h hp0
    · skip
      refine zT.run [(.aload_n 0, 0, 0, 0), (.iload 4, 0, 0, 0), (.iload 5, 0, 0, 0), (.iload_n 1, 0, 0, 0), (.bipush 64, 0, 0, 0), (.idiv, 0, 0, 0), (.sipush 1000, 0, 0, 0), (.irem, 0, 0, 0)] (pe := 142) (ls' := [some (.ref 0), some (.int (nI u)), some (.int (nI n)), some (.int (nI p)), some (.int (nI v)), some (.int (nI cd)), none]) (st' := [.int (((nI u) / 64) - ((nI u) / 64) / 1000 * 1000), .int (nI cd), .int (nI v), .ref 0]) (M' := x) (by decide +kernel) rfl ?_
      rw [nI_div (c := 64) (b := 64) rfl hu (by decide) (by decide), nI_rem (c := 1000) (b := 1000) rfl (by omega) (by decide) (by decide)]
      obtain ⟨a, x2, hC, h2⟩ := ft_break (sl := sl) (ext := ext) h hv hcd (b := u / 64 % 1000) (by omega)
      refine zT.cSw (idx := 127) (av := [.ref 0, .int (nI v), .int (nI cd), .int (nI (u / 64 % 1000))]) (rv := some (.int a)) (st := []) (S1 := [.int a]) (c_L_breakSeal x x2 sl ext (nI v) (nI cd) (nI (u / 64 % 1000)) a (hC)) rfl k_L_breakSeal (zIn (w := 5009) (by decide +kernel) rfl) (by decide +kernel) (Nat.le_of_ble_eq_true rfl) (by decide +kernel) rfl rfl ?_
      refine zT.run [(.pop, 0, 0, 0), (.goto 64, 0, 0, 0)] (pe := 210) (ls' := [some (.ref 0), some (.int (nI u)), some (.int (nI n)), some (.int (nI p)), some (.int (nI v)), some (.int (nI cd)), none]) (st' := []) (M' := x2) (by decide +kernel) rfl ?_
      exact zT.retV ⟨rfl, rfl, h2.up (Nat.le_succ T)⟩ rfl (by decide +kernel)
  · skip
    refine zT.run [(.aload_n 0, 0, 0, 0), (.iload 4, 0, 0, 0), (.iload 5, 0, 0, 0), (.bipush 7, 0, 0, 0), (.iload 4, 0, 0, 0), (.imul, 0, 0, 0), (.iload 5, 0, 0, 0), (.iadd, 0, 0, 0)] (pe := 108) (ls' := [some (.ref 0), some (.int (nI u)), some (.int (nI n)), some (.int (nI p)), some (.int (nI v)), some (.int (nI cd)), none]) (st' := [.int ((7 * (nI v)) + (nI cd)), .int (nI cd), .int (nI v), .ref 0]) (M' := x) (by decide +kernel) rfl ?_
    rw [nI_mulc (c := 7) (k := 7) rfl, nI_add]
    obtain ⟨a, x2, hC, h2⟩ := ft_vote (sl := sl) (ext := ext) h hv hcd (b := 7 * v + cd) (by omega)
    refine zT.cSw (idx := 121) (av := [.ref 0, .int (nI v), .int (nI cd), .int (nI (7 * v + cd))]) (rv := some (.int a)) (st := []) (S1 := [.int a]) (c_L_vote x x2 sl ext (nI v) (nI cd) (nI (7 * v + cd)) a (hC)) rfl k_L_vote (zIn (w := 4233) (by decide +kernel) rfl) (by decide +kernel) (Nat.le_of_ble_eq_true rfl) (by decide +kernel) rfl rfl ?_
    refine zT.zge (tgt := 210) (off := 99) (by decide +kernel) (by decide) (fun _ => ?_) (fun _ => ?_)
    · exact zT.retV ⟨rfl, rfl, h2.up (Nat.le_succ T)⟩ rfl (by decide +kernel)
    · skip
      refine zT.run [(.aload_n 0, 0, 0, 0)] (pe := 115) (ls' := [some (.ref 0), some (.int (nI u)), some (.int (nI n)), some (.int (nI p)), some (.int (nI v)), some (.int (nI cd)), none]) (st' := [.ref 0]) (M' := x2) (by decide +kernel) rfl ?_
      obtain ⟨a3, x3, hC3, h3⟩ := ft_close (sl := sl) (ext := ext) h2
      refine zT.cVx (o := 0) (idx := 124) (av := []) (rv := some (.int a3)) (st := []) (S1 := [.int a3]) (hC3) k_X9_close 7 _ rfl rfl rfl (zIn (w := 5004) (by decide +kernel) rfl) (by decide +kernel) (Nat.le_of_ble_eq_true rfl) (by decide +kernel) rfl rfl ?_
      refine zT.run [(.pop, 0, 0, 0), (.goto 91, 0, 0, 0)] (pe := 210) (ls' := [some (.ref 0), some (.int (nI u)), some (.int (nI n)), some (.int (nI p)), some (.int (nI v)), some (.int (nI cd)), none]) (st' := []) (M' := x3) (by decide +kernel) rfl ?_
      exact zT.retV ⟨rfl, rfl, h3.up (Nat.le_succ T)⟩ rfl (by decide +kernel)
theorem c_L_goesOn {n T t0 : Nat} {x : zM} {sl : Nat → Option Nat} {ext : List va_E} (h : XI n T t0 x) (hT : T < 3000) {u : Nat} (hu : u < 2 ^ 31) : zCr yy_L_goesOn 0 0 [.ref 0, .int (nI u)] (sh_X sl ext) x (fun rv sh' x' => rv = none ∧ sh' = sh_X sl ext ∧ XI n (T + 1) t0 x') := by
  refine zCr.of (by decide +kernel) rfl (Nat.le_of_ble_eq_true rfl) ?_
  obtain ⟨-, h2n, h9⟩ := xi_n h
  obtain ⟨p, hp4, hp⟩ := xi_phase h
  refine zT.run [(.aload_n 0, 0, 0, 0), (.iconst 0, 0, 0, 0)] (pe := 2) (ls' := [some (.ref 0), some (.int (nI u)), none, none, none, none, none]) (st' := [.int 0, .ref 0]) (M' := x) (by decide +kernel) rfl ?_
  refine zT.cSw (idx := 113) (av := [.ref 0, .int 0]) (rv := some (.int (nI n))) (st := []) (S1 := [.int (nI n)]) (c_L_office x x sl ext 0 (nI n) (rd_office0 h)) rfl k_L_office (zIn (w := 2096) (by decide +kernel) rfl) (by decide +kernel) (Nat.le_of_ble_eq_true rfl) (by decide +kernel) rfl rfl ?_
  refine zT.run [(.istore_n 2, 0, 0, 0), (.aload_n 0, 0, 0, 0), (.iconst 5, 0, 0, 0)] (pe := 8) (ls' := [some (.ref 0), some (.int (nI u)), some (.int (nI n)), none, none, none, none]) (st' := [.int 5, .ref 0]) (M' := x) (by decide +kernel) rfl ?_
  refine zT.cSw (idx := 113) (av := [.ref 0, .int 5]) (rv := some (.int (x 12 0))) (st := []) (S1 := [.int (x 12 0)]) (c_L_office x x sl ext 5 (x 12 0) (rd_office5 h)) rfl k_L_office (zIn (w := 2096) (by decide +kernel) rfl) (by decide +kernel) (Nat.le_of_ble_eq_true rfl) (by decide +kernel) rfl rfl ?_
  rw [hp]
  refine zT.run [(.istore_n 3, 0, 0, 0), (.iload_n 1, 0, 0, 0), (.iload_n 2, 0, 0, 0)] (pe := 14) (ls' := [some (.ref 0), some (.int (nI u)), some (.int (nI n)), some (.int (nI p)), none, none, none]) (st' := [.int (nI n), .int (nI u)]) (M' := x) (by decide +kernel) rfl ?_
  refine zT.iremN hu (by omega) (by omega) (by decide +kernel) ?_
  have hv : u % n < n := Nat.mod_lt _ (by omega)
  generalize u % n = v at hv ⊢
  refine zT.run [(.istore 4, 0, 0, 0), (.iconst 0, 0, 0, 0), (.istore 5, 0, 0, 0)] (pe := 20) (ls' := [some (.ref 0), some (.int (nI u)), some (.int (nI n)), some (.int (nI p)), some (.int (nI v)), some (.int 0), none]) (st' := []) (M' := x) (by decide +kernel) rfl ?_
  have loop : ∀ (j k v : Nat), k + j = n → v < n → zT yy_L_goesOn 0 0 (zEndR yy_L_goesOn (fun rv sh' x' => rv = none ∧ sh' = sh_X sl ext ∧ XI n (T + 1) t0 x')) (20, [some (.ref 0), some (.int (nI u)), some (.int (nI n)), some (.int (nI p)), some (.int (nI v)), some (.int (nI k)), none], [], (sh_X sl ext), x) := by
    intro j
    induction j with
    | zero =>
      intro k v hk hv
      refine zT.run [(.iload 5, 0, 0, 0), (.iload_n 2, 0, 0, 0)] (pe := 23) (ls' := [some (.ref 0), some (.int (nI u)), some (.int (nI n)), some (.int (nI p)), some (.int (nI v)), some (.int (nI k)), none]) (st' := [.int (nI n), .int (nI k)]) (M' := x) (by decide +kernel) rfl ?_
      refine zT.cge (tgt := 61) (off := 38) (by decide +kernel) (by decide) (fun _ => w_goesOn hT hu w_goesOn205 x v k h hp hv) (fun c => absurd (nI_le (a := n) (b := k) (by omega) (by omega)) c)
    | succ j ih =>
      intro k v hk hv
      refine zT.run [(.iload 5, 0, 0, 0), (.iload_n 2, 0, 0, 0)] (pe := 23) (ls' := [some (.ref 0), some (.int (nI u)), some (.int (nI n)), some (.int (nI p)), some (.int (nI v)), some (.int (nI k)), none]) (st' := [.int (nI n), .int (nI k)]) (M' := x) (by decide +kernel) rfl ?_
      refine zT.cge (tgt := 61) (off := 38) (by decide +kernel) (by decide) (fun c => absurd c (nI_ge (a := k) (b := n) (by omega) (by omega))) (fun _ => ?_)
      refine zT.run [(.aload_n 0, 0, 0, 0), (.iload 4, 0, 0, 0), (.bipush 6, 0, 0, 0)] (pe := 31) (ls' := [some (.ref 0), some (.int (nI u)), some (.int (nI n)), some (.int (nI p)), some (.int (nI v)), some (.int (nI k)), none]) (st' := [.int 6, .int (nI v), .ref 0]) (M' := x) (by decide +kernel) rfl ?_
      refine zT.cSw (idx := 116) (av := [.ref 0, .int (nI v), .int 6]) (rv := some (.int (g_X4_tellOf (zPl x 5) v 6))) (st := []) (S1 := [.int (g_X4_tellOf (zPl x 5) v 6)]) (c_L_replica x x sl ext (nI v) 6 (g_X4_tellOf (zPl x 5) v 6) (rd_replica h hv 6 (by decide) (by decide))) rfl k_L_replica (zIn (w := 4189) (by decide +kernel) rfl) (by decide +kernel) (Nat.le_of_ble_eq_true rfl) (by decide +kernel) rfl rfl ?_
      generalize g_X4_tellOf (zPl x 5) v 6 = a
      have nxt : ∀ b : Int32, zT yy_L_goesOn 0 0 (zEndR yy_L_goesOn (fun rv sh' x' => rv = none ∧ sh' = sh_X sl ext ∧ XI n (T + 1) t0 x')) (44, [some (.ref 0), some (.int (nI u)), some (.int (nI n)), some (.int (nI p)), some (.int (nI v)), some (.int (nI k)), none], [.int b, .int a], (sh_X sl ext), x) := by
        intro b
        refine zT.ceq (tgt := 61) (off := 17) (by decide +kernel) (by decide) (fun _ => w_goesOn hT hu w_goesOn205 x v k h hp hv) (fun _ => ?_)
        refine zT.run [(.iload 4, 0, 0, 0), (.iconst 1, 0, 0, 0), (.iadd, 0, 0, 0), (.iload_n 2, 0, 0, 0)] (pe := 52) (ls' := [some (.ref 0), some (.int (nI u)), some (.int (nI n)), some (.int (nI p)), some (.int (nI v)), some (.int (nI k)), none]) (st' := [.int (nI n), .int ((nI v) + 1)]) (M' := x) (by decide +kernel) rfl ?_
        rw [nI_1]
        refine zT.iremN (by omega) (by omega) (by omega) (by decide +kernel) ?_
        refine zT.run [(.istore 4, 0, 0, 0), (.iinc 5 1, 0, 0, 0), (.goto (-38), 0, 0, 0)] (pe := 20) (ls' := [some (.ref 0), some (.int (nI u)), some (.int (nI n)), some (.int (nI p)), some (.int (nI ((v + 1) % n))), some (.int ((nI k) + 1)), none]) (st' := []) (M' := x) (by decide +kernel) rfl ?_
        rw [nI_1]
        exact ih (k + 1) ((v + 1) % n) (by omega) (Nat.mod_lt _ (by omega))
      refine zT.run [(.iload_n 3, 0, 0, 0), (.iconst 1, 0, 0, 0)] (pe := 36) (ls' := [some (.ref 0), some (.int (nI u)), some (.int (nI n)), some (.int (nI p)), some (.int (nI v)), some (.int (nI k)), none]) (st' := [.int 1, .int (nI p), .int a]) (M' := x) (by decide +kernel) rfl ?_
      refine zT.cne (tgt := 43) (off := 7) (by decide +kernel) (by decide) (fun _ => ?_) (fun _ => ?_)
      · skip
        refine zT.run [(.iconst 1, 0, 0, 0)] (pe := 44) (ls' := [some (.ref 0), some (.int (nI u)), some (.int (nI n)), some (.int (nI p)), some (.int (nI v)), some (.int (nI k)), none]) (st' := [.int 1, .int a]) (M' := x) (by decide +kernel) rfl ?_
        exact nxt 1
      · skip
        refine zT.run [(.iconst 0, 0, 0, 0), (.goto 4, 0, 0, 0)] (pe := 44) (ls' := [some (.ref 0), some (.int (nI u)), some (.int (nI n)), some (.int (nI p)), some (.int (nI v)), some (.int (nI k)), none]) (st' := [.int 0, .int a]) (M' := x) (by decide +kernel) rfl ?_
        exact nxt 0
  exact loop n 0 v (by omega) hv
theorem k_L_goesOn : zCad yy_L_goesOn 2 := ⟨⟨⟨zIn (w := 4188) (by decide +kernel) rfl, zIn (w := 1000) (by decide +kernel) rfl⟩, by decide +kernel⟩, zIn (w := 4187) (by decide +kernel) rfl⟩

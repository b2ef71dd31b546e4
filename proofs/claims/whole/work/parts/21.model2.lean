theorem zU_k {M : zM} {c i o : Nat} {x : Int32} (h : o ≠ i) : zU M c i x c o = M c o := by
  rw [zU_eq]
  exact if_neg h
theorem zU_hi {M : zM} {a b o : Nat} {x : Int32} (h : o < 10) : zU M 1 (10 + a + b) x 1 o = M 1 o := zU_k (by omega)
theorem zU_h9 {M : zM} {a b o : Nat} {x : Int32} (h : o < 10) : zU M 1 (91 + a + b) x 1 o = M 1 o := zU_k (by omega)
theorem zU_h9a {M : zM} {a o : Nat} {x : Int32} (h : o < 10) : zU M 1 (91 + a) x 1 o = M 1 o := zU_k (by omega)
theorem zU_h9c {M : zM} {a o : Nat} {x : Int32} (h : o < 10) : zU M 1 (a + 91) x 1 o = M 1 o := zU_k (by omega)
/-- the outcomes, when there is room for one more -/
def zOn2 (oz : Nat) : Nat := if oz = 12 then 11 else oz
theorem zOn2_lt {oz : Nat} (h : oz ≤ 12) : zOn2 oz < 12 := by
  unfold zOn2
  split <;> omega
theorem zOx {z : Nat} : (91 : Int32) + nI z * 8 = nI (91 + (z * 8)) := by
  rw [show (91 : Int32) = nI 91 from rfl, show (8 : Int32) = nI 8 from rfl, pk_mul, nI_add]
theorem zOy {z k : Nat} : (91 : Int32) + nI z * 8 + nI k = nI ((91 + (z * 8)) + k) := by
  rw [zOx, nI_add]
def zBs (n : Nat) (x : Int32) : Prop := x = -1 ∨ ∃ e, e < n ∧ x = nI e
theorem zBsI {n : Nat} {x : Int32} (h : zBs n x) (h9 : n ≤ 9) (c : ¬ x = -1) : x = nI x.toNatClampNeg ∧ x.toNatClampNeg < n := by
  rcases h with h | ⟨e, h1, h2⟩
  · exact absurd h c
  · rw [h2, nI_clamp (by omega)]
    exact ⟨rfl, h1⟩
def zHk (M : zM) : Prop := ∃ c, c < 9 ∧ M 1 6 = nI c
theorem zHk.of {M M' : zM} (e : M' 1 6 = M 1 6) (h : zHk M) : zHk M' := by
  unfold zHk at h ⊢
  rw [e]
  exact h
theorem zHk.d {M : zM} (h : zHk M) : zHd M := Or.inr h
theorem zHd.of2 {M M' : zM} (e : M' 1 4 = M 1 4) (f : M' 1 6 = M 1 6) (h : zHd M) : zHd M' := by
  unfold zHd at h ⊢
  rw [e, f]
  exact h
theorem zHvI {M : zM} {r : Nat} (h : zHv M) (hr : r < 9) (c : g_X10_of M r 6 = 2) : g_X10_of M r 7 = nI (g_X10_of M r 7).toNatClampNeg ∧ (g_X10_of M r 7).toNatClampNeg < 9 := by
  obtain ⟨v, h1, h2⟩ := h r hr c
  have e : g_X10_of M r 7 = nI v := h2
  rw [e, nI_clamp (by omega)]
  exact ⟨rfl, h1⟩
/-- the votes that were found are small numbers -/
def zVo (n : Nat) (M : zM) : Prop := ∀ r, r < n → ∃ v, v ≤ 99 ∧ M 20 r = nI v
theorem zVo.of {n : Nat} {M M' : zM} (e : M' 20 = M 20) (h : zVo n M) : zVo n M' := by
  unfold zVo at h ⊢
  rw [e]
  exact h
theorem zVo.ne {n r : Nat} {M : zM} (h : zVo n M) (hr : r < n) : ¬ M 20 r = -1 := by
  obtain ⟨v, h1, h2⟩ := h r hr
  rw [h2]
  exact fun e => nI_pos (n := v) (by omega) (by rw [e]; decide)
theorem zLdI {n r : Nat} {s : Int32 × zM} (he : s.1 = -1 ∧ s.2 0 12 = -1 ∨ ∃ e, e < n ∧ s.1 = nI e) (hw : zVo n s.2) (hr : r < n) (h9 : n ≤ 9) (c : s.2 20 r = s.2 0 12) : s.1 = nI s.1.toNatClampNeg ∧ s.1.toNatClampNeg < n := by
  rcases he with ⟨_, h⟩ | ⟨e, h1, h2⟩
  · exact absurd (c.trans h) (hw.ne hr)
  · rw [h2, nI_clamp (by omega)]
    exact ⟨rfl, h1⟩

theorem lo_X10_put (M : zM) (r : Nat) (w : Nat) (v : Int32) (o : Nat) (ho : o < 10) : (g_X10_put M r w v) 1 o = M 1 o := by
  simp only [g_X10_put]
  (repeat' split) <;> (try simp only [zU_hi (o := o) (by omega)])
theorem lo_X10_link (M : zM) (a : Nat) (b : Nat) (is : Int32) (o : Nat) (ho : o < 10) : (g_X10_link M a b is) 1 o = M 1 o := by
  simp only [g_X10_link]
  (repeat' split) <;> (try simp only [m_X10_link_1, (fun (MM : zM) (r : Nat) (w : Nat) (v : Int32) => lo_X10_put MM r w v o (by omega))])
noncomputable abbrev yy_X10_findVotes : zY := (yX10_findVotes, cX10_findVotes, 2, none, 1, 22)
noncomputable def l_X10_findVotes_2 (M : zM) (n : Nat) (i1 : Nat) (s1 : zM) : zM := (zU s1 20 i1 0)
theorem fr_l_X10_findVotes_2 (M : zM) (n : Nat) (o : Nat) (ho : o ≠ 20) : ∀ (k : Nat) (s : zM), (zIt (l_X10_findVotes_2 M n) k s) o = s o := by
  intro k
  induction k with
  | zero => intro s; rfl
  | succ k ih =>
    intro s
    rw [← ih s]
    show (l_X10_findVotes_2 M n k (zIt (l_X10_findVotes_2 M n) k s)) o = _
    generalize zIt (l_X10_findVotes_2 M n) k s = t
    simp only [l_X10_findVotes_2]
    (repeat' split) <;> simp only [zU_ne ho]
noncomputable def l_X10_findVotes_27 (M : zM) (n : Nat) (i2 : Nat) (s2 : zM) : zM := (if (g_X10_isOnRoll s2 (nI i2)) = 0 then s2 else (if (g_X10_of s2 i2 6) = 2 then (zU s2 20 (g_X10_of s2 i2 7).toNatClampNeg ((s2 20 (g_X10_of s2 i2 7).toNatClampNeg) + 1)) else s2))
theorem fr_l_X10_findVotes_27 (M : zM) (n : Nat) (o : Nat) (ho : o ≠ 20) : ∀ (k : Nat) (s : zM), (zIt (l_X10_findVotes_27 M n) k s) o = s o := by
  intro k
  induction k with
  | zero => intro s; rfl
  | succ k ih =>
    intro s
    rw [← ih s]
    show (l_X10_findVotes_27 M n k (zIt (l_X10_findVotes_27 M n) k s)) o = _
    generalize zIt (l_X10_findVotes_27 M n) k s = t
    simp only [l_X10_findVotes_27]
    (repeat' split) <;> simp only [zU_ne ho]
noncomputable def r_X10_findVotes_27 (M : zM) (n : Nat) : zM := (zIt (l_X10_findVotes_27 M n) n (zIt (l_X10_findVotes_2 M n) n M))
noncomputable def g_X10_findVotes (M : zM) (n : Nat) : zM := (r_X10_findVotes_27 M n)
set_option maxRecDepth 100000 in
theorem c_X10_findVotes (M : zM) (gp : Nat → Option Nat) (n : Nat) (hn : M 1 0 = nI n) (h9 : n ≤ 9) (hv : zHv M) : zC yy_X10_findVotes 0 0 [.ref 0] (sh_Model gp) M none (sh_Model gp) (g_X10_findVotes M n) := by
  refine zC.of (by decide +kernel) rfl (Nat.le_of_ble_eq_true rfl) ?_
  refine zT.run [(.iconst 0, 0, 0, 0), (.istore_n 1, 0, 0, 0)] (pe := 2) (ls' := [some (.ref 0), some (.int 0)]) (st' := []) (M' := M) (by decide +kernel) rfl ?_
  refine zT.loop (l_X10_findVotes_2 M n) (fun (i : Nat) (s : zM) => (2, [some (.ref 0), some (.int (nI i))], [], (sh_Model gp), s)) n M (fun i1 hi1 k1 => ?_) ?_
  · skip
    generalize hs1 : zIt (l_X10_findVotes_2 M n) i1 M = s1 at k1 ⊢
    have hm1 : ∀ o : Nat, (o ≠ 20) → s1 o = M o := fun o ho => by rw [← hs1]; exact fr_l_X10_findVotes_2 M n o ho i1 M
    have hl1 : ∀ o : Nat, o < 10 → s1 1 o = M 1 o := fun o _ => congrFun (hm1 1 (by decide)) o
    show zT _ _ _ _ (2, [some (.ref 0), some (.int (nI i1))], [], (sh_Model gp), s1)
    refine zT.run [(.iload_n 1, 0, 0, 0), (.aload_n 0, 0, 0, 0), (.getfield 9, 8, 1, 5150), (.iconst 0, 0, 0, 0)] (pe := 8) (ls' := [some (.ref 0), some (.int (nI i1))]) (st' := [.int 0, .ref 1, .int (nI i1)]) (M' := s1) (by decide +kernel) rfl ?_
    refine zT.iald (n := 187) (k := 0) rfl rfl (by decide) (by decide) (by decide +kernel) ?_
    refine zT.cge (tgt := 25) (off := 16) (by decide +kernel) (by decide) (fun c => absurd c (zGeN (n := n) ((hl1 0 (by decide)).trans hn) (by omega) (by omega))) (fun _ => ?_)
    refine zT.run [(.aload_n 0, 0, 0, 0), (.getfield 35, 8, 11, 5160), (.iload_n 1, 0, 0, 0), (.iconst 0, 0, 0, 0)] (pe := 18) (ls' := [some (.ref 0), some (.int (nI i1))]) (st' := [.int 0, .int (nI i1), .ref 20]) (M' := s1) (by decide +kernel) rfl ?_
    refine zT.iast (n := 9) (k := i1) rfl rfl (by omega) (by decide) (by decide +kernel) ?_
    refine zT.run [(.iinc 1 1, 0, 0, 0), (.goto (-20), 0, 0, 0)] (pe := 2) (ls' := [some (.ref 0), some (.int ((nI i1) + 1))]) (st' := []) (M' := (zU s1 20 i1 0)) (by decide +kernel) rfl ?_
    exact zT.eq (by simp only [l_X10_findVotes_2, nI_succ, zDl]; try rfl) k1
  · skip
    show zT _ _ _ _ (2, [some (.ref 0), some (.int (nI n))], [], (sh_Model gp), (zIt (l_X10_findVotes_2 M n) n M))
    refine zT.run [(.iload_n 1, 0, 0, 0), (.aload_n 0, 0, 0, 0), (.getfield 9, 8, 1, 5150), (.iconst 0, 0, 0, 0)] (pe := 8) (ls' := [some (.ref 0), some (.int (nI n))]) (st' := [.int 0, .ref 1, .int (nI n)]) (M' := (zIt (l_X10_findVotes_2 M n) n M)) (by decide +kernel) rfl ?_
    refine zT.iald (n := 187) (k := 0) rfl rfl (by decide) (by decide) (by decide +kernel) ?_
    refine zT.cge (tgt := 25) (off := 16) (by decide +kernel) (by decide) (fun _ => ?_) (fun c => absurd (zGeY (n := n) ((congrFun (fr_l_X10_findVotes_2 M n 1 (by decide) n M) 0).trans hn)) c)
    refine zT.run [(.iconst 0, 0, 0, 0), (.istore_n 1, 0, 0, 0)] (pe := 27) (ls' := [some (.ref 0), some (.int 0)]) (st' := []) (M' := (zIt (l_X10_findVotes_2 M n) n M)) (by decide +kernel) rfl ?_
    refine zT.loop (l_X10_findVotes_27 M n) (fun (i : Nat) (s : zM) => (27, [some (.ref 0), some (.int (nI i))], [], (sh_Model gp), s)) n (zIt (l_X10_findVotes_2 M n) n M) (fun i2 hi2 k2 => ?_) ?_
    · skip
      generalize hs2 : zIt (l_X10_findVotes_27 M n) i2 (zIt (l_X10_findVotes_2 M n) n M) = s2 at k2 ⊢
      have hm2 : ∀ o : Nat, (o ≠ 20) → s2 o = (zIt (l_X10_findVotes_2 M n) n M) o := fun o ho => by rw [← hs2]; exact fr_l_X10_findVotes_27 M n o ho i2 (zIt (l_X10_findVotes_2 M n) n M)
      have hl2 : ∀ o : Nat, o < 10 → s2 1 o = (zIt (l_X10_findVotes_2 M n) n M) 1 o := fun o _ => congrFun (hm2 1 (by decide)) o
      show zT _ _ _ _ (27, [some (.ref 0), some (.int (nI i2))], [], (sh_Model gp), s2)
      refine zT.run [(.iload_n 1, 0, 0, 0), (.aload_n 0, 0, 0, 0), (.getfield 9, 8, 1, 5150), (.iconst 0, 0, 0, 0)] (pe := 33) (ls' := [some (.ref 0), some (.int (nI i2))]) (st' := [.int 0, .ref 1, .int (nI i2)]) (M' := s2) (by decide +kernel) rfl ?_
      refine zT.iald (n := 187) (k := 0) rfl rfl (by decide) (by decide) (by decide +kernel) ?_
      refine zT.cge (tgt := 78) (off := 44) (by decide +kernel) (by decide) (fun c => absurd c (zGeN (n := n) (((hl2 0 (by decide)).trans (congrFun (fr_l_X10_findVotes_2 M n 1 (by decide) n M) 0)).trans hn) (by omega) (by omega))) (fun _ => ?_)
      refine zT.run [(.aload_n 0, 0, 0, 0), (.iload_n 1, 0, 0, 0)] (pe := 39) (ls' := [some (.ref 0), some (.int (nI i2))]) (st' := [.int (nI i2), .ref 0]) (M' := s2) (by decide +kernel) rfl ?_
      refine zT.cV_own (o := 0) (idx := 106) (av := [.int (nI i2)]) (rv := (some (.int (g_X10_isOnRoll s2 (nI i2))))) (st := []) (S1 := [.int (g_X10_isOnRoll s2 (nI i2))]) (c_X10_isOnRoll s2 gp (nI i2)) k_X10_isOnRoll _ _ rfl rfl rfl (zIn (w := 5145) (by decide +kernel) rfl) (by decide +kernel) (by decide +kernel) rfl (Nat.le_of_ble_eq_true rfl) rfl ?_
      refine zT.zeq (tgt := 72) (off := 30) (by decide +kernel) (by decide) (fun (c1 : (g_X10_isOnRoll s2 (nI i2)) = 0) => ?_) (fun (c1 : ¬ (g_X10_isOnRoll s2 (nI i2)) = 0) => ?_)
      · skip
        refine zT.run [(.iinc 1 1, 0, 0, 0), (.goto (-48), 0, 0, 0)] (pe := 27) (ls' := [some (.ref 0), some (.int ((nI i2) + 1))]) (st' := []) (M' := s2) (by decide +kernel) rfl ?_
        exact zT.eq (by simp only [l_X10_findVotes_27, if_pos c1, nI_succ, zDl]; try rfl) k2
      · skip
        refine zT.run [(.aload_n 0, 0, 0, 0), (.iload_n 1, 0, 0, 0), (.bipush 6, 0, 0, 0)] (pe := 49) (ls' := [some (.ref 0), some (.int (nI i2))]) (st' := [.int 6, .int (nI i2), .ref 0]) (M' := s2) (by decide +kernel) rfl ?_
        refine zT.cV_own (o := 0) (idx := 80) (av := [.int (nI i2), .int (nI 6)]) (rv := (some (.int (g_X10_of s2 i2 6)))) (st := []) (S1 := [.int (g_X10_of s2 i2 6)]) (c_X10_of s2 gp i2 6 (by omega) (by decide)) k_X10_of _ _ rfl rfl rfl (zIn (w := 5108) (by decide +kernel) rfl) (by decide +kernel) (by decide +kernel) rfl (Nat.le_of_ble_eq_true rfl) rfl ?_
        refine zT.run [(.iconst 2, 0, 0, 0)] (pe := 53) (ls' := [some (.ref 0), some (.int (nI i2))]) (st' := [.int 2, .int (g_X10_of s2 i2 6)]) (M' := s2) (by decide +kernel) rfl ?_
        refine zT.cne (tgt := 72) (off := 19) (by decide +kernel) (by decide) (fun (c2 : ¬ (g_X10_of s2 i2 6) = 2) => ?_) (fun (c2 : (g_X10_of s2 i2 6) = 2) => ?_)
        · skip
          refine zT.run [(.iinc 1 1, 0, 0, 0), (.goto (-48), 0, 0, 0)] (pe := 27) (ls' := [some (.ref 0), some (.int ((nI i2) + 1))]) (st' := []) (M' := s2) (by decide +kernel) rfl ?_
          exact zT.eq (by simp only [l_X10_findVotes_27, if_neg c1, if_neg c2, nI_succ, zDl]; try rfl) k2
        · skip
          refine zT.run [(.aload_n 0, 0, 0, 0), (.getfield 35, 8, 11, 5160), (.aload_n 0, 0, 0, 0), (.iload_n 1, 0, 0, 0), (.bipush 7, 0, 0, 0)] (pe := 64) (ls' := [some (.ref 0), some (.int (nI i2))]) (st' := [.int 7, .int (nI i2), .ref 0, .ref 20]) (M' := s2) (by decide +kernel) rfl ?_
          refine zT.cV_own (o := 0) (idx := 80) (av := [.int (nI i2), .int (nI 7)]) (rv := (some (.int (g_X10_of s2 i2 7)))) (st := [.ref 20]) (S1 := [.int (g_X10_of s2 i2 7), .ref 20]) (c_X10_of s2 gp i2 7 (by omega) (by decide)) k_X10_of _ _ rfl rfl rfl (zIn (w := 5108) (by decide +kernel) rfl) (by decide +kernel) (by decide +kernel) rfl (Nat.le_of_ble_eq_true rfl) rfl ?_
          refine zT.run [(.dup2, 0, 0, 0)] (pe := 68) (ls' := [some (.ref 0), some (.int (nI i2))]) (st' := [.int (g_X10_of s2 i2 7), .ref 20, .int (g_X10_of s2 i2 7), .ref 20]) (M' := s2) (by decide +kernel) rfl ?_
          refine zT.iald (n := 9) (k := (g_X10_of s2 i2 7).toNatClampNeg) rfl (zHvI (zHv.of ((hm2 1 (by decide)).trans (fr_l_X10_findVotes_2 M n 1 (by decide) n M)) hv) (by omega) (by assumption)).1 (zHvI (zHv.of ((hm2 1 (by decide)).trans (fr_l_X10_findVotes_2 M n 1 (by decide) n M)) hv) (by omega) (by assumption)).2 (by decide) (by decide +kernel) ?_
          refine zT.run [(.iconst 1, 0, 0, 0), (.iadd, 0, 0, 0)] (pe := 71) (ls' := [some (.ref 0), some (.int (nI i2))]) (st' := [.int ((s2 20 (g_X10_of s2 i2 7).toNatClampNeg) + 1), .int (g_X10_of s2 i2 7), .ref 20]) (M' := s2) (by decide +kernel) rfl ?_
          refine zT.iast (n := 9) (k := (g_X10_of s2 i2 7).toNatClampNeg) rfl (zHvI (zHv.of ((hm2 1 (by decide)).trans (fr_l_X10_findVotes_2 M n 1 (by decide) n M)) hv) (by omega) (by assumption)).1 (zHvI (zHv.of ((hm2 1 (by decide)).trans (fr_l_X10_findVotes_2 M n 1 (by decide) n M)) hv) (by omega) (by assumption)).2 (by decide) (by decide +kernel) ?_
          refine zT.run [(.iinc 1 1, 0, 0, 0), (.goto (-48), 0, 0, 0)] (pe := 27) (ls' := [some (.ref 0), some (.int ((nI i2) + 1))]) (st' := []) (M' := (zU s2 20 (g_X10_of s2 i2 7).toNatClampNeg ((s2 20 (g_X10_of s2 i2 7).toNatClampNeg) + 1))) (by decide +kernel) rfl ?_
          exact zT.eq (by simp only [l_X10_findVotes_27, if_neg c1, if_pos c2, nI_succ, zDl]; try rfl) k2
    · skip
      show zT _ _ _ _ (27, [some (.ref 0), some (.int (nI n))], [], (sh_Model gp), (r_X10_findVotes_27 M n))
      refine zT.run [(.iload_n 1, 0, 0, 0), (.aload_n 0, 0, 0, 0), (.getfield 9, 8, 1, 5150), (.iconst 0, 0, 0, 0)] (pe := 33) (ls' := [some (.ref 0), some (.int (nI n))]) (st' := [.int 0, .ref 1, .int (nI n)]) (M' := (r_X10_findVotes_27 M n)) (by decide +kernel) rfl ?_
      refine zT.iald (n := 187) (k := 0) rfl rfl (by decide) (by decide) (by decide +kernel) ?_
      refine zT.cge (tgt := 78) (off := 44) (by decide +kernel) (by decide) (fun _ => ?_) (fun c => absurd (zGeY (n := n) (((congrFun (fr_l_X10_findVotes_27 M n 1 (by decide) n (zIt (l_X10_findVotes_2 M n) n M)) 0).trans (congrFun (fr_l_X10_findVotes_2 M n 1 (by decide) n M) 0)).trans hn)) c)
      exact zT.vret (by simp only [g_X10_findVotes]; try rfl) rfl (by decide +kernel)
theorem fr_X10_findVotes (M : zM) (n : Nat) (o : Nat) (ho : o ≠ 20) : (g_X10_findVotes M n) o = M o := by
  simp only [g_X10_findVotes]
  (repeat' split) <;> simp only [zU_ne ho, zUa_ne ho, r_X10_findVotes_27, (fr_l_X10_findVotes_27 M n o (by omega)), (fr_l_X10_findVotes_2 M n o (by omega))]
theorem k_X10_findVotes : zCal yy_X10_findVotes 0 := ⟨⟨⟨⟨zIn (w := 6074) (by decide +kernel) rfl, zIn (w := 1012) (by decide +kernel) rfl⟩, by decide +kernel⟩, by decide +kernel⟩, ⟨zIn (w := 6073) (by decide +kernel) rfl, zIn (w := 48) (by decide +kernel) rfl⟩⟩
theorem e2_X10_findVotes (M : zM) (n : Nat) (h9 : n ≤ 9) : ∀ r, r < n → ∃ v, v ≤ n ∧ g_X10_findVotes M n 20 r = nI v := by
  have h1 : ∀ r, r < n → (zIt (l_X10_findVotes_2 M n) n M) 20 r = 0 := by
    refine zIt_inv (P := fun (i : Nat) (s : zM) => ∀ r, r < i → s 20 r = 0) n M (fun r h => absurd h (Nat.not_lt_zero r)) ?_
    intro i hi s h r hr
    simp only [l_X10_findVotes_2]
    rw [zU_eq]
    show (if r = i then _ else _) = _
    split
    · rfl
    · exact h r (by omega)
  simp only [g_X10_findVotes]
  refine zIt_inv (P := fun (i : Nat) (s : zM) => ∀ r, r < n → ∃ v, v ≤ i ∧ s 20 r = nI v) n _ (fun r h => ⟨0, Nat.le_refl 0, h1 r h⟩) ?_
  intro i hi s h r hr
  obtain ⟨v, a, b⟩ := h r hr
  simp only [l_X10_findVotes_27]
  (repeat' split) <;> first
    | exact ⟨v, by omega, b⟩
    | (rw [zU_eq]
       show ∃ v, v ≤ i + 1 ∧ (if r = _ then _ else _) = _
       split
       · rename_i e
         rw [← e, b]
         exact ⟨v + 1, by omega, by rw [show (1 : Int32) = nI 1 from rfl, nI_add]⟩
       · exact ⟨v, by omega, b⟩)
theorem e_X10_findVotes (M : zM) (n : Nat) (h9 : n ≤ 9) : zVo n (g_X10_findVotes M n) := by
  intro r hr
  obtain ⟨v, a, b⟩ := e2_X10_findVotes M n h9 r hr
  exact ⟨v, by omega, b⟩
noncomputable abbrev yy_X10_leading : zY := (yX10_leading, cX10_leading, 4, (some Jvm.ClassFile.FieldType.int), 1, 22)
noncomputable def l_X10_leading_14 (M : zM) (n : Nat) (ti : Int32) (i1 : Nat) (s1 : Int32 × zM) : Int32 × zM := (if (g_X10_isOnRoll s1.2 (nI i1)) = 0 then (s1.1, s1.2) else ((if (s1.2 0 12) < (s1.2 20 i1) then (nI i1) else (if (s1.2 20 i1) = (s1.2 0 12) then (if (g_X10_of s1.2 i1 0) ≤ (g_X10_of s1.2 s1.1.toNatClampNeg 0) then s1.1 else (nI i1)) else s1.1)), (zU (zU s1.2 0 13 (if (s1.2 20 i1) ≤ (s1.2 0 12) then (if (s1.2 20 i1) = (s1.2 0 12) then ((s1.2 0 13) + 1) else (s1.2 0 13)) else (1 : Int32))) 0 12 (if (s1.2 20 i1) ≤ (s1.2 0 12) then (s1.2 0 12) else (s1.2 20 i1)))))
theorem fr_l_X10_leading_14 (M : zM) (n : Nat) (ti : Int32) (o : Nat) (ho : o ≠ 0) : ∀ (k : Nat) (s : Int32 × zM), (zIt (l_X10_leading_14 M n ti) k s).2 o = s.2 o := by
  intro k
  induction k with
  | zero => intro s; rfl
  | succ k ih =>
    intro s
    rw [← ih s]
    show (l_X10_leading_14 M n ti k (zIt (l_X10_leading_14 M n ti) k s)).2 o = _
    generalize zIt (l_X10_leading_14 M n ti) k s = t
    simp only [l_X10_leading_14]
    (repeat' split) <;> simp only [zU_ne ho]
noncomputable def r_X10_leading_14 (M : zM) (n : Nat) (ti : Int32) : Int32 × zM := (zIt (l_X10_leading_14 M n ti) n ((-1), (zU (zU M 0 12 (-1)) 0 13 0)))
theorem inv_leading (M : zM) (n : Nat) (ti : Int32) : ∀ (k : Nat) (s : Int32 × zM), (s.1 = -1 ∧ s.2 0 12 = -1 ∨ ∃ e, e < n ∧ s.1 = nI e) → k ≤ n → ((zIt (l_X10_leading_14 M n ti) k s).1 = -1 ∧ (zIt (l_X10_leading_14 M n ti) k s).2 0 12 = -1 ∨ ∃ e, e < n ∧ (zIt (l_X10_leading_14 M n ti) k s).1 = nI e) := by
  intro k
  induction k with
  | zero => intro s h _; exact h
  | succ k ih =>
    intro s h hk
    have h1 := ih s h (by omega)
    show (l_X10_leading_14 M n ti k (zIt (l_X10_leading_14 M n ti) k s)).1 = -1 ∧ (l_X10_leading_14 M n ti k (zIt (l_X10_leading_14 M n ti) k s)).2 0 12 = -1 ∨ ∃ e, e < n ∧ (l_X10_leading_14 M n ti k (zIt (l_X10_leading_14 M n ti) k s)).1 = nI e
    generalize zIt (l_X10_leading_14 M n ti) k s = t at h1 ⊢
    simp only [l_X10_leading_14]
    by_cases c : g_X10_isOnRoll t.2 (nI k) = 0
    · simp only [if_pos c]
      exact h1
    · simp only [if_neg c]
      rcases h1 with ⟨p, q⟩ | ⟨e, p, q⟩ <;> (repeat' split) <;> first
        | exact Or.inr ⟨k, by omega, rfl⟩
        | exact Or.inl ⟨p, q⟩
        | exact Or.inr ⟨e, p, q⟩
        | exact absurd (Int32.not_lt.mp (by assumption)) (by assumption)
noncomputable def g_X10_leading (M : zM) (n : Nat) (ti : Int32) : Int32 × zM := (if ((r_X10_leading_14 M n ti).2 0 13) ≤ 1 then ((r_X10_leading_14 M n ti).1, (r_X10_leading_14 M n ti).2) else (if ti = 0 then ((-1), (r_X10_leading_14 M n ti).2) else ((r_X10_leading_14 M n ti).1, (r_X10_leading_14 M n ti).2)))
set_option maxRecDepth 100000 in
theorem c_X10_leading (M : zM) (gp : Nat → Option Nat) (n : Nat) (ti : Int32) (hn : M 1 0 = nI n) (h9 : n ≤ 9) (hw : zVo n M) : zC yy_X10_leading 0 0 [.ref 0, .int ti] (sh_Model gp) M (some (.int (g_X10_leading M n ti).1)) (sh_Model gp) (g_X10_leading M n ti).2 := by
  refine zC.of (by decide +kernel) rfl (Nat.le_of_ble_eq_true rfl) ?_
  refine zT.run [(.aload_n 0, 0, 0, 0), (.iconst (-1), 0, 0, 0), (.putfield 109, 8, 12, 5161), (.aload_n 0, 0, 0, 0), (.iconst 0, 0, 0, 0), (.putfield 112, 8, 13, 5162), (.iconst (-1), 0, 0, 0), (.istore_n 2, 0, 0, 0), (.iconst 0, 0, 0, 0), (.istore_n 3, 0, 0, 0)] (pe := 14) (ls' := [some (.ref 0), some (.int ti), some (.int (-1)), some (.int 0)]) (st' := []) (M' := (zU (zU M 0 12 (-1)) 0 13 0)) (by decide +kernel) rfl ?_
  refine zT.loop (l_X10_leading_14 M n ti) (fun (i : Nat) (s : Int32 × zM) => (14, [some (.ref 0), some (.int ti), some (.int s.1), some (.int (nI i))], [], (sh_Model gp), s.2)) n ((-1), (zU (zU M 0 12 (-1)) 0 13 0)) (fun i1 hi1 k1 => ?_) ?_
  · skip
    generalize hs1 : zIt (l_X10_leading_14 M n ti) i1 ((-1), (zU (zU M 0 12 (-1)) 0 13 0)) = s1 at k1 ⊢
    have he1 : s1.1 = -1 ∧ s1.2 0 12 = -1 ∨ ∃ e, e < n ∧ s1.1 = nI e := by rw [← hs1]; exact inv_leading M n ti i1 _ (Or.inl ⟨rfl, rfl⟩) (by omega)
    have hm1 : ∀ o : Nat, (o ≠ 0) → s1.2 o = (zU (zU M 0 12 (-1)) 0 13 0) o := fun o ho => by rw [← hs1]; exact fr_l_X10_leading_14 M n ti o ho i1 ((-1), (zU (zU M 0 12 (-1)) 0 13 0))
    have hl1 : ∀ o : Nat, o < 10 → s1.2 1 o = (zU (zU M 0 12 (-1)) 0 13 0) 1 o := fun o _ => congrFun (hm1 1 (by decide)) o
    show zT _ _ _ _ (14, [some (.ref 0), some (.int ti), some (.int s1.1), some (.int (nI i1))], [], (sh_Model gp), s1.2)
    refine zT.run [(.iload_n 3, 0, 0, 0), (.aload_n 0, 0, 0, 0), (.getfield 9, 8, 1, 5150), (.iconst 0, 0, 0, 0)] (pe := 20) (ls' := [some (.ref 0), some (.int ti), some (.int s1.1), some (.int (nI i1))]) (st' := [.int 0, .ref 1, .int (nI i1)]) (M' := s1.2) (by decide +kernel) rfl ?_
    refine zT.iald (n := 187) (k := 0) rfl rfl (by decide) (by decide) (by decide +kernel) ?_
    refine zT.cge (tgt := 158) (off := 137) (by decide +kernel) (by decide) (fun c => absurd c (zGeN (n := n) ((hl1 0 (by decide)).trans hn) (by omega) (by omega))) (fun _ => ?_)
    refine zT.run [(.aload_n 0, 0, 0, 0), (.iload_n 3, 0, 0, 0)] (pe := 26) (ls' := [some (.ref 0), some (.int ti), some (.int s1.1), some (.int (nI i1))]) (st' := [.int (nI i1), .ref 0]) (M' := s1.2) (by decide +kernel) rfl ?_
    refine zT.cV_own (o := 0) (idx := 106) (av := [.int (nI i1)]) (rv := (some (.int (g_X10_isOnRoll s1.2 (nI i1))))) (st := []) (S1 := [.int (g_X10_isOnRoll s1.2 (nI i1))]) (c_X10_isOnRoll s1.2 gp (nI i1)) k_X10_isOnRoll _ _ rfl rfl rfl (zIn (w := 5145) (by decide +kernel) rfl) (by decide +kernel) (by decide +kernel) rfl (Nat.le_of_ble_eq_true rfl) rfl ?_
    refine zT.zeq (tgt := 152) (off := 123) (by decide +kernel) (by decide) (fun (c1 : (g_X10_isOnRoll s1.2 (nI i1)) = 0) => ?_) (fun (c1 : ¬ (g_X10_isOnRoll s1.2 (nI i1)) = 0) => ?_)
    · skip
      refine zT.run [(.iinc 3 1, 0, 0, 0), (.goto (-141), 0, 0, 0)] (pe := 14) (ls' := [some (.ref 0), some (.int ti), some (.int s1.1), some (.int ((nI i1) + 1))]) (st' := []) (M' := s1.2) (by decide +kernel) rfl ?_
      exact zT.eq (by simp only [l_X10_leading_14, if_pos c1, nI_succ, zDl]; try rfl) k1
    · skip
      refine zT.run [(.aload_n 0, 0, 0, 0), (.getfield 35, 8, 11, 5160), (.iload_n 3, 0, 0, 0)] (pe := 37) (ls' := [some (.ref 0), some (.int ti), some (.int s1.1), some (.int (nI i1))]) (st' := [.int (nI i1), .ref 20]) (M' := s1.2) (by decide +kernel) rfl ?_
      refine zT.iald (n := 9) (k := i1) rfl rfl (by omega) (by decide) (by decide +kernel) ?_
      refine zT.run [(.aload_n 0, 0, 0, 0), (.getfield 109, 8, 12, 5161)] (pe := 42) (ls' := [some (.ref 0), some (.int ti), some (.int s1.1), some (.int (nI i1))]) (st' := [.int (s1.2 0 12), .int (s1.2 20 i1)]) (M' := s1.2) (by decide +kernel) rfl ?_
      refine zT.join (75, [some (.ref 0), some (.int ti), some (.int (if (s1.2 0 12) < (s1.2 20 i1) then (nI i1) else (if (s1.2 20 i1) = (s1.2 0 12) then (if (g_X10_of s1.2 i1 0) ≤ (g_X10_of s1.2 s1.1.toNatClampNeg 0) then s1.1 else (nI i1)) else s1.1))), some (.int (nI i1))], [], (sh_Model gp), s1.2) ?_ ?_
      · refine zT.cgt (tgt := 73) (off := 31) (by decide +kernel) (by decide) (fun (c2 : (s1.2 0 12) < (s1.2 20 i1)) => ?_) (fun (c2 : ¬ (s1.2 0 12) < (s1.2 20 i1)) => ?_)
        · skip
          refine zT.run [(.iload_n 3, 0, 0, 0), (.istore_n 2, 0, 0, 0)] (pe := 75) (ls' := [some (.ref 0), some (.int ti), some (.int (nI i1)), some (.int (nI i1))]) (st' := []) (M' := s1.2) (by decide +kernel) rfl ?_
          exact zT.here (by simp only [if_pos c2]; try rfl)
        · skip
          refine zT.run [(.aload_n 0, 0, 0, 0), (.getfield 35, 8, 11, 5160), (.iload_n 3, 0, 0, 0)] (pe := 50) (ls' := [some (.ref 0), some (.int ti), some (.int s1.1), some (.int (nI i1))]) (st' := [.int (nI i1), .ref 20]) (M' := s1.2) (by decide +kernel) rfl ?_
          refine zT.iald (n := 9) (k := i1) rfl rfl (by omega) (by decide) (by decide +kernel) ?_
          refine zT.run [(.aload_n 0, 0, 0, 0), (.getfield 109, 8, 12, 5161)] (pe := 55) (ls' := [some (.ref 0), some (.int ti), some (.int s1.1), some (.int (nI i1))]) (st' := [.int (s1.2 0 12), .int (s1.2 20 i1)]) (M' := s1.2) (by decide +kernel) rfl ?_
          refine zT.cne (tgt := 75) (off := 20) (by decide +kernel) (by decide) (fun (c3 : ¬ (s1.2 20 i1) = (s1.2 0 12)) => ?_) (fun (c3 : (s1.2 20 i1) = (s1.2 0 12)) => ?_)
          · skip
            exact zT.here (by simp only [if_neg c2, if_neg c3]; try rfl)
          · skip
            refine zT.run [(.aload_n 0, 0, 0, 0), (.iload_n 3, 0, 0, 0), (.iconst 0, 0, 0, 0)] (pe := 61) (ls' := [some (.ref 0), some (.int ti), some (.int s1.1), some (.int (nI i1))]) (st' := [.int 0, .int (nI i1), .ref 0]) (M' := s1.2) (by decide +kernel) rfl ?_
            refine zT.cV_own (o := 0) (idx := 80) (av := [.int (nI i1), .int (nI 0)]) (rv := (some (.int (g_X10_of s1.2 i1 0)))) (st := []) (S1 := [.int (g_X10_of s1.2 i1 0)]) (c_X10_of s1.2 gp i1 0 (by omega) (by decide)) k_X10_of _ _ rfl rfl rfl (zIn (w := 5108) (by decide +kernel) rfl) (by decide +kernel) (by decide +kernel) rfl (Nat.le_of_ble_eq_true rfl) rfl ?_
            refine zT.run [(.aload_n 0, 0, 0, 0), (.iload_n 2, 0, 0, 0), (.iconst 0, 0, 0, 0)] (pe := 67) (ls' := [some (.ref 0), some (.int ti), some (.int s1.1), some (.int (nI i1))]) (st' := [.int 0, .int s1.1, .ref 0, .int (g_X10_of s1.2 i1 0)]) (M' := s1.2) (by decide +kernel) rfl ?_
            refine zT.eqS (congrArg (fun v : Int32 => ([.int 0, .int v, .ref 0, .int (g_X10_of s1.2 i1 0)] : List Value)) (zLdI he1 (zVo.of (hm1 20 (by decide)) hw) (by omega) h9 (by assumption)).1) ?_
            refine zT.cV_own (o := 0) (idx := 80) (av := [.int (nI s1.1.toNatClampNeg), .int (nI 0)]) (rv := (some (.int (g_X10_of s1.2 s1.1.toNatClampNeg 0)))) (st := [.int (g_X10_of s1.2 i1 0)]) (S1 := [.int (g_X10_of s1.2 s1.1.toNatClampNeg 0), .int (g_X10_of s1.2 i1 0)]) (c_X10_of s1.2 gp s1.1.toNatClampNeg 0 (by have := (zLdI he1 (zVo.of (hm1 20 (by decide)) hw) (by omega) h9 (by assumption)).2; omega) (by decide)) k_X10_of _ _ rfl rfl rfl (zIn (w := 5108) (by decide +kernel) rfl) (by decide +kernel) (by decide +kernel) rfl (Nat.le_of_ble_eq_true rfl) rfl ?_
            refine zT.cle (tgt := 75) (off := 5) (by decide +kernel) (by decide) (fun (c4 : (g_X10_of s1.2 i1 0) ≤ (g_X10_of s1.2 s1.1.toNatClampNeg 0)) => ?_) (fun (c4 : ¬ (g_X10_of s1.2 i1 0) ≤ (g_X10_of s1.2 s1.1.toNatClampNeg 0)) => ?_)
            · skip
              exact zT.here (by simp only [if_neg c2, if_pos c3, if_pos c4]; try rfl)
            · skip
              refine zT.run [(.iload_n 3, 0, 0, 0), (.istore_n 2, 0, 0, 0)] (pe := 75) (ls' := [some (.ref 0), some (.int ti), some (.int (nI i1)), some (.int (nI i1))]) (st' := []) (M' := s1.2) (by decide +kernel) rfl ?_
              exact zT.here (by simp only [if_neg c2, if_pos c3, if_neg c4]; try rfl)
      · skip
        refine zT.run [(.aload_n 0, 0, 0, 0), (.aload_n 0, 0, 0, 0), (.getfield 35, 8, 11, 5160), (.iload_n 3, 0, 0, 0)] (pe := 81) (ls' := [some (.ref 0), some (.int ti), some (.int (if (s1.2 0 12) < (s1.2 20 i1) then (nI i1) else (if (s1.2 20 i1) = (s1.2 0 12) then (if (g_X10_of s1.2 i1 0) ≤ (g_X10_of s1.2 s1.1.toNatClampNeg 0) then s1.1 else (nI i1)) else s1.1))), some (.int (nI i1))]) (st' := [.int (nI i1), .ref 20, .ref 0]) (M' := s1.2) (by decide +kernel) rfl ?_
        refine zT.iald (n := 9) (k := i1) rfl rfl (by omega) (by decide) (by decide +kernel) ?_
        refine zT.run [(.aload_n 0, 0, 0, 0), (.getfield 109, 8, 12, 5161)] (pe := 86) (ls' := [some (.ref 0), some (.int ti), some (.int (if (s1.2 0 12) < (s1.2 20 i1) then (nI i1) else (if (s1.2 20 i1) = (s1.2 0 12) then (if (g_X10_of s1.2 i1 0) ≤ (g_X10_of s1.2 s1.1.toNatClampNeg 0) then s1.1 else (nI i1)) else s1.1))), some (.int (nI i1))]) (st' := [.int (s1.2 0 12), .int (s1.2 20 i1), .ref 0]) (M' := s1.2) (by decide +kernel) rfl ?_
        refine zT.join (119, [some (.ref 0), some (.int ti), some (.int (if (s1.2 0 12) < (s1.2 20 i1) then (nI i1) else (if (s1.2 20 i1) = (s1.2 0 12) then (if (g_X10_of s1.2 i1 0) ≤ (g_X10_of s1.2 s1.1.toNatClampNeg 0) then s1.1 else (nI i1)) else s1.1))), some (.int (nI i1))], [.int (if (s1.2 20 i1) ≤ (s1.2 0 12) then (if (s1.2 20 i1) = (s1.2 0 12) then ((s1.2 0 13) + 1) else (s1.2 0 13)) else (1 : Int32)), .ref 0], (sh_Model gp), s1.2) ?_ ?_
        · refine zT.cle (tgt := 93) (off := 7) (by decide +kernel) (by decide) (fun (c5 : (s1.2 20 i1) ≤ (s1.2 0 12)) => ?_) (fun (c5 : ¬ (s1.2 20 i1) ≤ (s1.2 0 12)) => ?_)
          · skip
            refine zT.run [(.aload_n 0, 0, 0, 0), (.getfield 35, 8, 11, 5160), (.iload_n 3, 0, 0, 0)] (pe := 98) (ls' := [some (.ref 0), some (.int ti), some (.int (if (s1.2 0 12) < (s1.2 20 i1) then (nI i1) else (if (s1.2 20 i1) = (s1.2 0 12) then (if (g_X10_of s1.2 i1 0) ≤ (g_X10_of s1.2 s1.1.toNatClampNeg 0) then s1.1 else (nI i1)) else s1.1))), some (.int (nI i1))]) (st' := [.int (nI i1), .ref 20, .ref 0]) (M' := s1.2) (by decide +kernel) rfl ?_
            refine zT.iald (n := 9) (k := i1) rfl rfl (by omega) (by decide) (by decide +kernel) ?_
            refine zT.run [(.aload_n 0, 0, 0, 0), (.getfield 109, 8, 12, 5161)] (pe := 103) (ls' := [some (.ref 0), some (.int ti), some (.int (if (s1.2 0 12) < (s1.2 20 i1) then (nI i1) else (if (s1.2 20 i1) = (s1.2 0 12) then (if (g_X10_of s1.2 i1 0) ≤ (g_X10_of s1.2 s1.1.toNatClampNeg 0) then s1.1 else (nI i1)) else s1.1))), some (.int (nI i1))]) (st' := [.int (s1.2 0 12), .int (s1.2 20 i1), .ref 0]) (M' := s1.2) (by decide +kernel) rfl ?_
            refine zT.cne (tgt := 115) (off := 12) (by decide +kernel) (by decide) (fun (c6 : ¬ (s1.2 20 i1) = (s1.2 0 12)) => ?_) (fun (c6 : (s1.2 20 i1) = (s1.2 0 12)) => ?_)
            · skip
              refine zT.run [(.aload_n 0, 0, 0, 0), (.getfield 112, 8, 13, 5162)] (pe := 119) (ls' := [some (.ref 0), some (.int ti), some (.int (if (s1.2 0 12) < (s1.2 20 i1) then (nI i1) else (if (s1.2 20 i1) = (s1.2 0 12) then (if (g_X10_of s1.2 i1 0) ≤ (g_X10_of s1.2 s1.1.toNatClampNeg 0) then s1.1 else (nI i1)) else s1.1))), some (.int (nI i1))]) (st' := [.int (s1.2 0 13), .ref 0]) (M' := s1.2) (by decide +kernel) rfl ?_
              exact zT.here (by simp only [if_pos c5, if_neg c6]; try rfl)
            · skip
              refine zT.run [(.aload_n 0, 0, 0, 0), (.getfield 112, 8, 13, 5162), (.iconst 1, 0, 0, 0), (.iadd, 0, 0, 0), (.goto 7, 0, 0, 0)] (pe := 119) (ls' := [some (.ref 0), some (.int ti), some (.int (if (s1.2 0 12) < (s1.2 20 i1) then (nI i1) else (if (s1.2 20 i1) = (s1.2 0 12) then (if (g_X10_of s1.2 i1 0) ≤ (g_X10_of s1.2 s1.1.toNatClampNeg 0) then s1.1 else (nI i1)) else s1.1))), some (.int (nI i1))]) (st' := [.int ((s1.2 0 13) + 1), .ref 0]) (M' := s1.2) (by decide +kernel) rfl ?_
              exact zT.here (by simp only [if_pos c5, if_pos c6]; try rfl)
          · skip
            refine zT.run [(.iconst 1, 0, 0, 0), (.goto 29, 0, 0, 0)] (pe := 119) (ls' := [some (.ref 0), some (.int ti), some (.int (if (s1.2 0 12) < (s1.2 20 i1) then (nI i1) else (if (s1.2 20 i1) = (s1.2 0 12) then (if (g_X10_of s1.2 i1 0) ≤ (g_X10_of s1.2 s1.1.toNatClampNeg 0) then s1.1 else (nI i1)) else s1.1))), some (.int (nI i1))]) (st' := [.int 1, .ref 0]) (M' := s1.2) (by decide +kernel) rfl ?_
            exact zT.here (by simp only [if_neg c5]; try rfl)
        · skip
          refine zT.run [(.putfield 112, 8, 13, 5162), (.aload_n 0, 0, 0, 0), (.aload_n 0, 0, 0, 0), (.getfield 35, 8, 11, 5160), (.iload_n 3, 0, 0, 0)] (pe := 128) (ls' := [some (.ref 0), some (.int ti), some (.int (if (s1.2 0 12) < (s1.2 20 i1) then (nI i1) else (if (s1.2 20 i1) = (s1.2 0 12) then (if (g_X10_of s1.2 i1 0) ≤ (g_X10_of s1.2 s1.1.toNatClampNeg 0) then s1.1 else (nI i1)) else s1.1))), some (.int (nI i1))]) (st' := [.int (nI i1), .ref 20, .ref 0]) (M' := (zU s1.2 0 13 (if (s1.2 20 i1) ≤ (s1.2 0 12) then (if (s1.2 20 i1) = (s1.2 0 12) then ((s1.2 0 13) + 1) else (s1.2 0 13)) else (1 : Int32)))) (by decide +kernel) rfl ?_
          refine zT.iald (n := 9) (k := i1) rfl rfl (by omega) (by decide) (by decide +kernel) ?_
          refine zT.run [(.aload_n 0, 0, 0, 0), (.getfield 109, 8, 12, 5161)] (pe := 133) (ls' := [some (.ref 0), some (.int ti), some (.int (if (s1.2 0 12) < (s1.2 20 i1) then (nI i1) else (if (s1.2 20 i1) = (s1.2 0 12) then (if (g_X10_of s1.2 i1 0) ≤ (g_X10_of s1.2 s1.1.toNatClampNeg 0) then s1.1 else (nI i1)) else s1.1))), some (.int (nI i1))]) (st' := [.int (s1.2 0 12), .int (s1.2 20 i1), .ref 0]) (M' := (zU s1.2 0 13 (if (s1.2 20 i1) ≤ (s1.2 0 12) then (if (s1.2 20 i1) = (s1.2 0 12) then ((s1.2 0 13) + 1) else (s1.2 0 13)) else (1 : Int32)))) (by decide +kernel) rfl ?_
          refine zT.join (149, [some (.ref 0), some (.int ti), some (.int (if (s1.2 0 12) < (s1.2 20 i1) then (nI i1) else (if (s1.2 20 i1) = (s1.2 0 12) then (if (g_X10_of s1.2 i1 0) ≤ (g_X10_of s1.2 s1.1.toNatClampNeg 0) then s1.1 else (nI i1)) else s1.1))), some (.int (nI i1))], [.int (if (s1.2 20 i1) ≤ (s1.2 0 12) then (s1.2 0 12) else (s1.2 20 i1)), .ref 0], (sh_Model gp), (zU s1.2 0 13 (if (s1.2 20 i1) ≤ (s1.2 0 12) then (if (s1.2 20 i1) = (s1.2 0 12) then ((s1.2 0 13) + 1) else (s1.2 0 13)) else (1 : Int32)))) ?_ ?_
          · refine zT.cle (tgt := 145) (off := 12) (by decide +kernel) (by decide) (fun (c7 : (s1.2 20 i1) ≤ (s1.2 0 12)) => ?_) (fun (c7 : ¬ (s1.2 20 i1) ≤ (s1.2 0 12)) => ?_)
            · skip
              refine zT.run [(.aload_n 0, 0, 0, 0), (.getfield 109, 8, 12, 5161)] (pe := 149) (ls' := [some (.ref 0), some (.int ti), some (.int (if (s1.2 0 12) < (s1.2 20 i1) then (nI i1) else (if (s1.2 20 i1) = (s1.2 0 12) then (if (g_X10_of s1.2 i1 0) ≤ (g_X10_of s1.2 s1.1.toNatClampNeg 0) then s1.1 else (nI i1)) else s1.1))), some (.int (nI i1))]) (st' := [.int (s1.2 0 12), .ref 0]) (M' := (zU s1.2 0 13 (if (s1.2 20 i1) ≤ (s1.2 0 12) then (if (s1.2 20 i1) = (s1.2 0 12) then ((s1.2 0 13) + 1) else (s1.2 0 13)) else (1 : Int32)))) (by decide +kernel) rfl ?_
              exact zT.here (by simp only [if_pos c7]; try rfl)
            · skip
              refine zT.run [(.aload_n 0, 0, 0, 0), (.getfield 35, 8, 11, 5160), (.iload_n 3, 0, 0, 0)] (pe := 141) (ls' := [some (.ref 0), some (.int ti), some (.int (if (s1.2 0 12) < (s1.2 20 i1) then (nI i1) else (if (s1.2 20 i1) = (s1.2 0 12) then (if (g_X10_of s1.2 i1 0) ≤ (g_X10_of s1.2 s1.1.toNatClampNeg 0) then s1.1 else (nI i1)) else s1.1))), some (.int (nI i1))]) (st' := [.int (nI i1), .ref 20, .ref 0]) (M' := (zU s1.2 0 13 (if (s1.2 20 i1) ≤ (s1.2 0 12) then (if (s1.2 20 i1) = (s1.2 0 12) then ((s1.2 0 13) + 1) else (s1.2 0 13)) else (1 : Int32)))) (by decide +kernel) rfl ?_
              refine zT.iald (n := 9) (k := i1) rfl rfl (by omega) (by decide) (by decide +kernel) ?_
              refine zT.run [(.goto 7, 0, 0, 0)] (pe := 149) (ls' := [some (.ref 0), some (.int ti), some (.int (if (s1.2 0 12) < (s1.2 20 i1) then (nI i1) else (if (s1.2 20 i1) = (s1.2 0 12) then (if (g_X10_of s1.2 i1 0) ≤ (g_X10_of s1.2 s1.1.toNatClampNeg 0) then s1.1 else (nI i1)) else s1.1))), some (.int (nI i1))]) (st' := [.int (s1.2 20 i1), .ref 0]) (M' := (zU s1.2 0 13 (if (s1.2 20 i1) ≤ (s1.2 0 12) then (if (s1.2 20 i1) = (s1.2 0 12) then ((s1.2 0 13) + 1) else (s1.2 0 13)) else (1 : Int32)))) (by decide +kernel) rfl ?_
              exact zT.here (by simp only [if_neg c7]; try rfl)
          · skip
            refine zT.run [(.putfield 109, 8, 12, 5161), (.iinc 3 1, 0, 0, 0), (.goto (-141), 0, 0, 0)] (pe := 14) (ls' := [some (.ref 0), some (.int ti), some (.int (if (s1.2 0 12) < (s1.2 20 i1) then (nI i1) else (if (s1.2 20 i1) = (s1.2 0 12) then (if (g_X10_of s1.2 i1 0) ≤ (g_X10_of s1.2 s1.1.toNatClampNeg 0) then s1.1 else (nI i1)) else s1.1))), some (.int ((nI i1) + 1))]) (st' := []) (M' := (zU (zU s1.2 0 13 (if (s1.2 20 i1) ≤ (s1.2 0 12) then (if (s1.2 20 i1) = (s1.2 0 12) then ((s1.2 0 13) + 1) else (s1.2 0 13)) else (1 : Int32))) 0 12 (if (s1.2 20 i1) ≤ (s1.2 0 12) then (s1.2 0 12) else (s1.2 20 i1)))) (by decide +kernel) rfl ?_
            exact zT.eq (by simp only [l_X10_leading_14, if_neg c1, nI_succ, zDl]; try rfl) k1
  · skip
    show zT _ _ _ _ (14, [some (.ref 0), some (.int ti), some (.int (r_X10_leading_14 M n ti).1), some (.int (nI n))], [], (sh_Model gp), (r_X10_leading_14 M n ti).2)
    refine zT.run [(.iload_n 3, 0, 0, 0), (.aload_n 0, 0, 0, 0), (.getfield 9, 8, 1, 5150), (.iconst 0, 0, 0, 0)] (pe := 20) (ls' := [some (.ref 0), some (.int ti), some (.int (r_X10_leading_14 M n ti).1), some (.int (nI n))]) (st' := [.int 0, .ref 1, .int (nI n)]) (M' := (r_X10_leading_14 M n ti).2) (by decide +kernel) rfl ?_
    refine zT.iald (n := 187) (k := 0) rfl rfl (by decide) (by decide) (by decide +kernel) ?_
    refine zT.cge (tgt := 158) (off := 137) (by decide +kernel) (by decide) (fun _ => ?_) (fun c => absurd (zGeY (n := n) ((congrFun (fr_l_X10_leading_14 M n ti 1 (by decide) n ((-1), (zU (zU M 0 12 (-1)) 0 13 0))) 0).trans hn)) c)
    refine zT.run [(.aload_n 0, 0, 0, 0), (.getfield 112, 8, 13, 5162), (.iconst 1, 0, 0, 0)] (pe := 163) (ls' := [some (.ref 0), some (.int ti), some (.int (r_X10_leading_14 M n ti).1), some (.int (nI n))]) (st' := [.int 1, .int ((r_X10_leading_14 M n ti).2 0 13)]) (M' := (r_X10_leading_14 M n ti).2) (by decide +kernel) rfl ?_
    refine zT.cle (tgt := 174) (off := 11) (by decide +kernel) (by decide) (fun (c8 : ((r_X10_leading_14 M n ti).2 0 13) ≤ 1) => ?_) (fun (c8 : ¬ ((r_X10_leading_14 M n ti).2 0 13) ≤ 1) => ?_)
    · skip
      refine zT.run [(.iload_n 2, 0, 0, 0)] (pe := 175) (ls' := [some (.ref 0), some (.int ti), some (.int (r_X10_leading_14 M n ti).1), some (.int (nI n))]) (st' := [.int (r_X10_leading_14 M n ti).1]) (M' := (r_X10_leading_14 M n ti).2) (by decide +kernel) rfl ?_
      exact zT.iret (ty := Jvm.ClassFile.FieldType.int) (by simp only [g_X10_leading, if_pos c8]; try rfl) (by simp only [g_X10_leading, if_pos c8]; try rfl) rfl rfl (by decide +kernel)
    · skip
      refine zT.run [(.iload_n 1, 0, 0, 0)] (pe := 167) (ls' := [some (.ref 0), some (.int ti), some (.int (r_X10_leading_14 M n ti).1), some (.int (nI n))]) (st' := [.int ti]) (M' := (r_X10_leading_14 M n ti).2) (by decide +kernel) rfl ?_
      refine zT.zne (tgt := 174) (off := 7) (by decide +kernel) (by decide) (fun (c9 : ¬ ti = 0) => ?_) (fun (c9 : ti = 0) => ?_)
      · skip
        refine zT.run [(.iload_n 2, 0, 0, 0)] (pe := 175) (ls' := [some (.ref 0), some (.int ti), some (.int (r_X10_leading_14 M n ti).1), some (.int (nI n))]) (st' := [.int (r_X10_leading_14 M n ti).1]) (M' := (r_X10_leading_14 M n ti).2) (by decide +kernel) rfl ?_
        exact zT.iret (ty := Jvm.ClassFile.FieldType.int) (by simp only [g_X10_leading, if_neg c8, if_neg c9]; try rfl) (by simp only [g_X10_leading, if_neg c8, if_neg c9]; try rfl) rfl rfl (by decide +kernel)
      · skip
        refine zT.run [(.iconst (-1), 0, 0, 0), (.goto 4, 0, 0, 0)] (pe := 175) (ls' := [some (.ref 0), some (.int ti), some (.int (r_X10_leading_14 M n ti).1), some (.int (nI n))]) (st' := [.int (-1)]) (M' := (r_X10_leading_14 M n ti).2) (by decide +kernel) rfl ?_
        exact zT.iret (ty := Jvm.ClassFile.FieldType.int) (by simp only [g_X10_leading, if_neg c8, if_pos c9]; try rfl) (by simp only [g_X10_leading, if_neg c8, if_pos c9]; try rfl) rfl rfl (by decide +kernel)
theorem fr_X10_leading (M : zM) (n : Nat) (ti : Int32) (o : Nat) (ho : o ≠ 0) : (g_X10_leading M n ti).2 o = M o := by
  simp only [g_X10_leading]
  (repeat' split) <;> simp only [zU_ne ho, zUa_ne ho, r_X10_leading_14, (fr_l_X10_leading_14 M n ti o (by omega))]
theorem k_X10_leading : zCal yy_X10_leading 1 := ⟨⟨⟨⟨zIn (w := 6082) (by decide +kernel) rfl, zIn (w := 1012) (by decide +kernel) rfl⟩, by decide +kernel⟩, by decide +kernel⟩, ⟨zIn (w := 6081) (by decide +kernel) rfl, zIn (w := 50) (by decide +kernel) rfl⟩⟩
theorem e_X10_leading (M : zM) (n : Nat) (ti : Int32) : zBs n (g_X10_leading M n ti).1 := by
  have h : (r_X10_leading_14 M n ti).1 = -1 ∧ (r_X10_leading_14 M n ti).2 0 12 = -1 ∨ ∃ e, e < n ∧ (r_X10_leading_14 M n ti).1 = nI e := inv_leading M n ti n _ (Or.inl ⟨rfl, rfl⟩) (Nat.le_refl _)
  have h2 : zBs n (r_X10_leading_14 M n ti).1 := by
    rcases h with ⟨a, -⟩ | b
    · exact Or.inl a
    · exact Or.inr b
  simp only [g_X10_leading]
  (repeat' split) <;> first | exact h2 | exact Or.inl rfl
noncomputable abbrev yy_X10_chosenBy : zY := (yX10_chosenBy, cX10_chosenBy, 4, (some Jvm.ClassFile.FieldType.int), 2, 45)
noncomputable def g_X10_chosenBy (M : zM) (n : Nat) (le : Int32) (ti : Int32) : Int32 × zM := (if (g_X10_leading M n ti).1 = (-1) then ((-1), (g_X10_leading M n ti).2) else (if ((g_X10_leading M n ti).2 20 (g_X10_leading M n ti).1.toNatClampNeg) < le then ((-1), (g_X10_leading M n ti).2) else ((g_X10_leading M n ti).1, (g_X10_leading M n ti).2)))
set_option maxRecDepth 100000 in
theorem c_X10_chosenBy (M : zM) (gp : Nat → Option Nat) (n : Nat) (le : Int32) (ti : Int32) (hn : M 1 0 = nI n) (h9 : n ≤ 9) (hw : zVo n M) : zC yy_X10_chosenBy 0 0 [.ref 0, .int le, .int ti] (sh_Model gp) M (some (.int (g_X10_chosenBy M n le ti).1)) (sh_Model gp) (g_X10_chosenBy M n le ti).2 := by
  refine zC.of (by decide +kernel) rfl (Nat.le_of_ble_eq_true rfl) ?_
  refine zT.run [(.aload_n 0, 0, 0, 0), (.iload_n 2, 0, 0, 0)] (pe := 2) (ls' := [some (.ref 0), some (.int le), some (.int ti), none]) (st' := [.int ti, .ref 0]) (M' := M) (by decide +kernel) rfl ?_
  refine zT.cV_all (o := 0) (idx := 115) (av := [.int ti]) (rv := (some (.int (g_X10_leading M n ti).1))) (st := []) (S1 := [.int (g_X10_leading M n ti).1]) (c_X10_leading M gp n ti hn h9 hw) k_X10_leading _ _ rfl rfl rfl (zIn (w := 6079) (by decide +kernel) rfl) (by decide +kernel) (by decide +kernel) rfl (Nat.le_of_ble_eq_true rfl) rfl ?_
  refine zT.run [(.istore_n 3, 0, 0, 0), (.iload_n 3, 0, 0, 0), (.iconst (-1), 0, 0, 0)] (pe := 8) (ls' := [some (.ref 0), some (.int le), some (.int ti), some (.int (g_X10_leading M n ti).1)]) (st' := [.int (-1), .int (g_X10_leading M n ti).1]) (M' := (g_X10_leading M n ti).2) (by decide +kernel) rfl ?_
  refine zT.ceq (tgt := 25) (off := 17) (by decide +kernel) (by decide) (fun (c1 : (g_X10_leading M n ti).1 = (-1)) => ?_) (fun (c1 : ¬ (g_X10_leading M n ti).1 = (-1)) => ?_)
  · skip
    refine zT.run [(.iconst (-1), 0, 0, 0)] (pe := 26) (ls' := [some (.ref 0), some (.int le), some (.int ti), some (.int (g_X10_leading M n ti).1)]) (st' := [.int (-1)]) (M' := (g_X10_leading M n ti).2) (by decide +kernel) rfl ?_
    exact zT.iret (ty := Jvm.ClassFile.FieldType.int) (by simp only [g_X10_chosenBy, if_pos c1]; try rfl) (by simp only [g_X10_chosenBy, if_pos c1]; try rfl) rfl rfl (by decide +kernel)
  · skip
    refine zT.run [(.aload_n 0, 0, 0, 0), (.getfield 35, 8, 11, 5160), (.iload_n 3, 0, 0, 0)] (pe := 16) (ls' := [some (.ref 0), some (.int le), some (.int ti), some (.int (g_X10_leading M n ti).1)]) (st' := [.int (g_X10_leading M n ti).1, .ref 20]) (M' := (g_X10_leading M n ti).2) (by decide +kernel) rfl ?_
    refine zT.iald (n := 9) (k := (g_X10_leading M n ti).1.toNatClampNeg) rfl (zBsI (e_X10_leading M n ti) h9 (by assumption)).1 (by have := (zBsI (e_X10_leading M n ti) h9 (by assumption)).2; omega) (by decide) (by decide +kernel) ?_
    refine zT.run [(.iload_n 1, 0, 0, 0)] (pe := 18) (ls' := [some (.ref 0), some (.int le), some (.int ti), some (.int (g_X10_leading M n ti).1)]) (st' := [.int le, .int ((g_X10_leading M n ti).2 20 (g_X10_leading M n ti).1.toNatClampNeg)]) (M' := (g_X10_leading M n ti).2) (by decide +kernel) rfl ?_
    refine zT.clt (tgt := 25) (off := 7) (by decide +kernel) (by decide) (fun (c2 : ((g_X10_leading M n ti).2 20 (g_X10_leading M n ti).1.toNatClampNeg) < le) => ?_) (fun (c2 : ¬ ((g_X10_leading M n ti).2 20 (g_X10_leading M n ti).1.toNatClampNeg) < le) => ?_)
    · skip
      refine zT.run [(.iconst (-1), 0, 0, 0)] (pe := 26) (ls' := [some (.ref 0), some (.int le), some (.int ti), some (.int (g_X10_leading M n ti).1)]) (st' := [.int (-1)]) (M' := (g_X10_leading M n ti).2) (by decide +kernel) rfl ?_
      exact zT.iret (ty := Jvm.ClassFile.FieldType.int) (by simp only [g_X10_chosenBy, if_neg c1, if_pos c2]; try rfl) (by simp only [g_X10_chosenBy, if_neg c1, if_pos c2]; try rfl) rfl rfl (by decide +kernel)
    · skip
      refine zT.run [(.iload_n 3, 0, 0, 0), (.goto 4, 0, 0, 0)] (pe := 26) (ls' := [some (.ref 0), some (.int le), some (.int ti), some (.int (g_X10_leading M n ti).1)]) (st' := [.int (g_X10_leading M n ti).1]) (M' := (g_X10_leading M n ti).2) (by decide +kernel) rfl ?_
      exact zT.iret (ty := Jvm.ClassFile.FieldType.int) (by simp only [g_X10_chosenBy, if_neg c1, if_neg c2]; try rfl) (by simp only [g_X10_chosenBy, if_neg c1, if_neg c2]; try rfl) rfl rfl (by decide +kernel)
theorem fr_X10_chosenBy (M : zM) (n : Nat) (le : Int32) (ti : Int32) (o : Nat) (ho : o ≠ 0) : (g_X10_chosenBy M n le ti).2 o = M o := by
  simp only [g_X10_chosenBy]
  (repeat' split) <;> simp only [zU_ne ho, zUa_ne ho, (fun (MM : zM) (n : Nat) (ti : Int32) => fr_X10_leading MM n ti o (by omega))]
theorem k_X10_chosenBy : zCal yy_X10_chosenBy 2 := ⟨⟨⟨⟨zIn (w := 6078) (by decide +kernel) rfl, zIn (w := 1012) (by decide +kernel) rfl⟩, by decide +kernel⟩, by decide +kernel⟩, ⟨zIn (w := 6077) (by decide +kernel) rfl, zIn (w := 49) (by decide +kernel) rfl⟩⟩
theorem e_X10_chosenBy (M : zM) (n : Nat) (le ti : Int32) : zBs n (g_X10_chosenBy M n le ti).1 := by
  have h := e_X10_leading M n ti
  simp only [g_X10_chosenBy]
  (repeat' split) <;> first | exact h | exact Or.inl rfl
noncomputable abbrev yy_X10_chosenNow : zY := (yX10_chosenNow, cX10_chosenNow, 1, (some Jvm.ClassFile.FieldType.int), 3, 68)
noncomputable def g_X10_chosenNow (M : zM) (n : Nat) : Int32 × zM := ((g_X10_chosenBy (g_X10_findVotes M n) n ((g_X10_findVotes M n) 1 1) ((g_X10_findVotes M n) 1 2)).1, (g_X10_chosenBy (g_X10_findVotes M n) n ((g_X10_findVotes M n) 1 1) ((g_X10_findVotes M n) 1 2)).2)
set_option maxRecDepth 100000 in
theorem c_X10_chosenNow (M : zM) (gp : Nat → Option Nat) (n : Nat) (hn : M 1 0 = nI n) (h9 : n ≤ 9) (hv : zHv M) : zC yy_X10_chosenNow 0 0 [.ref 0] (sh_Model gp) M (some (.int (g_X10_chosenNow M n).1)) (sh_Model gp) (g_X10_chosenNow M n).2 := by
  refine zC.of (by decide +kernel) rfl (Nat.le_of_ble_eq_true rfl) ?_
  refine zT.run [(.aload_n 0, 0, 0, 0)] (pe := 1) (ls' := [some (.ref 0)]) (st' := [.ref 0]) (M' := M) (by decide +kernel) rfl ?_
  refine zT.cV_all (o := 0) (idx := 118) (av := []) (rv := none) (st := []) (S1 := []) (c_X10_findVotes M gp n hn h9 hv) k_X10_findVotes _ _ rfl rfl rfl (zIn (w := 6071) (by decide +kernel) rfl) (by decide +kernel) (by decide +kernel) rfl (Nat.le_of_ble_eq_true rfl) rfl ?_
  refine zT.run [(.aload_n 0, 0, 0, 0), (.aload_n 0, 0, 0, 0), (.getfield 9, 8, 1, 5150), (.iconst 1, 0, 0, 0)] (pe := 10) (ls' := [some (.ref 0)]) (st' := [.int 1, .ref 1, .ref 0]) (M' := (g_X10_findVotes M n)) (by decide +kernel) rfl ?_
  refine zT.iald (n := 187) (k := 1) rfl rfl (by decide) (by decide) (by decide +kernel) ?_
  refine zT.run [(.aload_n 0, 0, 0, 0), (.getfield 9, 8, 1, 5150), (.iconst 2, 0, 0, 0)] (pe := 16) (ls' := [some (.ref 0)]) (st' := [.int 2, .ref 1, .int ((g_X10_findVotes M n) 1 1), .ref 0]) (M' := (g_X10_findVotes M n)) (by decide +kernel) rfl ?_
  refine zT.iald (n := 187) (k := 2) rfl rfl (by decide) (by decide) (by decide +kernel) ?_
  refine zT.cV_all (o := 0) (idx := 121) (av := [.int ((g_X10_findVotes M n) 1 1), .int ((g_X10_findVotes M n) 1 2)]) (rv := (some (.int (g_X10_chosenBy (g_X10_findVotes M n) n ((g_X10_findVotes M n) 1 1) ((g_X10_findVotes M n) 1 2)).1))) (st := []) (S1 := [.int (g_X10_chosenBy (g_X10_findVotes M n) n ((g_X10_findVotes M n) 1 1) ((g_X10_findVotes M n) 1 2)).1]) (c_X10_chosenBy (g_X10_findVotes M n) gp n ((g_X10_findVotes M n) 1 1) ((g_X10_findVotes M n) 1 2) ((congrFun (fr_X10_findVotes M n 1 (by decide)) 0).trans hn) h9 (e_X10_findVotes M n h9)) k_X10_chosenBy _ _ rfl rfl rfl (zIn (w := 6075) (by decide +kernel) rfl) (by decide +kernel) (by decide +kernel) rfl (Nat.le_of_ble_eq_true rfl) rfl ?_
  exact zT.iret (ty := Jvm.ClassFile.FieldType.int) (by simp only [g_X10_chosenNow]; try rfl) (by simp only [g_X10_chosenNow]; try rfl) rfl rfl (by decide +kernel)
theorem fr_X10_chosenNow (M : zM) (n : Nat) (o : Nat) (ho : o ≠ 0 ∧ o ≠ 20) : (g_X10_chosenNow M n).2 o = M o := by
  simp only [g_X10_chosenNow]
  (repeat' split) <;> simp only [zU_ne ho.1, zU_ne ho.2, zUa_ne ho.1, zUa_ne ho.2, (fun (MM : zM) (n : Nat) (le : Int32) (ti : Int32) => fr_X10_chosenBy MM n le ti o (by omega)), (fun (MM : zM) (n : Nat) => fr_X10_findVotes MM n o (by omega))]
theorem k_X10_chosenNow : zCal yy_X10_chosenNow 0 := ⟨⟨⟨⟨zIn (w := 6070) (by decide +kernel) rfl, zIn (w := 1012) (by decide +kernel) rfl⟩, by decide +kernel⟩, by decide +kernel⟩, ⟨zIn (w := 6069) (by decide +kernel) rfl, zIn (w := 47) (by decide +kernel) rfl⟩⟩
theorem e_X10_chosenNow (M : zM) (n : Nat) : zBs n (g_X10_chosenNow M n).1 := by
  simp only [g_X10_chosenNow]
  exact e_X10_chosenBy _ n _ _
noncomputable abbrev yy_X10_addOutcome : zY := (yX10_addOutcome, cX10_addOutcome, 3, none, 2, 45)
noncomputable def l_X10_addOutcome_15 (M : zM) (n : Nat) (oz : Nat) (ch : Int32) (i2 : Nat) (s2 : zM) : zM := (zU s2 1 (i2 + 91) (s2 1 ((i2 + 91) + 8)))
theorem fr_l_X10_addOutcome_15 (M : zM) (n : Nat) (oz : Nat) (ch : Int32) (o : Nat) (ho : o ≠ 1) : ∀ (k : Nat) (s : zM), (zIt (l_X10_addOutcome_15 M n oz ch) k s) o = s o := by
  intro k
  induction k with
  | zero => intro s; rfl
  | succ k ih =>
    intro s
    rw [← ih s]
    show (l_X10_addOutcome_15 M n oz ch k (zIt (l_X10_addOutcome_15 M n oz ch) k s)) o = _
    generalize zIt (l_X10_addOutcome_15 M n oz ch) k s = t
    simp only [l_X10_addOutcome_15]
    (repeat' split) <;> simp only [zU_ne ho]
theorem lo_l_X10_addOutcome_15 (M : zM) (n : Nat) (oz : Nat) (ch : Int32) (o : Nat) (ho : o < 10) : ∀ (k : Nat) (s : zM), (zIt (l_X10_addOutcome_15 M n oz ch) k s) 1 o = s 1 o := by
  intro k
  induction k with
  | zero => intro s; rfl
  | succ k ih =>
    intro s
    rw [← ih s]
    show (l_X10_addOutcome_15 M n oz ch k (zIt (l_X10_addOutcome_15 M n oz ch) k s)) 1 o = _
    generalize zIt (l_X10_addOutcome_15 M n oz ch) k s = t
    simp only [l_X10_addOutcome_15]
    (repeat' split) <;> (try simp only [zU_h9c (o := o) (by omega)])
noncomputable def r_X10_addOutcome_15 (M : zM) (n : Nat) (oz : Nat) (ch : Int32) : zM := (zIt (l_X10_addOutcome_15 M n oz ch) 88 M)
noncomputable def j_X10_addOutcome_54 (M : zM) (n : Nat) (oz : Nat) (ch : Int32) : zM := (if (M 1 9) = 12 then (zU (r_X10_addOutcome_15 M n oz ch) 1 9 (((r_X10_addOutcome_15 M n oz ch) 1 9) - 1)) else M)
theorem fr_j_X10_addOutcome_54 (M : zM) (n : Nat) (oz : Nat) (ch : Int32) (o : Nat) (ho : o ≠ 1) : (j_X10_addOutcome_54 M n oz ch) o = M o := by
  simp only [j_X10_addOutcome_54]
  (repeat' split) <;> (try simp only [zU_ne ho, zUa_ne ho, r_X10_addOutcome_15, (fr_l_X10_addOutcome_15 M n oz ch o (by omega))])
theorem lo_j_X10_addOutcome_54 (M : zM) (n : Nat) (oz : Nat) (ch : Int32) (o : Nat) (ho : o < 10 ∧ o ≠ 9) : (j_X10_addOutcome_54 M n oz ch) 1 o = M 1 o := by
  simp only [j_X10_addOutcome_54]
  (repeat' split) <;> (try simp only [zU_k (c := 1) (i := 9) (o := o) (by omega), r_X10_addOutcome_15, (lo_l_X10_addOutcome_15 M n oz ch o (by omega))])
noncomputable def m_X10_addOutcome_1 (M : zM) (n : Nat) (oz : Nat) (ch : Int32) : zM := (zU (zU (zU (j_X10_addOutcome_54 M n oz ch) 1 (91 + (zOn2 oz * 8)) ((j_X10_addOutcome_54 M n oz ch) 1 5)) 1 ((91 + (zOn2 oz * 8)) + 1) ch) 1 ((91 + (zOn2 oz * 8)) + 2) (if ch = (-1) then (0 : Int32) else ((j_X10_addOutcome_54 M n oz ch) 20 ch.toNatClampNeg)))
noncomputable def m_X10_addOutcome_2 (M : zM) (n : Nat) (oz : Nat) (ch : Int32) : zM := (zU (m_X10_addOutcome_1 M n oz ch) 1 ((91 + (zOn2 oz * 8)) + 3) (g_X10_votesOf (zU (zU (zU (j_X10_addOutcome_54 M n oz ch) 1 (91 + (zOn2 oz * 8)) ((j_X10_addOutcome_54 M n oz ch) 1 5)) 1 ((91 + (zOn2 oz * 8)) + 1) ch) 1 ((91 + (zOn2 oz * 8)) + 2) (if ch = (-1) then (0 : Int32) else ((j_X10_addOutcome_54 M n oz ch) 20 ch.toNatClampNeg))) n 2))
theorem e_addOutcome54 (M : zM) (n oz : Nat) (ch : Int32) (hoz : M 1 9 = nI oz) (h12 : oz ≤ 12) : (j_X10_addOutcome_54 M n oz ch) 1 9 = nI (zOn2 oz) := by
  simp only [j_X10_addOutcome_54, zOn2, hoz]
  by_cases c : oz = 12
  · subst c
    simp only [show (nI 12 : Int32) = 12 from rfl, if_true]
    rw [zU_eq]
    show r_X10_addOutcome_15 M n 12 ch 1 9 - 1 = _
    rw [show r_X10_addOutcome_15 M n 12 ch 1 9 = M 1 9 from lo_l_X10_addOutcome_15 M n 12 ch 9 (by decide) 88 M, hoz]
    rfl
  · rw [if_neg c, if_neg (fun h => c ((nI_eq (by omega) (by omega)).mp (h.trans (rfl : (12 : Int32) = nI 12))))]
    exact hoz
noncomputable def g_X10_addOutcome (M : zM) (n : Nat) (oz : Nat) (ch : Int32) : zM := (zU (zU (zU (zU (zU (m_X10_addOutcome_2 M n oz ch) 1 ((91 + (zOn2 oz * 8)) + 4) (g_X10_votesOf (zU (m_X10_addOutcome_1 M n oz ch) 1 ((91 + (zOn2 oz * 8)) + 3) (g_X10_votesOf (zU (zU (zU (j_X10_addOutcome_54 M n oz ch) 1 (91 + (zOn2 oz * 8)) ((j_X10_addOutcome_54 M n oz ch) 1 5)) 1 ((91 + (zOn2 oz * 8)) + 1) ch) 1 ((91 + (zOn2 oz * 8)) + 2) (if ch = (-1) then (0 : Int32) else ((j_X10_addOutcome_54 M n oz ch) 20 ch.toNatClampNeg))) n 2)) n 3)) 1 ((91 + (zOn2 oz * 8)) + 5) (if ch = (-1) then (0 : Int32) else (if ((j_X10_addOutcome_54 M n oz ch) 0 13) ≤ 1 then (0 : Int32) else (1 : Int32)))) 1 ((91 + (zOn2 oz * 8)) + 6) ((zU (zU (m_X10_addOutcome_2 M n oz ch) 1 ((91 + (zOn2 oz * 8)) + 4) (g_X10_votesOf (zU (m_X10_addOutcome_1 M n oz ch) 1 ((91 + (zOn2 oz * 8)) + 3) (g_X10_votesOf (zU (zU (zU (j_X10_addOutcome_54 M n oz ch) 1 (91 + (zOn2 oz * 8)) ((j_X10_addOutcome_54 M n oz ch) 1 5)) 1 ((91 + (zOn2 oz * 8)) + 1) ch) 1 ((91 + (zOn2 oz * 8)) + 2) (if ch = (-1) then (0 : Int32) else ((j_X10_addOutcome_54 M n oz ch) 20 ch.toNatClampNeg))) n 2)) n 3)) 1 ((91 + (zOn2 oz * 8)) + 5) (if ch = (-1) then (0 : Int32) else (if ((j_X10_addOutcome_54 M n oz ch) 0 13) ≤ 1 then (0 : Int32) else (1 : Int32)))) 1 1)) 1 ((91 + (zOn2 oz * 8)) + 7) ((zU (zU (zU (m_X10_addOutcome_2 M n oz ch) 1 ((91 + (zOn2 oz * 8)) + 4) (g_X10_votesOf (zU (m_X10_addOutcome_1 M n oz ch) 1 ((91 + (zOn2 oz * 8)) + 3) (g_X10_votesOf (zU (zU (zU (j_X10_addOutcome_54 M n oz ch) 1 (91 + (zOn2 oz * 8)) ((j_X10_addOutcome_54 M n oz ch) 1 5)) 1 ((91 + (zOn2 oz * 8)) + 1) ch) 1 ((91 + (zOn2 oz * 8)) + 2) (if ch = (-1) then (0 : Int32) else ((j_X10_addOutcome_54 M n oz ch) 20 ch.toNatClampNeg))) n 2)) n 3)) 1 ((91 + (zOn2 oz * 8)) + 5) (if ch = (-1) then (0 : Int32) else (if ((j_X10_addOutcome_54 M n oz ch) 0 13) ≤ 1 then (0 : Int32) else (1 : Int32)))) 1 ((91 + (zOn2 oz * 8)) + 6) ((zU (zU (m_X10_addOutcome_2 M n oz ch) 1 ((91 + (zOn2 oz * 8)) + 4) (g_X10_votesOf (zU (m_X10_addOutcome_1 M n oz ch) 1 ((91 + (zOn2 oz * 8)) + 3) (g_X10_votesOf (zU (zU (zU (j_X10_addOutcome_54 M n oz ch) 1 (91 + (zOn2 oz * 8)) ((j_X10_addOutcome_54 M n oz ch) 1 5)) 1 ((91 + (zOn2 oz * 8)) + 1) ch) 1 ((91 + (zOn2 oz * 8)) + 2) (if ch = (-1) then (0 : Int32) else ((j_X10_addOutcome_54 M n oz ch) 20 ch.toNatClampNeg))) n 2)) n 3)) 1 ((91 + (zOn2 oz * 8)) + 5) (if ch = (-1) then (0 : Int32) else (if ((j_X10_addOutcome_54 M n oz ch) 0 13) ≤ 1 then (0 : Int32) else (1 : Int32)))) 1 1)) 1 2)) 1 9 (((zU (zU (zU (zU (m_X10_addOutcome_2 M n oz ch) 1 ((91 + (zOn2 oz * 8)) + 4) (g_X10_votesOf (zU (m_X10_addOutcome_1 M n oz ch) 1 ((91 + (zOn2 oz * 8)) + 3) (g_X10_votesOf (zU (zU (zU (j_X10_addOutcome_54 M n oz ch) 1 (91 + (zOn2 oz * 8)) ((j_X10_addOutcome_54 M n oz ch) 1 5)) 1 ((91 + (zOn2 oz * 8)) + 1) ch) 1 ((91 + (zOn2 oz * 8)) + 2) (if ch = (-1) then (0 : Int32) else ((j_X10_addOutcome_54 M n oz ch) 20 ch.toNatClampNeg))) n 2)) n 3)) 1 ((91 + (zOn2 oz * 8)) + 5) (if ch = (-1) then (0 : Int32) else (if ((j_X10_addOutcome_54 M n oz ch) 0 13) ≤ 1 then (0 : Int32) else (1 : Int32)))) 1 ((91 + (zOn2 oz * 8)) + 6) ((zU (zU (m_X10_addOutcome_2 M n oz ch) 1 ((91 + (zOn2 oz * 8)) + 4) (g_X10_votesOf (zU (m_X10_addOutcome_1 M n oz ch) 1 ((91 + (zOn2 oz * 8)) + 3) (g_X10_votesOf (zU (zU (zU (j_X10_addOutcome_54 M n oz ch) 1 (91 + (zOn2 oz * 8)) ((j_X10_addOutcome_54 M n oz ch) 1 5)) 1 ((91 + (zOn2 oz * 8)) + 1) ch) 1 ((91 + (zOn2 oz * 8)) + 2) (if ch = (-1) then (0 : Int32) else ((j_X10_addOutcome_54 M n oz ch) 20 ch.toNatClampNeg))) n 2)) n 3)) 1 ((91 + (zOn2 oz * 8)) + 5) (if ch = (-1) then (0 : Int32) else (if ((j_X10_addOutcome_54 M n oz ch) 0 13) ≤ 1 then (0 : Int32) else (1 : Int32)))) 1 1)) 1 ((91 + (zOn2 oz * 8)) + 7) ((zU (zU (zU (m_X10_addOutcome_2 M n oz ch) 1 ((91 + (zOn2 oz * 8)) + 4) (g_X10_votesOf (zU (m_X10_addOutcome_1 M n oz ch) 1 ((91 + (zOn2 oz * 8)) + 3) (g_X10_votesOf (zU (zU (zU (j_X10_addOutcome_54 M n oz ch) 1 (91 + (zOn2 oz * 8)) ((j_X10_addOutcome_54 M n oz ch) 1 5)) 1 ((91 + (zOn2 oz * 8)) + 1) ch) 1 ((91 + (zOn2 oz * 8)) + 2) (if ch = (-1) then (0 : Int32) else ((j_X10_addOutcome_54 M n oz ch) 20 ch.toNatClampNeg))) n 2)) n 3)) 1 ((91 + (zOn2 oz * 8)) + 5) (if ch = (-1) then (0 : Int32) else (if ((j_X10_addOutcome_54 M n oz ch) 0 13) ≤ 1 then (0 : Int32) else (1 : Int32)))) 1 ((91 + (zOn2 oz * 8)) + 6) ((zU (zU (m_X10_addOutcome_2 M n oz ch) 1 ((91 + (zOn2 oz * 8)) + 4) (g_X10_votesOf (zU (m_X10_addOutcome_1 M n oz ch) 1 ((91 + (zOn2 oz * 8)) + 3) (g_X10_votesOf (zU (zU (zU (j_X10_addOutcome_54 M n oz ch) 1 (91 + (zOn2 oz * 8)) ((j_X10_addOutcome_54 M n oz ch) 1 5)) 1 ((91 + (zOn2 oz * 8)) + 1) ch) 1 ((91 + (zOn2 oz * 8)) + 2) (if ch = (-1) then (0 : Int32) else ((j_X10_addOutcome_54 M n oz ch) 20 ch.toNatClampNeg))) n 2)) n 3)) 1 ((91 + (zOn2 oz * 8)) + 5) (if ch = (-1) then (0 : Int32) else (if ((j_X10_addOutcome_54 M n oz ch) 0 13) ≤ 1 then (0 : Int32) else (1 : Int32)))) 1 1)) 1 2)) 1 9) + 1))
set_option maxRecDepth 100000 in
theorem c_X10_addOutcome (M : zM) (gp : Nat → Option Nat) (n : Nat) (oz : Nat) (ch : Int32) (hn : M 1 0 = nI n) (h9 : n ≤ 9) (hoz : M 1 9 = nI oz) (h12 : oz ≤ 12) (hch : zBs 9 ch) : zC yy_X10_addOutcome 0 0 [.ref 0, .int ch] (sh_Model gp) M none (sh_Model gp) (g_X10_addOutcome M n oz ch) := by
  refine zC.of (by decide +kernel) rfl (Nat.le_of_ble_eq_true rfl) ?_
  refine zT.run [(.aload_n 0, 0, 0, 0), (.getfield 9, 8, 1, 5150), (.bipush 9, 0, 0, 0)] (pe := 6) (ls' := [some (.ref 0), some (.int ch), none]) (st' := [.int 9, .ref 1]) (M' := M) (by decide +kernel) rfl ?_
  refine zT.iald (n := 187) (k := 9) rfl rfl (by decide) (by decide) (by decide +kernel) ?_
  refine zT.run [(.bipush 12, 0, 0, 0)] (pe := 9) (ls' := [some (.ref 0), some (.int ch), none]) (st' := [.int 12, .int (M 1 9)]) (M' := M) (by decide +kernel) rfl ?_
  refine zT.join (54, [some (.ref 0), some (.int ch), none], [], (sh_Model gp), (j_X10_addOutcome_54 M n oz ch)) ?_ ?_
  · refine zT.cne (tgt := 54) (off := 45) (by decide +kernel) (by decide) (fun (c1 : ¬ (M 1 9) = 12) => ?_) (fun (c1 : (M 1 9) = 12) => ?_)
    · skip
      exact zT.here (by simp only [j_X10_addOutcome_54, if_neg c1]; try rfl)
    · skip
      refine zT.run [(.bipush 91, 0, 0, 0), (.istore_n 2, 0, 0, 0)] (pe := 15) (ls' := [some (.ref 0), some (.int ch), some (.int 91)]) (st' := []) (M' := M) (by decide +kernel) rfl ?_
      refine zT.loop (l_X10_addOutcome_15 M n oz ch) (fun (i : Nat) (s : zM) => (15, [some (.ref 0), some (.int ch), some (.int (nI (i + 91)))], [], (sh_Model gp), s)) 88 M (fun i2 hi2 k2 => ?_) ?_
      · skip
        generalize hs2 : zIt (l_X10_addOutcome_15 M n oz ch) i2 M = s2 at k2 ⊢
        have hm2 : ∀ o : Nat, (o ≠ 1) → s2 o = M o := fun o ho => by rw [← hs2]; exact fr_l_X10_addOutcome_15 M n oz ch o ho i2 M
        have hl2 : ∀ o : Nat, (o < 10) → s2 1 o = M 1 o := fun o ho => by rw [← hs2]; exact lo_l_X10_addOutcome_15 M n oz ch o ho i2 M
        show zT _ _ _ _ (15, [some (.ref 0), some (.int ch), some (.int (nI (i2 + 91)))], [], (sh_Model gp), s2)
        refine zT.run [(.iload_n 2, 0, 0, 0), (.sipush 179, 0, 0, 0)] (pe := 19) (ls' := [some (.ref 0), some (.int ch), some (.int (nI (i2 + 91)))]) (st' := [.int 179, .int (nI (i2 + 91))]) (M' := s2) (by decide +kernel) rfl ?_
        refine zT.cge (tgt := 43) (off := 24) (by decide +kernel) (by decide) (fun c => absurd c (zGeN (n := 179) rfl (by omega) (by omega))) (fun _ => ?_)
        refine zT.run [(.aload_n 0, 0, 0, 0), (.getfield 9, 8, 1, 5150), (.iload_n 2, 0, 0, 0), (.aload_n 0, 0, 0, 0), (.getfield 9, 8, 1, 5150), (.iload_n 2, 0, 0, 0), (.bipush 8, 0, 0, 0), (.iadd, 0, 0, 0)] (pe := 35) (ls' := [some (.ref 0), some (.int ch), some (.int (nI (i2 + 91)))]) (st' := [.int ((nI (i2 + 91)) + 8), .ref 1, .int (nI (i2 + 91)), .ref 1]) (M' := s2) (by decide +kernel) rfl ?_
        refine zT.iald (n := 187) (k := ((i2 + 91) + 8)) rfl (by show ((nI (i2 + 91)) + (nI 8)) = nI ((i2 + 91) + 8); simp only [pk_mul, nI_add]) (by omega) (by decide) (by decide +kernel) ?_
        refine zT.iast (n := 187) (k := (i2 + 91)) rfl (by show (nI (i2 + 91)) = nI (i2 + 91); simp only [pk_mul, nI_add]) (by omega) (by decide) (by decide +kernel) ?_
        refine zT.run [(.iinc 2 1, 0, 0, 0), (.goto (-25), 0, 0, 0)] (pe := 15) (ls' := [some (.ref 0), some (.int ch), some (.int ((nI (i2 + 91)) + 1))]) (st' := []) (M' := (zU s2 1 (i2 + 91) (s2 1 ((i2 + 91) + 8)))) (by decide +kernel) rfl ?_
        exact zT.eq (by simp only [l_X10_addOutcome_15, nI_succ, zDl]; try rfl) k2
      · skip
        show zT _ _ _ _ (15, [some (.ref 0), some (.int ch), some (.int (nI (88 + 91)))], [], (sh_Model gp), (r_X10_addOutcome_15 M n oz ch))
        refine zT.run [(.iload_n 2, 0, 0, 0), (.sipush 179, 0, 0, 0)] (pe := 19) (ls' := [some (.ref 0), some (.int ch), some (.int (nI (88 + 91)))]) (st' := [.int 179, .int (nI (88 + 91))]) (M' := (r_X10_addOutcome_15 M n oz ch)) (by decide +kernel) rfl ?_
        refine zT.cge (tgt := 43) (off := 24) (by decide +kernel) (by decide) (fun _ => ?_) (fun c => absurd (zGeL (n := 179) rfl (by omega) (by omega)) c)
        refine zT.run [(.aload_n 0, 0, 0, 0), (.getfield 9, 8, 1, 5150), (.bipush 9, 0, 0, 0), (.dup2, 0, 0, 0)] (pe := 50) (ls' := [some (.ref 0), some (.int ch), some (.int (nI (88 + 91)))]) (st' := [.int 9, .ref 1, .int 9, .ref 1]) (M' := (r_X10_addOutcome_15 M n oz ch)) (by decide +kernel) rfl ?_
        refine zT.iald (n := 187) (k := 9) rfl rfl (by decide) (by decide) (by decide +kernel) ?_
        refine zT.run [(.iconst 1, 0, 0, 0), (.isub, 0, 0, 0)] (pe := 53) (ls' := [some (.ref 0), some (.int ch), some (.int (nI (88 + 91)))]) (st' := [.int (((r_X10_addOutcome_15 M n oz ch) 1 9) - 1), .int 9, .ref 1]) (M' := (r_X10_addOutcome_15 M n oz ch)) (by decide +kernel) rfl ?_
        refine zT.iast (n := 187) (k := 9) rfl rfl (by decide) (by decide) (by decide +kernel) ?_
        refine zT.drop 2 ?_
        exact zT.here (by simp only [j_X10_addOutcome_54, if_pos c1, zDl]; try rfl)
  · skip
    have hz54 : (j_X10_addOutcome_54 M n oz ch) 1 9 = nI (zOn2 oz) := e_addOutcome54 M n oz ch hoz h12
    refine zT.run [(.bipush 91, 0, 0, 0), (.aload_n 0, 0, 0, 0), (.getfield 9, 8, 1, 5150), (.bipush 9, 0, 0, 0)] (pe := 62) (ls' := [some (.ref 0), some (.int ch), none]) (st' := [.int 9, .ref 1, .int 91]) (M' := (j_X10_addOutcome_54 M n oz ch)) (by decide +kernel) rfl ?_
    refine zT.iald (n := 187) (k := 9) rfl rfl (by decide) (by decide) (by decide +kernel) ?_
    refine zT.run [(.bipush 8, 0, 0, 0), (.imul, 0, 0, 0), (.iadd, 0, 0, 0), (.istore_n 2, 0, 0, 0), (.aload_n 0, 0, 0, 0), (.getfield 9, 8, 1, 5150), (.iload_n 2, 0, 0, 0), (.aload_n 0, 0, 0, 0), (.getfield 9, 8, 1, 5150), (.iconst 5, 0, 0, 0)] (pe := 78) (ls' := [some (.ref 0), some (.int ch), some (.int (91 + (((j_X10_addOutcome_54 M n oz ch) 1 9) * 8)))]) (st' := [.int 5, .ref 1, .int (91 + (((j_X10_addOutcome_54 M n oz ch) 1 9) * 8)), .ref 1]) (M' := (j_X10_addOutcome_54 M n oz ch)) (by decide +kernel) rfl ?_
    refine zT.iald (n := 187) (k := 5) rfl rfl (by decide) (by decide) (by decide +kernel) ?_
    refine zT.iast (n := 187) (k := (91 + (zOn2 oz * 8))) rfl (by rw [hz54]; exact zOx) (by have := zOn2_lt h12; omega) (by decide) (by decide +kernel) ?_
    refine zT.run [(.aload_n 0, 0, 0, 0), (.getfield 9, 8, 1, 5150), (.iload_n 2, 0, 0, 0), (.iconst 1, 0, 0, 0), (.iadd, 0, 0, 0), (.iload_n 1, 0, 0, 0)] (pe := 88) (ls' := [some (.ref 0), some (.int ch), some (.int (91 + (((j_X10_addOutcome_54 M n oz ch) 1 9) * 8)))]) (st' := [.int ch, .int ((91 + (((j_X10_addOutcome_54 M n oz ch) 1 9) * 8)) + 1), .ref 1]) (M' := (zU (j_X10_addOutcome_54 M n oz ch) 1 (91 + (zOn2 oz * 8)) ((j_X10_addOutcome_54 M n oz ch) 1 5))) (by decide +kernel) rfl ?_
    refine zT.iast (n := 187) (k := ((91 + (zOn2 oz * 8)) + 1)) rfl (by rw [hz54]; exact zOy) (by have := zOn2_lt h12; omega) (by decide) (by decide +kernel) ?_
    refine zT.run [(.aload_n 0, 0, 0, 0), (.getfield 9, 8, 1, 5150), (.iload_n 2, 0, 0, 0), (.iconst 2, 0, 0, 0), (.iadd, 0, 0, 0), (.iload_n 1, 0, 0, 0), (.iconst (-1), 0, 0, 0)] (pe := 98) (ls' := [some (.ref 0), some (.int ch), some (.int (91 + (((j_X10_addOutcome_54 M n oz ch) 1 9) * 8)))]) (st' := [.int (-1), .int ch, .int ((91 + (((j_X10_addOutcome_54 M n oz ch) 1 9) * 8)) + 2), .ref 1]) (M' := (zU (zU (j_X10_addOutcome_54 M n oz ch) 1 (91 + (zOn2 oz * 8)) ((j_X10_addOutcome_54 M n oz ch) 1 5)) 1 ((91 + (zOn2 oz * 8)) + 1) ch)) (by decide +kernel) rfl ?_
    refine zT.join (111, [some (.ref 0), some (.int ch), some (.int (91 + (((j_X10_addOutcome_54 M n oz ch) 1 9) * 8)))], [.int (if ch = (-1) then (0 : Int32) else ((j_X10_addOutcome_54 M n oz ch) 20 ch.toNatClampNeg)), .int ((91 + (((j_X10_addOutcome_54 M n oz ch) 1 9) * 8)) + 2), .ref 1], (sh_Model gp), (zU (zU (j_X10_addOutcome_54 M n oz ch) 1 (91 + (zOn2 oz * 8)) ((j_X10_addOutcome_54 M n oz ch) 1 5)) 1 ((91 + (zOn2 oz * 8)) + 1) ch)) ?_ ?_
    · refine zT.cne (tgt := 105) (off := 7) (by decide +kernel) (by decide) (fun (c2 : ¬ ch = (-1)) => ?_) (fun (c2 : ch = (-1)) => ?_)
      · skip
        refine zT.run [(.aload_n 0, 0, 0, 0), (.getfield 35, 8, 11, 5160), (.iload_n 1, 0, 0, 0)] (pe := 110) (ls' := [some (.ref 0), some (.int ch), some (.int (91 + (((j_X10_addOutcome_54 M n oz ch) 1 9) * 8)))]) (st' := [.int ch, .ref 20, .int ((91 + (((j_X10_addOutcome_54 M n oz ch) 1 9) * 8)) + 2), .ref 1]) (M' := (zU (zU (j_X10_addOutcome_54 M n oz ch) 1 (91 + (zOn2 oz * 8)) ((j_X10_addOutcome_54 M n oz ch) 1 5)) 1 ((91 + (zOn2 oz * 8)) + 1) ch)) (by decide +kernel) rfl ?_
        refine zT.iald (n := 9) (k := ch.toNatClampNeg) rfl (zBsI hch (Nat.le_refl 9) (by assumption)).1 (zBsI hch (Nat.le_refl 9) (by assumption)).2 (by decide) (by decide +kernel) ?_
        exact zT.here (by simp only [if_neg c2]; try rfl)
      · skip
        refine zT.run [(.iconst 0, 0, 0, 0), (.goto 9, 0, 0, 0)] (pe := 111) (ls' := [some (.ref 0), some (.int ch), some (.int (91 + (((j_X10_addOutcome_54 M n oz ch) 1 9) * 8)))]) (st' := [.int 0, .int ((91 + (((j_X10_addOutcome_54 M n oz ch) 1 9) * 8)) + 2), .ref 1]) (M' := (zU (zU (j_X10_addOutcome_54 M n oz ch) 1 (91 + (zOn2 oz * 8)) ((j_X10_addOutcome_54 M n oz ch) 1 5)) 1 ((91 + (zOn2 oz * 8)) + 1) ch)) (by decide +kernel) rfl ?_
        exact zT.here (by simp only [if_pos c2]; try rfl)
    · skip
      refine zT.iast (n := 187) (k := ((91 + (zOn2 oz * 8)) + 2)) rfl (by rw [hz54]; exact zOy) (by have := zOn2_lt h12; omega) (by decide) (by decide +kernel) ?_
      refine zT.run [(.aload_n 0, 0, 0, 0), (.getfield 9, 8, 1, 5150), (.iload_n 2, 0, 0, 0), (.iconst 3, 0, 0, 0), (.iadd, 0, 0, 0), (.aload_n 0, 0, 0, 0), (.iconst 2, 0, 0, 0)] (pe := 121) (ls' := [some (.ref 0), some (.int ch), some (.int (91 + (((j_X10_addOutcome_54 M n oz ch) 1 9) * 8)))]) (st' := [.int 2, .ref 0, .int ((91 + (((j_X10_addOutcome_54 M n oz ch) 1 9) * 8)) + 3), .ref 1]) (M' := (zU (zU (zU (j_X10_addOutcome_54 M n oz ch) 1 (91 + (zOn2 oz * 8)) ((j_X10_addOutcome_54 M n oz ch) 1 5)) 1 ((91 + (zOn2 oz * 8)) + 1) ch) 1 ((91 + (zOn2 oz * 8)) + 2) (if ch = (-1) then (0 : Int32) else ((j_X10_addOutcome_54 M n oz ch) 20 ch.toNatClampNeg)))) (by decide +kernel) rfl ?_
      refine zT.cV_own (o := 0) (idx := 124) (av := [.int 2]) (rv := (some (.int (g_X10_votesOf (zU (zU (zU (j_X10_addOutcome_54 M n oz ch) 1 (91 + (zOn2 oz * 8)) ((j_X10_addOutcome_54 M n oz ch) 1 5)) 1 ((91 + (zOn2 oz * 8)) + 1) ch) 1 ((91 + (zOn2 oz * 8)) + 2) (if ch = (-1) then (0 : Int32) else ((j_X10_addOutcome_54 M n oz ch) 20 ch.toNatClampNeg))) n 2)))) (st := [.int ((91 + (((j_X10_addOutcome_54 M n oz ch) 1 9) * 8)) + 3), .ref 1]) (S1 := [.int (g_X10_votesOf (zU (zU (zU (j_X10_addOutcome_54 M n oz ch) 1 (91 + (zOn2 oz * 8)) ((j_X10_addOutcome_54 M n oz ch) 1 5)) 1 ((91 + (zOn2 oz * 8)) + 1) ch) 1 ((91 + (zOn2 oz * 8)) + 2) (if ch = (-1) then (0 : Int32) else ((j_X10_addOutcome_54 M n oz ch) 20 ch.toNatClampNeg))) n 2), .int ((91 + (((j_X10_addOutcome_54 M n oz ch) 1 9) * 8)) + 3), .ref 1]) (c_X10_votesOf (zU (zU (zU (j_X10_addOutcome_54 M n oz ch) 1 (91 + (zOn2 oz * 8)) ((j_X10_addOutcome_54 M n oz ch) 1 5)) 1 ((91 + (zOn2 oz * 8)) + 1) ch) 1 ((91 + (zOn2 oz * 8)) + 2) (if ch = (-1) then (0 : Int32) else ((j_X10_addOutcome_54 M n oz ch) 20 ch.toNatClampNeg))) gp n 2 (((zU_h9 (M := (zU (zU (j_X10_addOutcome_54 M n oz ch) 1 (91 + (zOn2 oz * 8)) ((j_X10_addOutcome_54 M n oz ch) 1 5)) 1 ((91 + (zOn2 oz * 8)) + 1) ch)) (o := 0) (by decide)).trans ((zU_h9 (M := (zU (j_X10_addOutcome_54 M n oz ch) 1 (91 + (zOn2 oz * 8)) ((j_X10_addOutcome_54 M n oz ch) 1 5))) (o := 0) (by decide)).trans ((zU_h9a (M := (j_X10_addOutcome_54 M n oz ch)) (o := 0) (by decide)).trans (lo_j_X10_addOutcome_54 M n oz ch 0 (by decide))))).trans hn) h9) k_X10_votesOf _ _ rfl rfl rfl (zIn (w := 5141) (by decide +kernel) rfl) (by decide +kernel) (by decide +kernel) rfl (Nat.le_of_ble_eq_true rfl) rfl ?_
      refine zT.eqM (M2 := (m_X10_addOutcome_1 M n oz ch)) rfl ?_
      refine zT.iast (n := 187) (k := ((91 + (zOn2 oz * 8)) + 3)) rfl (by rw [hz54]; exact zOy) (by have := zOn2_lt h12; omega) (by decide) (by decide +kernel) ?_
      refine zT.run [(.aload_n 0, 0, 0, 0), (.getfield 9, 8, 1, 5150), (.iload_n 2, 0, 0, 0), (.iconst 4, 0, 0, 0), (.iadd, 0, 0, 0), (.aload_n 0, 0, 0, 0), (.iconst 3, 0, 0, 0)] (pe := 134) (ls' := [some (.ref 0), some (.int ch), some (.int (91 + (((j_X10_addOutcome_54 M n oz ch) 1 9) * 8)))]) (st' := [.int 3, .ref 0, .int ((91 + (((j_X10_addOutcome_54 M n oz ch) 1 9) * 8)) + 4), .ref 1]) (M' := (zU (m_X10_addOutcome_1 M n oz ch) 1 ((91 + (zOn2 oz * 8)) + 3) (g_X10_votesOf (zU (zU (zU (j_X10_addOutcome_54 M n oz ch) 1 (91 + (zOn2 oz * 8)) ((j_X10_addOutcome_54 M n oz ch) 1 5)) 1 ((91 + (zOn2 oz * 8)) + 1) ch) 1 ((91 + (zOn2 oz * 8)) + 2) (if ch = (-1) then (0 : Int32) else ((j_X10_addOutcome_54 M n oz ch) 20 ch.toNatClampNeg))) n 2))) (by decide +kernel) rfl ?_
      refine zT.cV_own (o := 0) (idx := 124) (av := [.int 3]) (rv := (some (.int (g_X10_votesOf (zU (m_X10_addOutcome_1 M n oz ch) 1 ((91 + (zOn2 oz * 8)) + 3) (g_X10_votesOf (zU (zU (zU (j_X10_addOutcome_54 M n oz ch) 1 (91 + (zOn2 oz * 8)) ((j_X10_addOutcome_54 M n oz ch) 1 5)) 1 ((91 + (zOn2 oz * 8)) + 1) ch) 1 ((91 + (zOn2 oz * 8)) + 2) (if ch = (-1) then (0 : Int32) else ((j_X10_addOutcome_54 M n oz ch) 20 ch.toNatClampNeg))) n 2)) n 3)))) (st := [.int ((91 + (((j_X10_addOutcome_54 M n oz ch) 1 9) * 8)) + 4), .ref 1]) (S1 := [.int (g_X10_votesOf (zU (m_X10_addOutcome_1 M n oz ch) 1 ((91 + (zOn2 oz * 8)) + 3) (g_X10_votesOf (zU (zU (zU (j_X10_addOutcome_54 M n oz ch) 1 (91 + (zOn2 oz * 8)) ((j_X10_addOutcome_54 M n oz ch) 1 5)) 1 ((91 + (zOn2 oz * 8)) + 1) ch) 1 ((91 + (zOn2 oz * 8)) + 2) (if ch = (-1) then (0 : Int32) else ((j_X10_addOutcome_54 M n oz ch) 20 ch.toNatClampNeg))) n 2)) n 3), .int ((91 + (((j_X10_addOutcome_54 M n oz ch) 1 9) * 8)) + 4), .ref 1]) (c_X10_votesOf (zU (m_X10_addOutcome_1 M n oz ch) 1 ((91 + (zOn2 oz * 8)) + 3) (g_X10_votesOf (zU (zU (zU (j_X10_addOutcome_54 M n oz ch) 1 (91 + (zOn2 oz * 8)) ((j_X10_addOutcome_54 M n oz ch) 1 5)) 1 ((91 + (zOn2 oz * 8)) + 1) ch) 1 ((91 + (zOn2 oz * 8)) + 2) (if ch = (-1) then (0 : Int32) else ((j_X10_addOutcome_54 M n oz ch) 20 ch.toNatClampNeg))) n 2)) gp n 3 (((zU_h9 (M := (m_X10_addOutcome_1 M n oz ch)) (o := 0) (by decide)).trans ((zU_h9 (M := (zU (zU (j_X10_addOutcome_54 M n oz ch) 1 (91 + (zOn2 oz * 8)) ((j_X10_addOutcome_54 M n oz ch) 1 5)) 1 ((91 + (zOn2 oz * 8)) + 1) ch)) (o := 0) (by decide)).trans ((zU_h9 (M := (zU (j_X10_addOutcome_54 M n oz ch) 1 (91 + (zOn2 oz * 8)) ((j_X10_addOutcome_54 M n oz ch) 1 5))) (o := 0) (by decide)).trans ((zU_h9a (M := (j_X10_addOutcome_54 M n oz ch)) (o := 0) (by decide)).trans (lo_j_X10_addOutcome_54 M n oz ch 0 (by decide)))))).trans hn) h9) k_X10_votesOf _ _ rfl rfl rfl (zIn (w := 5141) (by decide +kernel) rfl) (by decide +kernel) (by decide +kernel) rfl (Nat.le_of_ble_eq_true rfl) rfl ?_
      refine zT.eqM (M2 := (m_X10_addOutcome_2 M n oz ch)) rfl ?_
      refine zT.iast (n := 187) (k := ((91 + (zOn2 oz * 8)) + 4)) rfl (by rw [hz54]; exact zOy) (by have := zOn2_lt h12; omega) (by decide) (by decide +kernel) ?_
      refine zT.run [(.aload_n 0, 0, 0, 0), (.getfield 9, 8, 1, 5150), (.iload_n 2, 0, 0, 0), (.iconst 5, 0, 0, 0), (.iadd, 0, 0, 0), (.iload_n 1, 0, 0, 0), (.iconst (-1), 0, 0, 0)] (pe := 147) (ls' := [some (.ref 0), some (.int ch), some (.int (91 + (((j_X10_addOutcome_54 M n oz ch) 1 9) * 8)))]) (st' := [.int (-1), .int ch, .int ((91 + (((j_X10_addOutcome_54 M n oz ch) 1 9) * 8)) + 5), .ref 1]) (M' := (zU (m_X10_addOutcome_2 M n oz ch) 1 ((91 + (zOn2 oz * 8)) + 4) (g_X10_votesOf (zU (m_X10_addOutcome_1 M n oz ch) 1 ((91 + (zOn2 oz * 8)) + 3) (g_X10_votesOf (zU (zU (zU (j_X10_addOutcome_54 M n oz ch) 1 (91 + (zOn2 oz * 8)) ((j_X10_addOutcome_54 M n oz ch) 1 5)) 1 ((91 + (zOn2 oz * 8)) + 1) ch) 1 ((91 + (zOn2 oz * 8)) + 2) (if ch = (-1) then (0 : Int32) else ((j_X10_addOutcome_54 M n oz ch) 20 ch.toNatClampNeg))) n 2)) n 3))) (by decide +kernel) rfl ?_
      refine zT.join (163, [some (.ref 0), some (.int ch), some (.int (91 + (((j_X10_addOutcome_54 M n oz ch) 1 9) * 8)))], [.int (if ch = (-1) then (0 : Int32) else (if ((j_X10_addOutcome_54 M n oz ch) 0 13) ≤ 1 then (0 : Int32) else (1 : Int32))), .int ((91 + (((j_X10_addOutcome_54 M n oz ch) 1 9) * 8)) + 5), .ref 1], (sh_Model gp), (zU (m_X10_addOutcome_2 M n oz ch) 1 ((91 + (zOn2 oz * 8)) + 4) (g_X10_votesOf (zU (m_X10_addOutcome_1 M n oz ch) 1 ((91 + (zOn2 oz * 8)) + 3) (g_X10_votesOf (zU (zU (zU (j_X10_addOutcome_54 M n oz ch) 1 (91 + (zOn2 oz * 8)) ((j_X10_addOutcome_54 M n oz ch) 1 5)) 1 ((91 + (zOn2 oz * 8)) + 1) ch) 1 ((91 + (zOn2 oz * 8)) + 2) (if ch = (-1) then (0 : Int32) else ((j_X10_addOutcome_54 M n oz ch) 20 ch.toNatClampNeg))) n 2)) n 3))) ?_ ?_
      · refine zT.ceq (tgt := 162) (off := 15) (by decide +kernel) (by decide) (fun (c3 : ch = (-1)) => ?_) (fun (c3 : ¬ ch = (-1)) => ?_)
        · skip
          refine zT.run [(.iconst 0, 0, 0, 0)] (pe := 163) (ls' := [some (.ref 0), some (.int ch), some (.int (91 + (((j_X10_addOutcome_54 M n oz ch) 1 9) * 8)))]) (st' := [.int 0, .int ((91 + (((j_X10_addOutcome_54 M n oz ch) 1 9) * 8)) + 5), .ref 1]) (M' := (zU (m_X10_addOutcome_2 M n oz ch) 1 ((91 + (zOn2 oz * 8)) + 4) (g_X10_votesOf (zU (m_X10_addOutcome_1 M n oz ch) 1 ((91 + (zOn2 oz * 8)) + 3) (g_X10_votesOf (zU (zU (zU (j_X10_addOutcome_54 M n oz ch) 1 (91 + (zOn2 oz * 8)) ((j_X10_addOutcome_54 M n oz ch) 1 5)) 1 ((91 + (zOn2 oz * 8)) + 1) ch) 1 ((91 + (zOn2 oz * 8)) + 2) (if ch = (-1) then (0 : Int32) else ((j_X10_addOutcome_54 M n oz ch) 20 ch.toNatClampNeg))) n 2)) n 3))) (by decide +kernel) rfl ?_
          exact zT.here (by simp only [if_pos c3]; try rfl)
        · skip
          refine zT.run [(.aload_n 0, 0, 0, 0), (.getfield 112, 8, 13, 5162), (.iconst 1, 0, 0, 0)] (pe := 155) (ls' := [some (.ref 0), some (.int ch), some (.int (91 + (((j_X10_addOutcome_54 M n oz ch) 1 9) * 8)))]) (st' := [.int 1, .int ((j_X10_addOutcome_54 M n oz ch) 0 13), .int ((91 + (((j_X10_addOutcome_54 M n oz ch) 1 9) * 8)) + 5), .ref 1]) (M' := (zU (m_X10_addOutcome_2 M n oz ch) 1 ((91 + (zOn2 oz * 8)) + 4) (g_X10_votesOf (zU (m_X10_addOutcome_1 M n oz ch) 1 ((91 + (zOn2 oz * 8)) + 3) (g_X10_votesOf (zU (zU (zU (j_X10_addOutcome_54 M n oz ch) 1 (91 + (zOn2 oz * 8)) ((j_X10_addOutcome_54 M n oz ch) 1 5)) 1 ((91 + (zOn2 oz * 8)) + 1) ch) 1 ((91 + (zOn2 oz * 8)) + 2) (if ch = (-1) then (0 : Int32) else ((j_X10_addOutcome_54 M n oz ch) 20 ch.toNatClampNeg))) n 2)) n 3))) (by decide +kernel) rfl ?_
          refine zT.cle (tgt := 162) (off := 7) (by decide +kernel) (by decide) (fun (c4 : ((j_X10_addOutcome_54 M n oz ch) 0 13) ≤ 1) => ?_) (fun (c4 : ¬ ((j_X10_addOutcome_54 M n oz ch) 0 13) ≤ 1) => ?_)
          · skip
            refine zT.run [(.iconst 0, 0, 0, 0)] (pe := 163) (ls' := [some (.ref 0), some (.int ch), some (.int (91 + (((j_X10_addOutcome_54 M n oz ch) 1 9) * 8)))]) (st' := [.int 0, .int ((91 + (((j_X10_addOutcome_54 M n oz ch) 1 9) * 8)) + 5), .ref 1]) (M' := (zU (m_X10_addOutcome_2 M n oz ch) 1 ((91 + (zOn2 oz * 8)) + 4) (g_X10_votesOf (zU (m_X10_addOutcome_1 M n oz ch) 1 ((91 + (zOn2 oz * 8)) + 3) (g_X10_votesOf (zU (zU (zU (j_X10_addOutcome_54 M n oz ch) 1 (91 + (zOn2 oz * 8)) ((j_X10_addOutcome_54 M n oz ch) 1 5)) 1 ((91 + (zOn2 oz * 8)) + 1) ch) 1 ((91 + (zOn2 oz * 8)) + 2) (if ch = (-1) then (0 : Int32) else ((j_X10_addOutcome_54 M n oz ch) 20 ch.toNatClampNeg))) n 2)) n 3))) (by decide +kernel) rfl ?_
            exact zT.here (by simp only [if_neg c3, if_pos c4]; try rfl)
          · skip
            refine zT.run [(.iconst 1, 0, 0, 0), (.goto 4, 0, 0, 0)] (pe := 163) (ls' := [some (.ref 0), some (.int ch), some (.int (91 + (((j_X10_addOutcome_54 M n oz ch) 1 9) * 8)))]) (st' := [.int 1, .int ((91 + (((j_X10_addOutcome_54 M n oz ch) 1 9) * 8)) + 5), .ref 1]) (M' := (zU (m_X10_addOutcome_2 M n oz ch) 1 ((91 + (zOn2 oz * 8)) + 4) (g_X10_votesOf (zU (m_X10_addOutcome_1 M n oz ch) 1 ((91 + (zOn2 oz * 8)) + 3) (g_X10_votesOf (zU (zU (zU (j_X10_addOutcome_54 M n oz ch) 1 (91 + (zOn2 oz * 8)) ((j_X10_addOutcome_54 M n oz ch) 1 5)) 1 ((91 + (zOn2 oz * 8)) + 1) ch) 1 ((91 + (zOn2 oz * 8)) + 2) (if ch = (-1) then (0 : Int32) else ((j_X10_addOutcome_54 M n oz ch) 20 ch.toNatClampNeg))) n 2)) n 3))) (by decide +kernel) rfl ?_
            exact zT.here (by simp only [if_neg c3, if_neg c4]; try rfl)
      · skip
        refine zT.iast (n := 187) (k := ((91 + (zOn2 oz * 8)) + 5)) rfl (by rw [hz54]; exact zOy) (by have := zOn2_lt h12; omega) (by decide) (by decide +kernel) ?_
        refine zT.run [(.aload_n 0, 0, 0, 0), (.getfield 9, 8, 1, 5150), (.iload_n 2, 0, 0, 0), (.bipush 6, 0, 0, 0), (.iadd, 0, 0, 0), (.aload_n 0, 0, 0, 0), (.getfield 9, 8, 1, 5150), (.iconst 1, 0, 0, 0)] (pe := 177) (ls' := [some (.ref 0), some (.int ch), some (.int (91 + (((j_X10_addOutcome_54 M n oz ch) 1 9) * 8)))]) (st' := [.int 1, .ref 1, .int ((91 + (((j_X10_addOutcome_54 M n oz ch) 1 9) * 8)) + 6), .ref 1]) (M' := (zU (zU (m_X10_addOutcome_2 M n oz ch) 1 ((91 + (zOn2 oz * 8)) + 4) (g_X10_votesOf (zU (m_X10_addOutcome_1 M n oz ch) 1 ((91 + (zOn2 oz * 8)) + 3) (g_X10_votesOf (zU (zU (zU (j_X10_addOutcome_54 M n oz ch) 1 (91 + (zOn2 oz * 8)) ((j_X10_addOutcome_54 M n oz ch) 1 5)) 1 ((91 + (zOn2 oz * 8)) + 1) ch) 1 ((91 + (zOn2 oz * 8)) + 2) (if ch = (-1) then (0 : Int32) else ((j_X10_addOutcome_54 M n oz ch) 20 ch.toNatClampNeg))) n 2)) n 3)) 1 ((91 + (zOn2 oz * 8)) + 5) (if ch = (-1) then (0 : Int32) else (if ((j_X10_addOutcome_54 M n oz ch) 0 13) ≤ 1 then (0 : Int32) else (1 : Int32))))) (by decide +kernel) rfl ?_
        refine zT.iald (n := 187) (k := 1) rfl rfl (by decide) (by decide) (by decide +kernel) ?_
        refine zT.iast (n := 187) (k := ((91 + (zOn2 oz * 8)) + 6)) rfl (by rw [hz54]; exact zOy) (by have := zOn2_lt h12; omega) (by decide) (by decide +kernel) ?_
        refine zT.run [(.aload_n 0, 0, 0, 0), (.getfield 9, 8, 1, 5150), (.iload_n 2, 0, 0, 0), (.bipush 7, 0, 0, 0), (.iadd, 0, 0, 0), (.aload_n 0, 0, 0, 0), (.getfield 9, 8, 1, 5150), (.iconst 2, 0, 0, 0)] (pe := 192) (ls' := [some (.ref 0), some (.int ch), some (.int (91 + (((j_X10_addOutcome_54 M n oz ch) 1 9) * 8)))]) (st' := [.int 2, .ref 1, .int ((91 + (((j_X10_addOutcome_54 M n oz ch) 1 9) * 8)) + 7), .ref 1]) (M' := (zU (zU (zU (m_X10_addOutcome_2 M n oz ch) 1 ((91 + (zOn2 oz * 8)) + 4) (g_X10_votesOf (zU (m_X10_addOutcome_1 M n oz ch) 1 ((91 + (zOn2 oz * 8)) + 3) (g_X10_votesOf (zU (zU (zU (j_X10_addOutcome_54 M n oz ch) 1 (91 + (zOn2 oz * 8)) ((j_X10_addOutcome_54 M n oz ch) 1 5)) 1 ((91 + (zOn2 oz * 8)) + 1) ch) 1 ((91 + (zOn2 oz * 8)) + 2) (if ch = (-1) then (0 : Int32) else ((j_X10_addOutcome_54 M n oz ch) 20 ch.toNatClampNeg))) n 2)) n 3)) 1 ((91 + (zOn2 oz * 8)) + 5) (if ch = (-1) then (0 : Int32) else (if ((j_X10_addOutcome_54 M n oz ch) 0 13) ≤ 1 then (0 : Int32) else (1 : Int32)))) 1 ((91 + (zOn2 oz * 8)) + 6) ((zU (zU (m_X10_addOutcome_2 M n oz ch) 1 ((91 + (zOn2 oz * 8)) + 4) (g_X10_votesOf (zU (m_X10_addOutcome_1 M n oz ch) 1 ((91 + (zOn2 oz * 8)) + 3) (g_X10_votesOf (zU (zU (zU (j_X10_addOutcome_54 M n oz ch) 1 (91 + (zOn2 oz * 8)) ((j_X10_addOutcome_54 M n oz ch) 1 5)) 1 ((91 + (zOn2 oz * 8)) + 1) ch) 1 ((91 + (zOn2 oz * 8)) + 2) (if ch = (-1) then (0 : Int32) else ((j_X10_addOutcome_54 M n oz ch) 20 ch.toNatClampNeg))) n 2)) n 3)) 1 ((91 + (zOn2 oz * 8)) + 5) (if ch = (-1) then (0 : Int32) else (if ((j_X10_addOutcome_54 M n oz ch) 0 13) ≤ 1 then (0 : Int32) else (1 : Int32)))) 1 1))) (by decide +kernel) rfl ?_
        refine zT.iald (n := 187) (k := 2) rfl rfl (by decide) (by decide) (by decide +kernel) ?_
        refine zT.iast (n := 187) (k := ((91 + (zOn2 oz * 8)) + 7)) rfl (by rw [hz54]; exact zOy) (by have := zOn2_lt h12; omega) (by decide) (by decide +kernel) ?_
        refine zT.run [(.aload_n 0, 0, 0, 0), (.getfield 9, 8, 1, 5150), (.bipush 9, 0, 0, 0), (.dup2, 0, 0, 0)] (pe := 201) (ls' := [some (.ref 0), some (.int ch), some (.int (91 + (((j_X10_addOutcome_54 M n oz ch) 1 9) * 8)))]) (st' := [.int 9, .ref 1, .int 9, .ref 1]) (M' := (zU (zU (zU (zU (m_X10_addOutcome_2 M n oz ch) 1 ((91 + (zOn2 oz * 8)) + 4) (g_X10_votesOf (zU (m_X10_addOutcome_1 M n oz ch) 1 ((91 + (zOn2 oz * 8)) + 3) (g_X10_votesOf (zU (zU (zU (j_X10_addOutcome_54 M n oz ch) 1 (91 + (zOn2 oz * 8)) ((j_X10_addOutcome_54 M n oz ch) 1 5)) 1 ((91 + (zOn2 oz * 8)) + 1) ch) 1 ((91 + (zOn2 oz * 8)) + 2) (if ch = (-1) then (0 : Int32) else ((j_X10_addOutcome_54 M n oz ch) 20 ch.toNatClampNeg))) n 2)) n 3)) 1 ((91 + (zOn2 oz * 8)) + 5) (if ch = (-1) then (0 : Int32) else (if ((j_X10_addOutcome_54 M n oz ch) 0 13) ≤ 1 then (0 : Int32) else (1 : Int32)))) 1 ((91 + (zOn2 oz * 8)) + 6) ((zU (zU (m_X10_addOutcome_2 M n oz ch) 1 ((91 + (zOn2 oz * 8)) + 4) (g_X10_votesOf (zU (m_X10_addOutcome_1 M n oz ch) 1 ((91 + (zOn2 oz * 8)) + 3) (g_X10_votesOf (zU (zU (zU (j_X10_addOutcome_54 M n oz ch) 1 (91 + (zOn2 oz * 8)) ((j_X10_addOutcome_54 M n oz ch) 1 5)) 1 ((91 + (zOn2 oz * 8)) + 1) ch) 1 ((91 + (zOn2 oz * 8)) + 2) (if ch = (-1) then (0 : Int32) else ((j_X10_addOutcome_54 M n oz ch) 20 ch.toNatClampNeg))) n 2)) n 3)) 1 ((91 + (zOn2 oz * 8)) + 5) (if ch = (-1) then (0 : Int32) else (if ((j_X10_addOutcome_54 M n oz ch) 0 13) ≤ 1 then (0 : Int32) else (1 : Int32)))) 1 1)) 1 ((91 + (zOn2 oz * 8)) + 7) ((zU (zU (zU (m_X10_addOutcome_2 M n oz ch) 1 ((91 + (zOn2 oz * 8)) + 4) (g_X10_votesOf (zU (m_X10_addOutcome_1 M n oz ch) 1 ((91 + (zOn2 oz * 8)) + 3) (g_X10_votesOf (zU (zU (zU (j_X10_addOutcome_54 M n oz ch) 1 (91 + (zOn2 oz * 8)) ((j_X10_addOutcome_54 M n oz ch) 1 5)) 1 ((91 + (zOn2 oz * 8)) + 1) ch) 1 ((91 + (zOn2 oz * 8)) + 2) (if ch = (-1) then (0 : Int32) else ((j_X10_addOutcome_54 M n oz ch) 20 ch.toNatClampNeg))) n 2)) n 3)) 1 ((91 + (zOn2 oz * 8)) + 5) (if ch = (-1) then (0 : Int32) else (if ((j_X10_addOutcome_54 M n oz ch) 0 13) ≤ 1 then (0 : Int32) else (1 : Int32)))) 1 ((91 + (zOn2 oz * 8)) + 6) ((zU (zU (m_X10_addOutcome_2 M n oz ch) 1 ((91 + (zOn2 oz * 8)) + 4) (g_X10_votesOf (zU (m_X10_addOutcome_1 M n oz ch) 1 ((91 + (zOn2 oz * 8)) + 3) (g_X10_votesOf (zU (zU (zU (j_X10_addOutcome_54 M n oz ch) 1 (91 + (zOn2 oz * 8)) ((j_X10_addOutcome_54 M n oz ch) 1 5)) 1 ((91 + (zOn2 oz * 8)) + 1) ch) 1 ((91 + (zOn2 oz * 8)) + 2) (if ch = (-1) then (0 : Int32) else ((j_X10_addOutcome_54 M n oz ch) 20 ch.toNatClampNeg))) n 2)) n 3)) 1 ((91 + (zOn2 oz * 8)) + 5) (if ch = (-1) then (0 : Int32) else (if ((j_X10_addOutcome_54 M n oz ch) 0 13) ≤ 1 then (0 : Int32) else (1 : Int32)))) 1 1)) 1 2))) (by decide +kernel) rfl ?_
        refine zT.iald (n := 187) (k := 9) rfl rfl (by decide) (by decide) (by decide +kernel) ?_
        refine zT.run [(.iconst 1, 0, 0, 0), (.iadd, 0, 0, 0)] (pe := 204) (ls' := [some (.ref 0), some (.int ch), some (.int (91 + (((j_X10_addOutcome_54 M n oz ch) 1 9) * 8)))]) (st' := [.int (((zU (zU (zU (zU (m_X10_addOutcome_2 M n oz ch) 1 ((91 + (zOn2 oz * 8)) + 4) (g_X10_votesOf (zU (m_X10_addOutcome_1 M n oz ch) 1 ((91 + (zOn2 oz * 8)) + 3) (g_X10_votesOf (zU (zU (zU (j_X10_addOutcome_54 M n oz ch) 1 (91 + (zOn2 oz * 8)) ((j_X10_addOutcome_54 M n oz ch) 1 5)) 1 ((91 + (zOn2 oz * 8)) + 1) ch) 1 ((91 + (zOn2 oz * 8)) + 2) (if ch = (-1) then (0 : Int32) else ((j_X10_addOutcome_54 M n oz ch) 20 ch.toNatClampNeg))) n 2)) n 3)) 1 ((91 + (zOn2 oz * 8)) + 5) (if ch = (-1) then (0 : Int32) else (if ((j_X10_addOutcome_54 M n oz ch) 0 13) ≤ 1 then (0 : Int32) else (1 : Int32)))) 1 ((91 + (zOn2 oz * 8)) + 6) ((zU (zU (m_X10_addOutcome_2 M n oz ch) 1 ((91 + (zOn2 oz * 8)) + 4) (g_X10_votesOf (zU (m_X10_addOutcome_1 M n oz ch) 1 ((91 + (zOn2 oz * 8)) + 3) (g_X10_votesOf (zU (zU (zU (j_X10_addOutcome_54 M n oz ch) 1 (91 + (zOn2 oz * 8)) ((j_X10_addOutcome_54 M n oz ch) 1 5)) 1 ((91 + (zOn2 oz * 8)) + 1) ch) 1 ((91 + (zOn2 oz * 8)) + 2) (if ch = (-1) then (0 : Int32) else ((j_X10_addOutcome_54 M n oz ch) 20 ch.toNatClampNeg))) n 2)) n 3)) 1 ((91 + (zOn2 oz * 8)) + 5) (if ch = (-1) then (0 : Int32) else (if ((j_X10_addOutcome_54 M n oz ch) 0 13) ≤ 1 then (0 : Int32) else (1 : Int32)))) 1 1)) 1 ((91 + (zOn2 oz * 8)) + 7) ((zU (zU (zU (m_X10_addOutcome_2 M n oz ch) 1 ((91 + (zOn2 oz * 8)) + 4) (g_X10_votesOf (zU (m_X10_addOutcome_1 M n oz ch) 1 ((91 + (zOn2 oz * 8)) + 3) (g_X10_votesOf (zU (zU (zU (j_X10_addOutcome_54 M n oz ch) 1 (91 + (zOn2 oz * 8)) ((j_X10_addOutcome_54 M n oz ch) 1 5)) 1 ((91 + (zOn2 oz * 8)) + 1) ch) 1 ((91 + (zOn2 oz * 8)) + 2) (if ch = (-1) then (0 : Int32) else ((j_X10_addOutcome_54 M n oz ch) 20 ch.toNatClampNeg))) n 2)) n 3)) 1 ((91 + (zOn2 oz * 8)) + 5) (if ch = (-1) then (0 : Int32) else (if ((j_X10_addOutcome_54 M n oz ch) 0 13) ≤ 1 then (0 : Int32) else (1 : Int32)))) 1 ((91 + (zOn2 oz * 8)) + 6) ((zU (zU (m_X10_addOutcome_2 M n oz ch) 1 ((91 + (zOn2 oz * 8)) + 4) (g_X10_votesOf (zU (m_X10_addOutcome_1 M n oz ch) 1 ((91 + (zOn2 oz * 8)) + 3) (g_X10_votesOf (zU (zU (zU (j_X10_addOutcome_54 M n oz ch) 1 (91 + (zOn2 oz * 8)) ((j_X10_addOutcome_54 M n oz ch) 1 5)) 1 ((91 + (zOn2 oz * 8)) + 1) ch) 1 ((91 + (zOn2 oz * 8)) + 2) (if ch = (-1) then (0 : Int32) else ((j_X10_addOutcome_54 M n oz ch) 20 ch.toNatClampNeg))) n 2)) n 3)) 1 ((91 + (zOn2 oz * 8)) + 5) (if ch = (-1) then (0 : Int32) else (if ((j_X10_addOutcome_54 M n oz ch) 0 13) ≤ 1 then (0 : Int32) else (1 : Int32)))) 1 1)) 1 2)) 1 9) + 1), .int 9, .ref 1]) (M' := (zU (zU (zU (zU (m_X10_addOutcome_2 M n oz ch) 1 ((91 + (zOn2 oz * 8)) + 4) (g_X10_votesOf (zU (m_X10_addOutcome_1 M n oz ch) 1 ((91 + (zOn2 oz * 8)) + 3) (g_X10_votesOf (zU (zU (zU (j_X10_addOutcome_54 M n oz ch) 1 (91 + (zOn2 oz * 8)) ((j_X10_addOutcome_54 M n oz ch) 1 5)) 1 ((91 + (zOn2 oz * 8)) + 1) ch) 1 ((91 + (zOn2 oz * 8)) + 2) (if ch = (-1) then (0 : Int32) else ((j_X10_addOutcome_54 M n oz ch) 20 ch.toNatClampNeg))) n 2)) n 3)) 1 ((91 + (zOn2 oz * 8)) + 5) (if ch = (-1) then (0 : Int32) else (if ((j_X10_addOutcome_54 M n oz ch) 0 13) ≤ 1 then (0 : Int32) else (1 : Int32)))) 1 ((91 + (zOn2 oz * 8)) + 6) ((zU (zU (m_X10_addOutcome_2 M n oz ch) 1 ((91 + (zOn2 oz * 8)) + 4) (g_X10_votesOf (zU (m_X10_addOutcome_1 M n oz ch) 1 ((91 + (zOn2 oz * 8)) + 3) (g_X10_votesOf (zU (zU (zU (j_X10_addOutcome_54 M n oz ch) 1 (91 + (zOn2 oz * 8)) ((j_X10_addOutcome_54 M n oz ch) 1 5)) 1 ((91 + (zOn2 oz * 8)) + 1) ch) 1 ((91 + (zOn2 oz * 8)) + 2) (if ch = (-1) then (0 : Int32) else ((j_X10_addOutcome_54 M n oz ch) 20 ch.toNatClampNeg))) n 2)) n 3)) 1 ((91 + (zOn2 oz * 8)) + 5) (if ch = (-1) then (0 : Int32) else (if ((j_X10_addOutcome_54 M n oz ch) 0 13) ≤ 1 then (0 : Int32) else (1 : Int32)))) 1 1)) 1 ((91 + (zOn2 oz * 8)) + 7) ((zU (zU (zU (m_X10_addOutcome_2 M n oz ch) 1 ((91 + (zOn2 oz * 8)) + 4) (g_X10_votesOf (zU (m_X10_addOutcome_1 M n oz ch) 1 ((91 + (zOn2 oz * 8)) + 3) (g_X10_votesOf (zU (zU (zU (j_X10_addOutcome_54 M n oz ch) 1 (91 + (zOn2 oz * 8)) ((j_X10_addOutcome_54 M n oz ch) 1 5)) 1 ((91 + (zOn2 oz * 8)) + 1) ch) 1 ((91 + (zOn2 oz * 8)) + 2) (if ch = (-1) then (0 : Int32) else ((j_X10_addOutcome_54 M n oz ch) 20 ch.toNatClampNeg))) n 2)) n 3)) 1 ((91 + (zOn2 oz * 8)) + 5) (if ch = (-1) then (0 : Int32) else (if ((j_X10_addOutcome_54 M n oz ch) 0 13) ≤ 1 then (0 : Int32) else (1 : Int32)))) 1 ((91 + (zOn2 oz * 8)) + 6) ((zU (zU (m_X10_addOutcome_2 M n oz ch) 1 ((91 + (zOn2 oz * 8)) + 4) (g_X10_votesOf (zU (m_X10_addOutcome_1 M n oz ch) 1 ((91 + (zOn2 oz * 8)) + 3) (g_X10_votesOf (zU (zU (zU (j_X10_addOutcome_54 M n oz ch) 1 (91 + (zOn2 oz * 8)) ((j_X10_addOutcome_54 M n oz ch) 1 5)) 1 ((91 + (zOn2 oz * 8)) + 1) ch) 1 ((91 + (zOn2 oz * 8)) + 2) (if ch = (-1) then (0 : Int32) else ((j_X10_addOutcome_54 M n oz ch) 20 ch.toNatClampNeg))) n 2)) n 3)) 1 ((91 + (zOn2 oz * 8)) + 5) (if ch = (-1) then (0 : Int32) else (if ((j_X10_addOutcome_54 M n oz ch) 0 13) ≤ 1 then (0 : Int32) else (1 : Int32)))) 1 1)) 1 2))) (by decide +kernel) rfl ?_
        refine zT.iast (n := 187) (k := 9) rfl rfl (by decide) (by decide) (by decide +kernel) ?_
        exact zT.vret (by simp only [g_X10_addOutcome]; try rfl) rfl (by decide +kernel)
theorem fr_X10_addOutcome (M : zM) (n : Nat) (oz : Nat) (ch : Int32) (o : Nat) (ho : o ≠ 1) : (g_X10_addOutcome M n oz ch) o = M o := by
  simp only [g_X10_addOutcome]
  (repeat' split) <;> simp only [zU_ne ho, zUa_ne ho, m_X10_addOutcome_2, m_X10_addOutcome_1, (fr_j_X10_addOutcome_54 M n oz ch o (by omega))]
theorem lo_X10_addOutcome (M : zM) (n : Nat) (oz : Nat) (ch : Int32) (o : Nat) (ho : o < 10 ∧ o ≠ 9) : (g_X10_addOutcome M n oz ch) 1 o = M 1 o := by
  simp only [g_X10_addOutcome]
  (repeat' split) <;> (try simp only [zU_k (c := 1) (i := 9) (o := o) (by omega), zU_h9 (o := o) (by omega), m_X10_addOutcome_2, m_X10_addOutcome_1, zU_h9a (o := o) (by omega), (lo_j_X10_addOutcome_54 M n oz ch o (by omega))])
theorem k_X10_addOutcome : zCal yy_X10_addOutcome 1 := ⟨⟨⟨⟨zIn (w := 6086) (by decide +kernel) rfl, zIn (w := 1012) (by decide +kernel) rfl⟩, by decide +kernel⟩, by decide +kernel⟩, ⟨zIn (w := 6085) (by decide +kernel) rfl, zIn (w := 51) (by decide +kernel) rfl⟩⟩

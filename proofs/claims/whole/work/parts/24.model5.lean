
theorem nb_X10_bad1 {M : zM} {v lo hi cd : Int32} : narrow .boolean (.int (g_X10_bad M v lo hi cd).1) = .int (g_X10_bad M v lo hi cd).1 := by
  simp only [g_X10_bad]
  (repeat' split) <;> first | exact (rfl : narrow .boolean (.int 1) = .int 1) | exact (rfl : narrow .boolean (.int 0) = .int 0)
noncomputable abbrev yy_X10_noReplica : zY := (yX10_noReplica, cX10_noReplica, 2, (some Jvm.ClassFile.FieldType.boolean), 1, 24)
noncomputable def g_X10_noReplica (M : zM) (r : Int32) : Int32 × zM := ((g_X10_bad M r 0 ((M 1 0) - 1) 1).1, (g_X10_bad M r 0 ((M 1 0) - 1) 1).2)
set_option maxRecDepth 100000 in
theorem c_X10_noReplica (M : zM) (gp : Nat → Option Nat) (r : Int32)  : zC yy_X10_noReplica 0 0 [.ref 0, .int r] (sh_Model gp) M (some (.int (g_X10_noReplica M r).1)) (sh_Model gp) (g_X10_noReplica M r).2 := by
  refine zC.of (by decide +kernel) rfl (Nat.le_of_ble_eq_true rfl) ?_
  refine zT.run [(.aload_n 0, 0, 0, 0), (.iload_n 1, 0, 0, 0), (.iconst 0, 0, 0, 0), (.aload_n 0, 0, 0, 0), (.getfield 9, 8, 1, 5150), (.iconst 0, 0, 0, 0)] (pe := 8) (ls' := [some (.ref 0), some (.int r)]) (st' := [.int 0, .ref 1, .int 0, .int r, .ref 0]) (M' := M) (by decide +kernel) rfl ?_
  refine zT.iald (n := 187) (k := 0) rfl rfl (by decide) (by decide) (by decide +kernel) ?_
  refine zT.run [(.iconst 1, 0, 0, 0), (.isub, 0, 0, 0), (.iconst 1, 0, 0, 0)] (pe := 12) (ls' := [some (.ref 0), some (.int r)]) (st' := [.int 1, .int ((M 1 0) - 1), .int 0, .int r, .ref 0]) (M' := M) (by decide +kernel) rfl ?_
  refine zT.cV_all (o := 0) (idx := 72) (av := [.int r, .int 0, .int ((M 1 0) - 1), .int 1]) (rv := (some (.int (g_X10_bad M r 0 ((M 1 0) - 1) 1).1))) (st := []) (S1 := [.int (g_X10_bad M r 0 ((M 1 0) - 1) 1).1]) (c_X10_bad M gp r 0 ((M 1 0) - 1) 1) k_X10_bad _ _ rfl rfl rfl (zIn (w := 5220) (by decide +kernel) rfl) (by decide +kernel) (by decide +kernel) rfl (Nat.le_of_ble_eq_true rfl) rfl ?_
  exact zT.iret (ty := Jvm.ClassFile.FieldType.boolean) (by simp only [g_X10_noReplica]; try rfl) (by simp only [g_X10_noReplica]; try rfl) rfl nb_X10_bad1 (by decide +kernel)
theorem fr_X10_noReplica (M : zM) (r : Int32) (o : Nat) (ho : o ≠ 0) : (g_X10_noReplica M r).2 o = M o := by
  simp only [g_X10_noReplica]
  (repeat' split) <;> simp only [zU_ne ho, zUa_ne ho, (fun (MM : zM) (v : Int32) (lo : Int32) (hi : Int32) (cd : Int32) => fr_X10_bad MM v lo hi cd o (by omega))]
theorem k_X10_noReplica : zCal yy_X10_noReplica 1 := ⟨⟨⟨⟨zIn (w := 5219) (by decide +kernel) rfl, zIn (w := 1012) (by decide +kernel) rfl⟩, by decide +kernel⟩, by decide +kernel⟩, ⟨zIn (w := 5218) (by decide +kernel) rfl, zIn (w := 31) (by decide +kernel) rfl⟩⟩
theorem nb_X10_noReplicaX : True := trivial
theorem zBad_ok {M : zM} {v lo hi cd : Int32} (h1 : ¬ v < lo) (h2 : v ≤ hi) : g_X10_bad M v lo hi cd = (0, M) := by
  simp only [g_X10_bad, if_neg h1, if_pos h2]
theorem zBad_bad {M : zM} {v lo hi cd : Int32} (h : v < lo ∨ ¬ v ≤ hi) : g_X10_bad M v lo hi cd = (1, zU M 0 0 cd) := by
  simp only [g_X10_bad]
  by_cases h1 : v < lo
  · rw [if_pos h1]
  · rw [if_neg h1, if_neg (h.resolve_left h1)]
theorem c_X10_bad_ok (M : zM) (gp : Nat → Option Nat) (v lo hi cd : Int32) (h1 : ¬ v < lo) (h2 : v ≤ hi) : zC yy_X10_bad 0 0 [.ref 0, .int v, .int lo, .int hi, .int cd] (sh_Model gp) M (some (.int 0)) (sh_Model gp) M := by
  have h := c_X10_bad M gp v lo hi cd
  rw [zBad_ok h1 h2] at h
  exact h
theorem c_X10_bad_bad (M : zM) (gp : Nat → Option Nat) (v lo hi cd : Int32) (h1 : v < lo ∨ ¬ v ≤ hi) : zC yy_X10_bad 0 0 [.ref 0, .int v, .int lo, .int hi, .int cd] (sh_Model gp) M (some (.int 1)) (sh_Model gp) (zU M 0 0 cd) := by
  have h := c_X10_bad M gp v lo hi cd
  rw [zBad_bad h1] at h
  exact h
theorem zNr_ok {M : zM} {n r : Nat} (hn : M 1 0 = nI n) (h9 : n ≤ 9) (h : r < n) : g_X10_noReplica M (nI r) = (0, M) := by
  refine zBad_ok (nI_pos (by omega)) ?_
  rw [hn, show (1 : Int32) = nI 1 from rfl, pk_sub (by omega)]
  exact nI_le (by omega) (by omega)
theorem zNr_bad {M : zM} {n : Nat} {v : Int32} (hn : M 1 0 = nI n) (h9 : n ≤ 9) (h0 : 0 < n) (h : v < 0 ∨ nI n ≤ v) : g_X10_noReplica M v = (1, zU M 0 0 1) := by
  refine zBad_bad ?_
  by_cases h1 : v < 0
  · exact Or.inl h1
  · refine Or.inr fun h2 => ?_
    have h3 := h.resolve_left h1
    rw [hn, show (1 : Int32) = nI 1 from rfl, pk_sub (by omega)] at h2
    exact nI_ge (a := n - 1) (b := n) (by omega) (by omega) (Int32.le_trans h3 h2)
theorem c_X10_noReplica_ok (M : zM) (gp : Nat → Option Nat) (n r : Nat) (hn : M 1 0 = nI n) (h9 : n ≤ 9) (h : r < n) : zC yy_X10_noReplica 0 0 [.ref 0, .int (nI r)] (sh_Model gp) M (some (.int 0)) (sh_Model gp) M := by
  have h1 := c_X10_noReplica M gp (nI r)
  rw [zNr_ok hn h9 h] at h1
  exact h1
theorem c_X10_noReplica_bad (M : zM) (gp : Nat → Option Nat) (n : Nat) (v : Int32) (hn : M 1 0 = nI n) (h9 : n ≤ 9) (h0 : 0 < n) (h : v < 0 ∨ nI n ≤ v) : zC yy_X10_noReplica 0 0 [.ref 0, .int v] (sh_Model gp) M (some (.int 1)) (sh_Model gp) (zU M 0 0 1) := by
  have h1 := c_X10_noReplica M gp v
  rw [zNr_bad hn h9 h0 h] at h1
  exact h1
theorem zKp_fr {M : zM} {gq : Nat → Nat} {pc f : Nat} (hq : zPm gq) (hpc : pc ≤ 10) (o : Nat) (ho : o = 1 ∨ o = 2 ∨ 13 ≤ o) : zKp M gq pc f o = M o := by
  have h1 : 3 ≤ zKq gq pc (zKc pc) ∧ zKq gq pc (zKc pc) ≤ 12 := hq.kq.1 _ (by unfold zKc; split <;> omega)
  unfold zKp zCp
  rw [zU_ne (by omega), zUa_ne (by omega)]
  split
  · rw [zU_ne (by omega)]
  · rfl
noncomputable abbrev yy_X10_isRefused : zY := (yX10_isRefused, cX10_isRefused, 2, (some Jvm.ClassFile.FieldType.boolean), 2, 45)
noncomputable def g_X10_isRefused (M : zM) (gq : Nat → Nat) (pc : Nat) (x : Int32) : Int32 × zM := (0, (zKp M gq pc 1))
noncomputable def h_X10_isRefused (M : zM) (gq : Nat → Nat) (pc : Nat) (x : Int32) : Nat → Nat := (zKq gq pc)
set_option maxRecDepth 100000 in
theorem c_X10_isRefused (M : zM) (gq : Nat → Nat) (pc : Nat) (x : Int32) (hM : M 0 3 = nI pc) (hpc : pc ≤ 10) (hq : zPm gq) (hx : x = 0) : zC yy_X10_isRefused 0 0 [.ref 0, .int x] (sh_Model (zGp gq)) M (some (.int (g_X10_isRefused M gq pc x).1)) (sh_Model (zGp (h_X10_isRefused M gq pc x))) (g_X10_isRefused M gq pc x).2 := by
  refine zC.of (by decide +kernel) rfl (Nat.le_of_ble_eq_true rfl) ?_
  refine zT.run [(.iload_n 1, 0, 0, 0)] (pe := 1) (ls' := [some (.ref 0), some (.int x)]) (st' := [.int x]) (M' := M) (by decide +kernel) rfl ?_
  refine zT.zne (tgt := 12) (off := 11) (by decide +kernel) (by decide) (fun c => absurd hx c) (fun _ => ?_)
  refine zT.run [(.aload_n 0, 0, 0, 0), (.aload_n 0, 0, 0, 0), (.getfield 9, 8, 1, 5150)] (pe := 9) (ls' := [some (.ref 0), some (.int x)]) (st' := [.ref 1, .ref 0]) (M' := M) (by decide +kernel) rfl ?_
  refine zT.cV_out (o := 0) (idx := 156) (av := [.ref 1]) (rv := none) (st := []) (S1 := []) (c_X10_keepPast M gq pc 1 hM hpc hq (fun _ => rfl)) rfl k_X10_keepPast _ _ rfl rfl rfl (zIn (w := 5239) (by decide +kernel) rfl) (by decide +kernel) (by decide +kernel) rfl (Nat.le_of_ble_eq_true rfl) rfl ?_
  refine zT.run [(.iload_n 1, 0, 0, 0)] (pe := 13) (ls' := [some (.ref 0), some (.int x)]) (st' := [.int x]) (M' := (zKp M gq pc 1)) (by decide +kernel) rfl ?_
  refine zT.zeq (tgt := 20) (off := 7) (by decide +kernel) (by decide) (fun _ => ?_) (fun c => absurd hx c)
  refine zT.run [(.iconst 0, 0, 0, 0)] (pe := 21) (ls' := [some (.ref 0), some (.int x)]) (st' := [.int 0]) (M' := (zKp M gq pc 1)) (by decide +kernel) rfl ?_
  refine zT.eqSh (sh2 := (sh_Model (zGp (h_X10_isRefused M gq pc x)))) (by simp only [h_X10_isRefused]; try rfl) ?_
  exact zT.iret (ty := Jvm.ClassFile.FieldType.boolean) (by simp only [g_X10_isRefused]; try rfl) (by simp only [g_X10_isRefused]; try rfl) rfl rfl (by decide +kernel)
theorem k_X10_isRefused : zCal yy_X10_isRefused 1 := ⟨⟨⟨⟨zIn (w := 5238) (by decide +kernel) rfl, zIn (w := 1012) (by decide +kernel) rfl⟩, by decide +kernel⟩, by decide +kernel⟩, ⟨zIn (w := 5237) (by decide +kernel) rfl, zIn (w := 35) (by decide +kernel) rfl⟩⟩
theorem e_X10_isRefused (M : zM) (gq : Nat → Nat) (pc : Nat) (x : Int32) : g_X10_isRefused M gq pc x = (0, zKp M gq pc 1) := rfl
noncomputable def g_X10_isRefused_1 (gq : Nat → Nat) (pc : Nat) (x : Int32) : Int32 := 1
set_option maxRecDepth 100000 in
theorem c_X10_isRefused_1 (M : zM) (gq : Nat → Nat) (pc : Nat) (x : Int32) (hM : M 0 3 = nI pc) (hpc : pc ≤ 10) (hq : zPm gq) (hx : ¬ x = 0) : zC yy_X10_isRefused 0 0 [.ref 0, .int x] (sh_Model (zGp gq)) M (some (.int (g_X10_isRefused_1 gq pc x))) (sh_Model (zGp gq)) M := by
  refine zC.of (by decide +kernel) rfl (Nat.le_of_ble_eq_true rfl) ?_
  refine zT.run [(.iload_n 1, 0, 0, 0)] (pe := 1) (ls' := [some (.ref 0), some (.int x)]) (st' := [.int x]) (M' := M) (by decide +kernel) rfl ?_
  refine zT.zne (tgt := 12) (off := 11) (by decide +kernel) (by decide) (fun _ => ?_) (fun c => absurd c hx)
  refine zT.run [(.iload_n 1, 0, 0, 0)] (pe := 13) (ls' := [some (.ref 0), some (.int x)]) (st' := [.int x]) (M' := M) (by decide +kernel) rfl ?_
  refine zT.zeq (tgt := 20) (off := 7) (by decide +kernel) (by decide) (fun c => absurd c hx) (fun _ => ?_)
  refine zT.run [(.iconst 1, 0, 0, 0), (.goto 4, 0, 0, 0)] (pe := 21) (ls' := [some (.ref 0), some (.int x)]) (st' := [.int 1]) (M' := M) (by decide +kernel) rfl ?_
  exact zT.iret (ty := Jvm.ClassFile.FieldType.boolean) (by simp only [g_X10_isRefused_1]; try rfl) rfl rfl rfl (by decide +kernel)

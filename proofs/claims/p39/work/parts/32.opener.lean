def sh_Opener : List va_E := [.inr (3, [.ref 1, .ref 3]), .inr (6, [.int 0, .ref 2, .int 0, .int 0, .int 0, .int 0]), .inl (1, 600, .inl (fun _ => 0)), .inl (0, 3, .inl (fun _ => 0))]
theorem sub_Opener_1_Text : zSub sh_Opener 1 sh_Text := zSub.of rfl
section ZXA
variable {Y : zY} {kc nc : Nat} {Z : zS → Prop} {pc : Nat} {ls : zL} {st : List Value} {sh : List va_E} {M : zM}
/-- a written row of deeds -/
theorem zT.xa (k : Nat) {t j x : Nat} {i : Int32} {vs : List Value} (hq : zTs[k]? = some (.object "SealedBallots$Deed", t, vs)) (hi : i = nI j) (hj : vs[j]? = some (.retAddr x)) (hn : vs.length < 2 ^ 31) (hd : decode Y.2.1 pc = .ok (.aaload, 1)) (k1 : zT Y kc nc Z (pc + 1, ls, .retAddr x :: st, sh, M)) : zT Y kc nc Z (pc, ls, .int i :: .retAddr t :: st, sh, M) := by
  refine zT.step (S1 := (pc + 1, ls, .retAddr x :: st, sh, M)) rfl ?_ k1
  intro p l e R s m args below meth c D cA ex A E Q cells slots as hcl hsl k9 H locs lsR hP hD hS hl
  subst hi
  have hlt := (List.getElem?_eq_some_iff.mp hj).1
  obtain ⟨cell, h1, h2, h3, h4, h5, h6, h7⟩ := E.2.2.2.2.2.2.2.1.2.1 _ (List.mem_of_getElem? hq)
  have hc := nI_clamp (Nat.lt_trans hlt hn)
  have hin' : ¬ (nI j < 0 ∨ cell.slots.size ≤ (nI j).toNatClampNeg) := by
    intro q
    rcases q with q | q
    · exact (vp_in_nI hlt hn) (Or.inl q)
    · rw [hc] at q
      have h4' : vs.length ≤ cell.slots.size := h4
      omega
  refine W.aald (v := .ref (ex x)) E.1 E.2.1 (by rw [hS.2.1 _ (Array.getElem?_eq_some_iff.mp h1).1 h7]; exact h1) h2 rfl h3 hin' ?_ rfl rfl hd (k9 H locs lsR hP hD hS hl)
  rw [hc, h6 _ hlt]
  show some (zTr ex ex (vs.getD j .null)) = _
  rw [List.getD_eq_getElem?_getD, hj]
  rfl
end ZXA
/-- the kinds of a deed's numbers, the lowest and highest of a kind -/
def zKdL : List (List Int) := [[0, -1, -1], [1, -1, -1], [2, -1, -1], [7, -1, -1], [7, 7, 3], [7, 4, -1], [-1, -1, -1], [7, 7, 3], [-1, -1, -1], [7, -1, -1], [-1, -1, -1], [7, -1, -1], [7, -1, -1], [7, 7, -1], [7, 7, -1]]
def zKd (d p : Nat) : Int32 := Int32.ofInt ((zKdL.getD d []).getD p (-1))
def zLo (k : Nat) : Int32 := if k = 0 then 1 else if k = 5 then 1 else 0
def zHi (k : Nat) : Int32 := ([9, 1, 3, 999, 65535, 99, 999, 8] : List Int32).getD k 0
theorem zLoI (k : Nat) (h : k < 8) : ([.int 1, .int 0, .int 0, .int 0, .int 0, .int 1, .int 0, .int 0] : List Value)[k]? = some (.int (zLo k)) := by
  match k, h with
  | 0, _ => rfl
  | 1, _ => rfl
  | 2, _ => rfl
  | 3, _ => rfl
  | 4, _ => rfl
  | 5, _ => rfl
  | 6, _ => rfl
  | 7, _ => rfl
  | k + 8, h => omega
theorem zHiI (k : Nat) (h : k < 8) : ([.int 9, .int 1, .int 3, .int 999, .int 65535, .int 99, .int 999, .int 8] : List Value)[k]? = some (.int (zHi k)) := by
  match k, h with
  | 0, _ => rfl
  | 1, _ => rfl
  | 2, _ => rfl
  | 3, _ => rfl
  | 4, _ => rfl
  | 5, _ => rfl
  | 6, _ => rfl
  | 7, _ => rfl
  | k + 8, h => omega
theorem zKdI : ∀ d, d < 15 → ∀ p, p < 3 → ¬ zKd d p = -1 → zKd d p = nI (zKd d p).toNatClampNeg ∧ (zKd d p).toNatClampNeg < 8 := by decide +kernel
theorem zKdM : ∀ d, d < 15 → (("SealedBallots$Deed", "firstKind", "I", .int (zKd d 0), d) ∈ zFs ∧ ("SealedBallots$Deed", "secondKind", "I", .int (zKd d 1), d) ∈ zFs) ∧ (("SealedBallots$Deed", "thirdKind", "I", .int (zKd d 2), d) ∈ zFs ∧ ("java/lang/Enum", "ordinal", "I", .int (nI d), d) ∈ zFs) ∧ ("SealedBallots$Deed", "word", "Ljava/lang/String;", .retAddr (200 + d), d) ∈ zFs := by
  intro d hd
  rcases (show d = 0 ∨ d = 1 ∨ d = 2 ∨ d = 3 ∨ d = 4 ∨ d = 5 ∨ d = 6 ∨ d = 7 ∨ d = 8 ∨ d = 9 ∨ d = 10 ∨ d = 11 ∨ d = 12 ∨ d = 13 ∨ d = 14 by omega) with rfl | rfl | rfl | rfl | rfl | rfl | rfl | rfl | rfl | rfl | rfl | rfl | rfl | rfl | rfl
  · exact ⟨⟨List.mem_of_getElem? (i := 5 * 0 + 2) rfl, List.mem_of_getElem? (i := 5 * 0 + 3) rfl⟩, ⟨List.mem_of_getElem? (i := 5 * 0 + 4) rfl, List.mem_of_getElem? (i := 5 * 0) rfl⟩, List.mem_of_getElem? (i := 5 * 0 + 1) rfl⟩
  · exact ⟨⟨List.mem_of_getElem? (i := 5 * 1 + 2) rfl, List.mem_of_getElem? (i := 5 * 1 + 3) rfl⟩, ⟨List.mem_of_getElem? (i := 5 * 1 + 4) rfl, List.mem_of_getElem? (i := 5 * 1) rfl⟩, List.mem_of_getElem? (i := 5 * 1 + 1) rfl⟩
  · exact ⟨⟨List.mem_of_getElem? (i := 5 * 2 + 2) rfl, List.mem_of_getElem? (i := 5 * 2 + 3) rfl⟩, ⟨List.mem_of_getElem? (i := 5 * 2 + 4) rfl, List.mem_of_getElem? (i := 5 * 2) rfl⟩, List.mem_of_getElem? (i := 5 * 2 + 1) rfl⟩
  · exact ⟨⟨List.mem_of_getElem? (i := 5 * 3 + 2) rfl, List.mem_of_getElem? (i := 5 * 3 + 3) rfl⟩, ⟨List.mem_of_getElem? (i := 5 * 3 + 4) rfl, List.mem_of_getElem? (i := 5 * 3) rfl⟩, List.mem_of_getElem? (i := 5 * 3 + 1) rfl⟩
  · exact ⟨⟨List.mem_of_getElem? (i := 5 * 4 + 2) rfl, List.mem_of_getElem? (i := 5 * 4 + 3) rfl⟩, ⟨List.mem_of_getElem? (i := 5 * 4 + 4) rfl, List.mem_of_getElem? (i := 5 * 4) rfl⟩, List.mem_of_getElem? (i := 5 * 4 + 1) rfl⟩
  · exact ⟨⟨List.mem_of_getElem? (i := 5 * 5 + 2) rfl, List.mem_of_getElem? (i := 5 * 5 + 3) rfl⟩, ⟨List.mem_of_getElem? (i := 5 * 5 + 4) rfl, List.mem_of_getElem? (i := 5 * 5) rfl⟩, List.mem_of_getElem? (i := 5 * 5 + 1) rfl⟩
  · exact ⟨⟨List.mem_of_getElem? (i := 5 * 6 + 2) rfl, List.mem_of_getElem? (i := 5 * 6 + 3) rfl⟩, ⟨List.mem_of_getElem? (i := 5 * 6 + 4) rfl, List.mem_of_getElem? (i := 5 * 6) rfl⟩, List.mem_of_getElem? (i := 5 * 6 + 1) rfl⟩
  · exact ⟨⟨List.mem_of_getElem? (i := 5 * 7 + 2) rfl, List.mem_of_getElem? (i := 5 * 7 + 3) rfl⟩, ⟨List.mem_of_getElem? (i := 5 * 7 + 4) rfl, List.mem_of_getElem? (i := 5 * 7) rfl⟩, List.mem_of_getElem? (i := 5 * 7 + 1) rfl⟩
  · exact ⟨⟨List.mem_of_getElem? (i := 5 * 8 + 2) rfl, List.mem_of_getElem? (i := 5 * 8 + 3) rfl⟩, ⟨List.mem_of_getElem? (i := 5 * 8 + 4) rfl, List.mem_of_getElem? (i := 5 * 8) rfl⟩, List.mem_of_getElem? (i := 5 * 8 + 1) rfl⟩
  · exact ⟨⟨List.mem_of_getElem? (i := 5 * 9 + 2) rfl, List.mem_of_getElem? (i := 5 * 9 + 3) rfl⟩, ⟨List.mem_of_getElem? (i := 5 * 9 + 4) rfl, List.mem_of_getElem? (i := 5 * 9) rfl⟩, List.mem_of_getElem? (i := 5 * 9 + 1) rfl⟩
  · exact ⟨⟨List.mem_of_getElem? (i := 5 * 10 + 2) rfl, List.mem_of_getElem? (i := 5 * 10 + 3) rfl⟩, ⟨List.mem_of_getElem? (i := 5 * 10 + 4) rfl, List.mem_of_getElem? (i := 5 * 10) rfl⟩, List.mem_of_getElem? (i := 5 * 10 + 1) rfl⟩
  · exact ⟨⟨List.mem_of_getElem? (i := 5 * 11 + 2) rfl, List.mem_of_getElem? (i := 5 * 11 + 3) rfl⟩, ⟨List.mem_of_getElem? (i := 5 * 11 + 4) rfl, List.mem_of_getElem? (i := 5 * 11) rfl⟩, List.mem_of_getElem? (i := 5 * 11 + 1) rfl⟩
  · exact ⟨⟨List.mem_of_getElem? (i := 5 * 12 + 2) rfl, List.mem_of_getElem? (i := 5 * 12 + 3) rfl⟩, ⟨List.mem_of_getElem? (i := 5 * 12 + 4) rfl, List.mem_of_getElem? (i := 5 * 12) rfl⟩, List.mem_of_getElem? (i := 5 * 12 + 1) rfl⟩
  · exact ⟨⟨List.mem_of_getElem? (i := 5 * 13 + 2) rfl, List.mem_of_getElem? (i := 5 * 13 + 3) rfl⟩, ⟨List.mem_of_getElem? (i := 5 * 13 + 4) rfl, List.mem_of_getElem? (i := 5 * 13) rfl⟩, List.mem_of_getElem? (i := 5 * 13 + 1) rfl⟩
  · exact ⟨⟨List.mem_of_getElem? (i := 5 * 14 + 2) rfl, List.mem_of_getElem? (i := 5 * 14 + 3) rfl⟩, ⟨List.mem_of_getElem? (i := 5 * 14 + 4) rfl, List.mem_of_getElem? (i := 5 * 14) rfl⟩, List.mem_of_getElem? (i := 5 * 14 + 1) rfl⟩
theorem zDeedO : ∀ d, d < 15 → ("SealedBallots$Deed", d) ∈ zOs := by
  intro d hd
  rcases (show d = 0 ∨ d = 1 ∨ d = 2 ∨ d = 3 ∨ d = 4 ∨ d = 5 ∨ d = 6 ∨ d = 7 ∨ d = 8 ∨ d = 9 ∨ d = 10 ∨ d = 11 ∨ d = 12 ∨ d = 13 ∨ d = 14 by omega) with rfl | rfl | rfl | rfl | rfl | rfl | rfl | rfl | rfl | rfl | rfl | rfl | rfl | rfl | rfl
  · exact List.mem_of_getElem? (i := 0) rfl
  · exact List.mem_of_getElem? (i := 1) rfl
  · exact List.mem_of_getElem? (i := 2) rfl
  · exact List.mem_of_getElem? (i := 3) rfl
  · exact List.mem_of_getElem? (i := 4) rfl
  · exact List.mem_of_getElem? (i := 5) rfl
  · exact List.mem_of_getElem? (i := 6) rfl
  · exact List.mem_of_getElem? (i := 7) rfl
  · exact List.mem_of_getElem? (i := 8) rfl
  · exact List.mem_of_getElem? (i := 9) rfl
  · exact List.mem_of_getElem? (i := 10) rfl
  · exact List.mem_of_getElem? (i := 11) rfl
  · exact List.mem_of_getElem? (i := 12) rfl
  · exact List.mem_of_getElem? (i := 13) rfl
  · exact List.mem_of_getElem? (i := 14) rfl
theorem zDeedA : ∀ d, d < 15 → ([.retAddr 0, .retAddr 1, .retAddr 2, .retAddr 3, .retAddr 4, .retAddr 5, .retAddr 6, .retAddr 7, .retAddr 8, .retAddr 9, .retAddr 10, .retAddr 11, .retAddr 12, .retAddr 13, .retAddr 14] : List Value)[d]? = some (.retAddr d) := by
  intro d hd
  rcases (show d = 0 ∨ d = 1 ∨ d = 2 ∨ d = 3 ∨ d = 4 ∨ d = 5 ∨ d = 6 ∨ d = 7 ∨ d = 8 ∨ d = 9 ∨ d = 10 ∨ d = 11 ∨ d = 12 ∨ d = 13 ∨ d = 14 by omega) with rfl | rfl | rfl | rfl | rfl | rfl | rfl | rfl | rfl | rfl | rfl | rfl | rfl | rfl | rfl
  · rfl
  · rfl
  · rfl
  · rfl
  · rfl
  · rfl
  · rfl
  · rfl
  · rfl
  · rfl
  · rfl
  · rfl
  · rfl
  · rfl
  · rfl
noncomputable abbrev yy_X9_fits : zY := (yX9_fits, cX9_fits, 2, (some Jvm.ClassFile.FieldType.boolean), 0, 0)
def g_X9_fits (v : Int32) (k : Nat) : Int32 := if v < zLo k then 0 else if zHi k < v then 0 else 1
set_option maxRecDepth 100000 in
theorem c_X9_fits (v : Int32) (k : Nat) (hk : k < 8) : zC yy_X9_fits 0 0 [.int v, .int (nI k)] [] zM0 (some (.int (g_X9_fits v k))) [] zM0 := by
  refine zC.of (by decide +kernel) rfl (Nat.le_of_ble_eq_true rfl) ?_
  refine zT.run [(.iload_n 0, 0, 0, 0)] (pe := 1) (ls' := [some (.int v), some (.int (nI k))]) (st' := [.int v]) (M' := zM0) (by decide +kernel) rfl ?_
  refine zT.gets (idx := 261) 1 rfl rfl (zIn (w := 4021) (by decide +kernel) rfl) (by decide +kernel) ?_
  refine zT.run [(.iload_n 1, 0, 0, 0)] (pe := 5) (ls' := [some (.int v), some (.int (nI k))]) (st' := [.int (nI k), .retAddr 102, .int v]) (M' := zM0) (by decide +kernel) rfl ?_
  refine zT.xi 1 (j := k) (x := zLo k) rfl rfl (zLoI k hk) (by decide) (by decide +kernel) ?_
  refine zT.clt (tgt := 22) (off := 16) (by decide +kernel) (by decide) (fun (c1 : v < zLo k) => ?_) (fun (c1 : ¬ v < zLo k) => ?_)
  · refine zT.run [(.iconst 0, 0, 0, 0)] (pe := 23) (ls' := [some (.int v), some (.int (nI k))]) (st' := [.int 0]) (M' := zM0) (by decide +kernel) rfl ?_
    exact zT.iret (ty := Jvm.ClassFile.FieldType.boolean) (by simp only [g_X9_fits, if_pos c1]) rfl rfl rfl (by decide +kernel)
  · refine zT.run [(.iload_n 0, 0, 0, 0)] (pe := 10) (ls' := [some (.int v), some (.int (nI k))]) (st' := [.int v]) (M' := zM0) (by decide +kernel) rfl ?_
    refine zT.gets (idx := 264) 2 rfl rfl (zIn (w := 4023) (by decide +kernel) rfl) (by decide +kernel) ?_
    refine zT.run [(.iload_n 1, 0, 0, 0)] (pe := 14) (ls' := [some (.int v), some (.int (nI k))]) (st' := [.int (nI k), .retAddr 103, .int v]) (M' := zM0) (by decide +kernel) rfl ?_
    refine zT.xi 2 (j := k) (x := zHi k) rfl rfl (zHiI k hk) (by decide) (by decide +kernel) ?_
    refine zT.cgt (tgt := 22) (off := 7) (by decide +kernel) (by decide) (fun (c2 : zHi k < v) => ?_) (fun (c2 : ¬ zHi k < v) => ?_)
    · refine zT.run [(.iconst 0, 0, 0, 0)] (pe := 23) (ls' := [some (.int v), some (.int (nI k))]) (st' := [.int 0]) (M' := zM0) (by decide +kernel) rfl ?_
      exact zT.iret (ty := Jvm.ClassFile.FieldType.boolean) (by simp only [g_X9_fits, if_neg c1, if_pos c2]) rfl rfl rfl (by decide +kernel)
    · refine zT.run [(.iconst 1, 0, 0, 0), (.goto 4, 0, 0, 0)] (pe := 23) (ls' := [some (.int v), some (.int (nI k))]) (st' := [.int 1]) (M' := zM0) (by decide +kernel) rfl ?_
      exact zT.iret (ty := Jvm.ClassFile.FieldType.boolean) (by simp only [g_X9_fits, if_neg c1, if_neg c2]) rfl rfl rfl (by decide +kernel)
theorem k_X9_fits : zCas yy_X9_fits 2 := ⟨⟨⟨⟨zIn (w := 4020) (by decide +kernel) rfl, zIn (w := 1001) (by decide +kernel) rfl⟩, by decide +kernel⟩, by decide +kernel⟩, zIn (w := 4019) (by decide +kernel) rfl⟩
noncomputable abbrev yy_X2_kindAt : zY := (yX2_kindAt, cX2_kindAt, 2, (some Jvm.ClassFile.FieldType.int), 0, 0)
set_option maxRecDepth 100000 in
theorem c_X2_kindAt (d p : Nat) (hd : d < 15) (hp : p < 3) : zC0 yy_X2_kindAt [.retAddr d, .int (nI p)] (some (.int (zKd d p))) := by
  refine zC0.of (by decide +kernel) rfl (Nat.le_of_ble_eq_true rfl) ?_
  refine zT.run [(.iload_n 1, 0, 0, 0)] (pe := 1) (ls' := [some (.retAddr d), some (.int (nI p))]) (st' := [.int (nI p)]) (M' := zM0) (by decide +kernel) rfl ?_
  rcases (show p = 0 ∨ p = 1 ∨ p = 2 by omega) with rfl | rfl | rfl
  · refine zT.tabEq (v := 0) rfl (tgt := 28) (off := 27) (dflt := 42) (lo := 0) (hi := 2) (offs := #[27, 32, 37]) (len := 27) (by decide +kernel) (by decide) (by decide) (by decide) (by decide) ?_
    refine zT.run [(.aload_n 0, 0, 0, 0)] (pe := 29) (ls' := [some (.retAddr d), some (.int 0)]) (st' := [.retAddr d]) (M' := zM0) (by decide +kernel) rfl ?_
    refine zT.xgetM (idx := 74) (zKdM d hd).1.1 rfl (zIn (w := 5174) (by decide +kernel) rfl) (by decide +kernel) ?_
    exact zT.iret (ty := Jvm.ClassFile.FieldType.int) rfl rfl rfl rfl (by decide +kernel)
  · refine zT.tabEq (v := 1) rfl (tgt := 33) (off := 32) (dflt := 42) (lo := 0) (hi := 2) (offs := #[27, 32, 37]) (len := 27) (by decide +kernel) (by decide) (by decide) (by decide) (by decide) ?_
    refine zT.run [(.aload_n 0, 0, 0, 0)] (pe := 34) (ls' := [some (.retAddr d), some (.int 1)]) (st' := [.retAddr d]) (M' := zM0) (by decide +kernel) rfl ?_
    refine zT.xgetM (idx := 78) (zKdM d hd).1.2 rfl (zIn (w := 5175) (by decide +kernel) rfl) (by decide +kernel) ?_
    exact zT.iret (ty := Jvm.ClassFile.FieldType.int) rfl rfl rfl rfl (by decide +kernel)
  · refine zT.tabEq (v := 2) rfl (tgt := 38) (off := 37) (dflt := 42) (lo := 0) (hi := 2) (offs := #[27, 32, 37]) (len := 27) (by decide +kernel) (by decide) (by decide) (by decide) (by decide) ?_
    refine zT.run [(.aload_n 0, 0, 0, 0)] (pe := 39) (ls' := [some (.retAddr d), some (.int 2)]) (st' := [.retAddr d]) (M' := zM0) (by decide +kernel) rfl ?_
    refine zT.xgetM (idx := 81) (zKdM d hd).2.1.1 rfl (zIn (w := 5176) (by decide +kernel) rfl) (by decide +kernel) ?_
    exact zT.iret (ty := Jvm.ClassFile.FieldType.int) rfl rfl rfl rfl (by decide +kernel)
theorem k_X2_kindAt : zOk0 yy_X2_kindAt 1 := ⟨zIn (w := 4047) (by decide +kernel) rfl, zIn (w := 4045) (by decide +kernel) rfl, by decide +kernel, by decide +kernel⟩
noncomputable abbrev yy_Jx29ce0_ordinal_8abf5 : zY := (yJx29ce0_ordinal_8abf5, cJx29ce0_ordinal_8abf5, 1, (some Jvm.ClassFile.FieldType.int), 0, 0)
set_option maxRecDepth 100000 in
theorem c_ordinal (d : Nat) (hd : d < 15) : zC0 yy_Jx29ce0_ordinal_8abf5 [.retAddr d] (some (.int (nI d))) := by
  refine zC0.of (by decide +kernel) rfl (Nat.le_of_ble_eq_true rfl) ?_
  refine zT.run [(.aload_n 0, 0, 0, 0)] (pe := 1) (ls' := [some (.retAddr d)]) (st' := [.retAddr d]) (M' := zM0) (by decide +kernel) rfl ?_
  refine zT.xgetM (idx := 7) (zKdM d hd).2.1.2 rfl (zIn (w := 5177) (by decide +kernel) rfl) (by decide +kernel) ?_
  exact zT.iret (ty := Jvm.ClassFile.FieldType.int) rfl rfl rfl rfl (by decide +kernel)
theorem k_Jx29ce0_ordinal_8abf5 : zOk0 yy_Jx29ce0_ordinal_8abf5 0 := ⟨zIn (w := 4059) (by decide +kernel) rfl, zIn (w := 4058) (by decide +kernel) rfl, by decide +kernel, by decide +kernel⟩
noncomputable abbrev yy_X5_readNumber : zY := (yX5_readNumber, cX5_readNumber, 4, (some Jvm.ClassFile.FieldType.int), 2, 40)
noncomputable def g_X5_readNumber (M : zM) (ty : Nat) (p : Nat) (k : Nat) (rp : Int32) : Int32 × zM := (if (g_X8_isNumber (zPl M 1)) = 0 then (1, M) else (if (g_X9_fits (M 1 5) k) = 0 then (2, M) else (if (nI k) = 7 then (if (M 1 5) < rp then (0, (zPs (zU M 3 p (M 1 5)) 1 2 (g_X8_advance (zPl (zU M 3 p (M 1 5)) 1) ty))) else (2, M)) else (0, (zPs (zU M 3 p (M 1 5)) 1 2 (g_X8_advance (zPl (zU M 3 p (M 1 5)) 1) ty))))))
set_option maxRecDepth 100000 in
theorem c_X5_readNumber (M : zM) (ty : Nat) (p : Nat) (k : Nat) (rp : Int32) (h600 : ty ≤ 600) (htk : zTq ty (zPl M 1)) (h_p : p < 3) (h_k : k < 8) : zC yy_X5_readNumber 0 0 [.ref 0, .int (nI p), .int (nI k), .int rp] sh_Opener M (some (.int (g_X5_readNumber M ty p k rp).1)) sh_Opener (g_X5_readNumber M ty p k rp).2 := by
  refine zC.of (by decide +kernel) rfl (Nat.le_of_ble_eq_true rfl) ?_
  refine zT.run [(.aload_n 0, 0, 0, 0), (.getfield 12, 3, 0, 1070)] (pe := 4) (ls' := [some (.ref 0), some (.int (nI p)), some (.int (nI k)), some (.int rp)]) (st' := [.ref 1]) (M' := M) (by decide +kernel) rfl ?_
  refine zT.cV_pure 1 (o := 0) (idx := 88) (av := []) (rv := (some (.int (g_X8_isNumber (zPl M 1))))) (st := []) (S1 := [.int (g_X8_isNumber (zPl M 1))]) (c_X8_isNumber (zPl M 1)) sub_Opener_1_Text k_X8_isNumber _ _ rfl rfl rfl (zIn (w := 4014) (by decide +kernel) rfl) (by decide +kernel) (by decide +kernel) rfl (Nat.le_of_ble_eq_true rfl) rfl ?_
  refine zT.zne (tgt := 12) (off := 5) (by decide +kernel) (by decide) (fun (c1 : ¬ (g_X8_isNumber (zPl M 1)) = 0) => ?_) (fun (c1 : (g_X8_isNumber (zPl M 1)) = 0) => ?_)
  · skip
    refine zT.run [(.aload_n 0, 0, 0, 0), (.getfield 12, 3, 0, 1070), (.getfield 91, 6, 5, 1055), (.iload_n 2, 0, 0, 0)] (pe := 20) (ls' := [some (.ref 0), some (.int (nI p)), some (.int (nI k)), some (.int rp)]) (st' := [.int (nI k), .int (M 1 5)]) (M' := M) (by decide +kernel) rfl ?_
    refine zT.cN_nil "SealedBallots" (idx := 94) (av := [.int (M 1 5), .int (nI k)]) (rv := (some (.int (g_X9_fits (M 1 5) k)))) (st := []) (S1 := [.int (g_X9_fits (M 1 5) k)]) (c_X9_fits (M 1 5) k (by omega)) k_X9_fits rfl (zInN (w := 4018) (by decide +kernel) rfl) (by decide +kernel) (by decide +kernel) rfl (Nat.le_of_ble_eq_true rfl) rfl ?_
    refine zT.zeq (tgt := 43) (off := 20) (by decide +kernel) (by decide) (fun (c2 : (g_X9_fits (M 1 5) k) = 0) => ?_) (fun (c2 : ¬ (g_X9_fits (M 1 5) k) = 0) => ?_)
    · skip
      refine zT.run [(.iconst 2, 0, 0, 0)] (pe := 44) (ls' := [some (.ref 0), some (.int (nI p)), some (.int (nI k)), some (.int rp)]) (st' := [.int 2]) (M' := M) (by decide +kernel) rfl ?_
      exact zT.iret (ty := Jvm.ClassFile.FieldType.int) (by simp only [g_X5_readNumber, if_neg c1, if_pos c2]; try rfl) (by simp only [g_X5_readNumber, if_neg c1, if_pos c2]; try rfl) rfl rfl (by decide +kernel)
    · skip
      refine zT.run [(.iload_n 2, 0, 0, 0), (.bipush 7, 0, 0, 0)] (pe := 29) (ls' := [some (.ref 0), some (.int (nI p)), some (.int (nI k)), some (.int rp)]) (st' := [.int 7, .int (nI k)]) (M' := M) (by decide +kernel) rfl ?_
      refine zT.cne (tgt := 45) (off := 16) (by decide +kernel) (by decide) (fun (c3 : ¬ (nI k) = 7) => ?_) (fun (c3 : (nI k) = 7) => ?_)
      · skip
        refine zT.run [(.aload_n 0, 0, 0, 0), (.getfield 18, 3, 1, 1072), (.iload_n 1, 0, 0, 0), (.aload_n 0, 0, 0, 0), (.getfield 12, 3, 0, 1070), (.getfield 91, 6, 5, 1055)] (pe := 57) (ls' := [some (.ref 0), some (.int (nI p)), some (.int (nI k)), some (.int rp)]) (st' := [.int (M 1 5), .int (nI p), .ref 3]) (M' := M) (by decide +kernel) rfl ?_
        refine zT.iast (n := 3) (k := p) rfl rfl (by omega) (by decide) (by decide +kernel) ?_
        refine zT.run [(.aload_n 0, 0, 0, 0), (.getfield 12, 3, 0, 1070)] (pe := 62) (ls' := [some (.ref 0), some (.int (nI p)), some (.int (nI k)), some (.int rp)]) (st' := [.ref 1]) (M' := (zU M 3 p (M 1 5))) (by decide +kernel) rfl ?_
        refine zT.cV_sub 1 (o := 0) (idx := 54) (av := []) (rv := none) (st := []) (S1 := []) (c_X8_advance (zPl (zU M 3 p (M 1 5)) 1) ty h600 (zTq.e htk)) sub_Opener_1_Text k_X8_advance _ _ rfl rfl rfl (zIn (w := 4004) (by decide +kernel) rfl) (by decide +kernel) (by decide +kernel) rfl (Nat.le_of_ble_eq_true rfl) rfl ?_
        refine zT.run [(.iconst 0, 0, 0, 0)] (pe := 66) (ls' := [some (.ref 0), some (.int (nI p)), some (.int (nI k)), some (.int rp)]) (st' := [.int 0]) (M' := (zPs (zU M 3 p (M 1 5)) 1 2 (g_X8_advance (zPl (zU M 3 p (M 1 5)) 1) ty))) (by decide +kernel) rfl ?_
        exact zT.iret (ty := Jvm.ClassFile.FieldType.int) (by simp only [g_X5_readNumber, if_neg c1, if_neg c2, if_neg c3]; try rfl) (by simp only [g_X5_readNumber, if_neg c1, if_neg c2, if_neg c3]; try rfl) rfl rfl (by decide +kernel)
      · skip
        refine zT.run [(.aload_n 0, 0, 0, 0), (.getfield 12, 3, 0, 1070), (.getfield 91, 6, 5, 1055), (.iload_n 3, 0, 0, 0)] (pe := 40) (ls' := [some (.ref 0), some (.int (nI p)), some (.int (nI k)), some (.int rp)]) (st' := [.int rp, .int (M 1 5)]) (M' := M) (by decide +kernel) rfl ?_
        refine zT.clt (tgt := 45) (off := 5) (by decide +kernel) (by decide) (fun (c4 : (M 1 5) < rp) => ?_) (fun (c4 : ¬ (M 1 5) < rp) => ?_)
        · skip
          refine zT.run [(.aload_n 0, 0, 0, 0), (.getfield 18, 3, 1, 1072), (.iload_n 1, 0, 0, 0), (.aload_n 0, 0, 0, 0), (.getfield 12, 3, 0, 1070), (.getfield 91, 6, 5, 1055)] (pe := 57) (ls' := [some (.ref 0), some (.int (nI p)), some (.int (nI k)), some (.int rp)]) (st' := [.int (M 1 5), .int (nI p), .ref 3]) (M' := M) (by decide +kernel) rfl ?_
          refine zT.iast (n := 3) (k := p) rfl rfl (by omega) (by decide) (by decide +kernel) ?_
          refine zT.run [(.aload_n 0, 0, 0, 0), (.getfield 12, 3, 0, 1070)] (pe := 62) (ls' := [some (.ref 0), some (.int (nI p)), some (.int (nI k)), some (.int rp)]) (st' := [.ref 1]) (M' := (zU M 3 p (M 1 5))) (by decide +kernel) rfl ?_
          refine zT.cV_sub 1 (o := 0) (idx := 54) (av := []) (rv := none) (st := []) (S1 := []) (c_X8_advance (zPl (zU M 3 p (M 1 5)) 1) ty h600 (zTq.e htk)) sub_Opener_1_Text k_X8_advance _ _ rfl rfl rfl (zIn (w := 4004) (by decide +kernel) rfl) (by decide +kernel) (by decide +kernel) rfl (Nat.le_of_ble_eq_true rfl) rfl ?_
          refine zT.run [(.iconst 0, 0, 0, 0)] (pe := 66) (ls' := [some (.ref 0), some (.int (nI p)), some (.int (nI k)), some (.int rp)]) (st' := [.int 0]) (M' := (zPs (zU M 3 p (M 1 5)) 1 2 (g_X8_advance (zPl (zU M 3 p (M 1 5)) 1) ty))) (by decide +kernel) rfl ?_
          exact zT.iret (ty := Jvm.ClassFile.FieldType.int) (by simp only [g_X5_readNumber, if_neg c1, if_neg c2, if_pos c3, if_pos c4]; try rfl) (by simp only [g_X5_readNumber, if_neg c1, if_neg c2, if_pos c3, if_pos c4]; try rfl) rfl rfl (by decide +kernel)
        · skip
          refine zT.run [(.iconst 2, 0, 0, 0)] (pe := 44) (ls' := [some (.ref 0), some (.int (nI p)), some (.int (nI k)), some (.int rp)]) (st' := [.int 2]) (M' := M) (by decide +kernel) rfl ?_
          exact zT.iret (ty := Jvm.ClassFile.FieldType.int) (by simp only [g_X5_readNumber, if_neg c1, if_neg c2, if_pos c3, if_neg c4]; try rfl) (by simp only [g_X5_readNumber, if_neg c1, if_neg c2, if_pos c3, if_neg c4]; try rfl) rfl rfl (by decide +kernel)
  · skip
    refine zT.run [(.iconst 1, 0, 0, 0)] (pe := 11) (ls' := [some (.ref 0), some (.int (nI p)), some (.int (nI k)), some (.int rp)]) (st' := [.int 1]) (M' := M) (by decide +kernel) rfl ?_
    exact zT.iret (ty := Jvm.ClassFile.FieldType.int) (by simp only [g_X5_readNumber, if_pos c1]; try rfl) (by simp only [g_X5_readNumber, if_pos c1]; try rfl) rfl rfl (by decide +kernel)
theorem fr_X5_readNumber (M : zM) (ty : Nat) (p : Nat) (k : Nat) (rp : Int32) (o : Nat) (ho : o ≠ 1 ∧ o ≠ 3) : (g_X5_readNumber M ty p k rp).2 o = M o := by
  simp only [g_X5_readNumber]
  (repeat' split) <;> simp only [zU_ne ho.1, zU_ne ho.2, zUa_ne ho.1, zUa_ne ho.2, (fun (MM : zM) (ty : Nat) => zPs_fr (M := MM) (b := 1) (n := 2) (N := (g_X8_advance (zPl MM 1) ty)) (o := o) (fun j hj e => fr_X8_advance (zPl MM 1) ty j (by omega)))]
theorem k_X5_readNumber : zCal yy_X5_readNumber 3 := ⟨⟨⟨⟨zIn (w := 4013) (by decide +kernel) rfl, zIn (w := 1002) (by decide +kernel) rfl⟩, by decide +kernel⟩, by decide +kernel⟩, ⟨zIn (w := 4012) (by decide +kernel) rfl, zIn (w := 10) (by decide +kernel) rfl⟩⟩
theorem e_X5_readNumber (M : zM) (ty p k : Nat) (rp : Int32) (h600 : ty ≤ 600) (h : zTq ty (zPl M 1)) : zTq ty (zPl (g_X5_readNumber M ty p k rp).2 1) := by
  unfold g_X5_readNumber
  (repeat' split) <;> first
    | exact h
    | exact zTq.of (m := g_X8_advance (zPl (zU M 3 p (M 1 5)) 1) ty) (e_X8_advance _ ty h600 (zTq.e h)) rfl
noncomputable abbrev yy_X5_readReplica : zY := (yX5_readReplica, cX5_readReplica, 3, (some Jvm.ClassFile.FieldType.int), 3, 63)
noncomputable def d_X5_readReplica_2 (M : zM) (ty : Nat) (rp : Int32) : Int32 × zM := (g_X5_readNumber (zPs M 1 2 (g_X8_advance (zPl M 1) ty)) ty 0 5 rp)
noncomputable def d_X5_readReplica_3 (M : zM) (ty : Nat) (rp : Int32) : Int32 × zM := (g_X5_readNumber (d_X5_readReplica_2 M ty rp).2 ty 1 6 rp)
noncomputable def g_X5_readReplica (M : zM) (ty : Nat) (rp : Int32) : Int32 × zM := (if rp < 9 then (if (d_X5_readReplica_2 M ty rp).1 = 0 then (if (d_X5_readReplica_3 M ty rp).1 = 0 then (if (g_X8_isSemicolon (zPl (d_X5_readReplica_3 M ty rp).2 1)) = 0 then (1, (d_X5_readReplica_3 M ty rp).2) else ((d_X5_readReplica_3 M ty rp).1, (d_X5_readReplica_3 M ty rp).2)) else ((d_X5_readReplica_3 M ty rp).1, (d_X5_readReplica_3 M ty rp).2)) else ((d_X5_readReplica_2 M ty rp).1, (d_X5_readReplica_2 M ty rp).2)) else (3, M))
set_option maxRecDepth 100000 in
theorem c_X5_readReplica (M : zM) (ty : Nat) (rp : Int32) (h600 : ty ≤ 600) (htk : zTq ty (zPl M 1)) : zC yy_X5_readReplica 0 0 [.ref 0, .int rp] sh_Opener M (some (.int (g_X5_readReplica M ty rp).1)) sh_Opener (g_X5_readReplica M ty rp).2 := by
  refine zC.of (by decide +kernel) rfl (Nat.le_of_ble_eq_true rfl) ?_
  refine zT.run [(.iload_n 1, 0, 0, 0), (.bipush 9, 0, 0, 0)] (pe := 3) (ls' := [some (.ref 0), some (.int rp), none]) (st' := [.int 9, .int rp]) (M' := M) (by decide +kernel) rfl ?_
  refine zT.clt (tgt := 8) (off := 5) (by decide +kernel) (by decide) (fun (c1 : rp < 9) => ?_) (fun (c1 : ¬ rp < 9) => ?_)
  · skip
    refine zT.run [(.aload_n 0, 0, 0, 0), (.getfield 12, 3, 0, 1070)] (pe := 12) (ls' := [some (.ref 0), some (.int rp), none]) (st' := [.ref 1]) (M' := M) (by decide +kernel) rfl ?_
    refine zT.cV_sub 1 (o := 0) (idx := 54) (av := []) (rv := none) (st := []) (S1 := []) (c_X8_advance (zPl M 1) ty h600 (zTq.e htk)) sub_Opener_1_Text k_X8_advance _ _ rfl rfl rfl (zIn (w := 4004) (by decide +kernel) rfl) (by decide +kernel) (by decide +kernel) rfl (Nat.le_of_ble_eq_true rfl) rfl ?_
    refine zT.run [(.aload_n 0, 0, 0, 0), (.iconst 0, 0, 0, 0), (.iconst 5, 0, 0, 0), (.iload_n 1, 0, 0, 0)] (pe := 19) (ls' := [some (.ref 0), some (.int rp), none]) (st' := [.int rp, .int 5, .int 0, .ref 0]) (M' := (zPs M 1 2 (g_X8_advance (zPl M 1) ty))) (by decide +kernel) rfl ?_
    refine zT.cV_all (o := 0) (idx := 76) (av := [.int (nI 0), .int (nI 5), .int rp]) (rv := (some (.int (g_X5_readNumber (zPs M 1 2 (g_X8_advance (zPl M 1) ty)) ty 0 5 rp).1))) (st := []) (S1 := [.int (g_X5_readNumber (zPs M 1 2 (g_X8_advance (zPl M 1) ty)) ty 0 5 rp).1]) (c_X5_readNumber (zPs M 1 2 (g_X8_advance (zPl M 1) ty)) ty 0 5 rp h600 (zTq.of (m := (g_X8_advance (zPl M 1) ty)) (e_X8_advance _ ty h600 (zTq.e htk)) rfl) (by decide) (by decide)) k_X5_readNumber _ _ rfl rfl rfl (zIn (w := 4010) (by decide +kernel) rfl) (by decide +kernel) (by decide +kernel) rfl (Nat.le_of_ble_eq_true rfl) rfl ?_
    obtain ⟨v2, hv2⟩ : ∃ v, v = (g_X5_readNumber (zPs M 1 2 (g_X8_advance (zPl M 1) ty)) ty 0 5 rp) := ⟨_, rfl⟩
    rw [← hv2]
    have ev2 : (d_X5_readReplica_2 M ty rp) = v2 := by unfold d_X5_readReplica_2; exact hv2.symm
    have tqv2 : zTq ty (zPl v2.2 1) := by rw [hv2]; exact (e_X5_readNumber _ ty _ _ _ h600 (zTq.of (m := (g_X8_advance (zPl M 1) ty)) (e_X8_advance _ ty h600 (zTq.e htk)) rfl))
    refine zT.run [(.istore_n 2, 0, 0, 0), (.iload_n 2, 0, 0, 0)] (pe := 24) (ls' := [some (.ref 0), some (.int rp), some (.int v2.1)]) (st' := [.int v2.1]) (M' := v2.2) (by decide +kernel) rfl ?_
    refine zT.zne (tgt := 36) (off := 12) (by decide +kernel) (by decide) (fun (c2 : ¬ v2.1 = 0) => ?_) (fun (c2 : v2.1 = 0) => ?_)
    · skip
      refine zT.run [(.iload_n 2, 0, 0, 0)] (pe := 37) (ls' := [some (.ref 0), some (.int rp), some (.int v2.1)]) (st' := [.int v2.1]) (M' := v2.2) (by decide +kernel) rfl ?_
      refine zT.zne (tgt := 54) (off := 17) (by decide +kernel) (by decide) (fun _ => ?_) (fun c => absurd c c2)
      refine zT.run [(.iload_n 2, 0, 0, 0)] (pe := 55) (ls' := [some (.ref 0), some (.int rp), some (.int v2.1)]) (st' := [.int v2.1]) (M' := v2.2) (by decide +kernel) rfl ?_
      exact zT.iret (ty := Jvm.ClassFile.FieldType.int) (by unfold g_X5_readReplica; (try rw [ev2]); first | done | rw [if_pos c1, if_neg c2] | rfl) (by unfold g_X5_readReplica; (try rw [ev2]); first | done | rw [if_pos c1, if_neg c2] | rfl) rfl rfl (by decide +kernel)
    · skip
      refine zT.run [(.aload_n 0, 0, 0, 0), (.iconst 1, 0, 0, 0), (.bipush 6, 0, 0, 0), (.iload_n 1, 0, 0, 0)] (pe := 32) (ls' := [some (.ref 0), some (.int rp), some (.int v2.1)]) (st' := [.int rp, .int 6, .int 1, .ref 0]) (M' := v2.2) (by decide +kernel) rfl ?_
      refine zT.cV_all (o := 0) (idx := 76) (av := [.int (nI 1), .int (nI 6), .int rp]) (rv := (some (.int (g_X5_readNumber v2.2 ty 1 6 rp).1))) (st := []) (S1 := [.int (g_X5_readNumber v2.2 ty 1 6 rp).1]) (c_X5_readNumber v2.2 ty 1 6 rp h600 tqv2 (by decide) (by decide)) k_X5_readNumber _ _ rfl rfl rfl (zIn (w := 4010) (by decide +kernel) rfl) (by decide +kernel) (by decide +kernel) rfl (Nat.le_of_ble_eq_true rfl) rfl ?_
      obtain ⟨v3, hv3⟩ : ∃ v, v = (g_X5_readNumber v2.2 ty 1 6 rp) := ⟨_, rfl⟩
      rw [← hv3]
      have ev3 : (d_X5_readReplica_3 M ty rp) = v3 := by unfold d_X5_readReplica_3; (try rw [ev2]); exact hv3.symm
      have tqv3 : zTq ty (zPl v3.2 1) := by rw [hv3]; exact (e_X5_readNumber _ ty _ _ _ h600 tqv2)
      refine zT.run [(.istore_n 2, 0, 0, 0), (.iload_n 2, 0, 0, 0)] (pe := 37) (ls' := [some (.ref 0), some (.int rp), some (.int v3.1)]) (st' := [.int v3.1]) (M' := v3.2) (by decide +kernel) rfl ?_
      refine zT.zne (tgt := 54) (off := 17) (by decide +kernel) (by decide) (fun (c3 : ¬ v3.1 = 0) => ?_) (fun (c3 : v3.1 = 0) => ?_)
      · skip
        refine zT.run [(.iload_n 2, 0, 0, 0)] (pe := 55) (ls' := [some (.ref 0), some (.int rp), some (.int v3.1)]) (st' := [.int v3.1]) (M' := v3.2) (by decide +kernel) rfl ?_
        exact zT.iret (ty := Jvm.ClassFile.FieldType.int) (by unfold g_X5_readReplica; (try rw [ev2]); (try rw [ev3]); first | done | rw [if_pos c1, if_pos c2, if_neg c3] | rfl) (by unfold g_X5_readReplica; (try rw [ev2]); (try rw [ev3]); first | done | rw [if_pos c1, if_pos c2, if_neg c3] | rfl) rfl rfl (by decide +kernel)
      · skip
        refine zT.run [(.aload_n 0, 0, 0, 0), (.getfield 12, 3, 0, 1070)] (pe := 44) (ls' := [some (.ref 0), some (.int rp), some (.int v3.1)]) (st' := [.ref 1]) (M' := v3.2) (by decide +kernel) rfl ?_
        refine zT.cV_pure 1 (o := 0) (idx := 80) (av := []) (rv := (some (.int (g_X8_isSemicolon (zPl v3.2 1))))) (st := []) (S1 := [.int (g_X8_isSemicolon (zPl v3.2 1))]) (c_X8_isSemicolon (zPl v3.2 1)) sub_Opener_1_Text k_X8_isSemicolon _ _ rfl rfl rfl (zIn (w := 4025) (by decide +kernel) rfl) (by decide +kernel) (by decide +kernel) rfl (Nat.le_of_ble_eq_true rfl) rfl ?_
        refine zT.zne (tgt := 54) (off := 7) (by decide +kernel) (by decide) (fun (c4 : ¬ (g_X8_isSemicolon (zPl v3.2 1)) = 0) => ?_) (fun (c4 : (g_X8_isSemicolon (zPl v3.2 1)) = 0) => ?_)
        · skip
          refine zT.run [(.iload_n 2, 0, 0, 0)] (pe := 55) (ls' := [some (.ref 0), some (.int rp), some (.int v3.1)]) (st' := [.int v3.1]) (M' := v3.2) (by decide +kernel) rfl ?_
          exact zT.iret (ty := Jvm.ClassFile.FieldType.int) (by unfold g_X5_readReplica; (try rw [ev2]); (try rw [ev3]); first | done | rw [if_pos c1, if_pos c2, if_pos c3, if_neg c4] | rfl) (by unfold g_X5_readReplica; (try rw [ev2]); (try rw [ev3]); first | done | rw [if_pos c1, if_pos c2, if_pos c3, if_neg c4] | rfl) rfl rfl (by decide +kernel)
        · skip
          refine zT.run [(.iconst 1, 0, 0, 0), (.goto 4, 0, 0, 0)] (pe := 55) (ls' := [some (.ref 0), some (.int rp), some (.int v3.1)]) (st' := [.int 1]) (M' := v3.2) (by decide +kernel) rfl ?_
          exact zT.iret (ty := Jvm.ClassFile.FieldType.int) (by unfold g_X5_readReplica; (try rw [ev2]); (try rw [ev3]); first | done | rw [if_pos c1, if_pos c2, if_pos c3, if_pos c4] | rfl) (by unfold g_X5_readReplica; (try rw [ev2]); (try rw [ev3]); first | done | rw [if_pos c1, if_pos c2, if_pos c3, if_pos c4] | rfl) rfl rfl (by decide +kernel)
  · skip
    refine zT.run [(.iconst 3, 0, 0, 0)] (pe := 7) (ls' := [some (.ref 0), some (.int rp), none]) (st' := [.int 3]) (M' := M) (by decide +kernel) rfl ?_
    exact zT.iret (ty := Jvm.ClassFile.FieldType.int) (by simp only [g_X5_readReplica, if_neg c1]; try rfl) (by simp only [g_X5_readReplica, if_neg c1]; try rfl) rfl rfl (by decide +kernel)
theorem fr_X5_readReplica (M : zM) (ty : Nat) (rp : Int32) (o : Nat) (ho : o ≠ 1 ∧ o ≠ 3) : (g_X5_readReplica M ty rp).2 o = M o := by
  simp only [g_X5_readReplica]
  (repeat' split) <;> simp only [zU_ne ho.1, zU_ne ho.2, zUa_ne ho.1, zUa_ne ho.2, d_X5_readReplica_2, (fun (MM : zM) (ty : Nat) (p : Nat) (k : Nat) (rp : Int32) => fr_X5_readNumber MM ty p k rp o (by omega)), (fun (MM : zM) (ty : Nat) => zPs_fr (M := MM) (b := 1) (n := 2) (N := (g_X8_advance (zPl MM 1) ty)) (o := o) (fun j hj e => fr_X8_advance (zPl MM 1) ty j (by omega))), d_X5_readReplica_3]
theorem k_X5_readReplica : zCal yy_X5_readReplica 1 := ⟨⟨⟨⟨zIn (w := 4009) (by decide +kernel) rfl, zIn (w := 1002) (by decide +kernel) rfl⟩, by decide +kernel⟩, by decide +kernel⟩, ⟨zIn (w := 4008) (by decide +kernel) rfl, zIn (w := 9) (by decide +kernel) rfl⟩⟩
theorem e_X5_readReplica (M : zM) (ty : Nat) (rp : Int32) (h600 : ty ≤ 600) (h : zTq ty (zPl M 1)) : zTq ty (zPl (g_X5_readReplica M ty rp).2 1) := by
  have h1 : zTq ty (zPl (zPs M 1 2 (g_X8_advance (zPl M 1) ty)) 1) := zTq.of (m := g_X8_advance (zPl M 1) ty) (e_X8_advance _ ty h600 (zTq.e h)) rfl
  have h2 : zTq ty (zPl (d_X5_readReplica_2 M ty rp).2 1) := e_X5_readNumber _ ty _ _ _ h600 h1
  have h3 : zTq ty (zPl (d_X5_readReplica_3 M ty rp).2 1) := e_X5_readNumber _ ty _ _ _ h600 h2
  unfold g_X5_readReplica
  (repeat' split) <;> (dsimp only; with_reducible assumption)
noncomputable abbrev yy_X5_readDeed : zY := (yX5_readDeed, cX5_readDeed, 5, (some Jvm.ClassFile.FieldType.int), 3, 63)
noncomputable def d_X5_readDeed_2 (M : zM) (ty : Nat) (d : Nat) (rp : Int32) : Int32 × zM := (g_X5_readNumber (zPs M 1 2 (g_X8_advance (zPl M 1) ty)) ty 0 (zKd d 0).toNatClampNeg rp)
noncomputable def d_X5_readDeed_3 (M : zM) (ty : Nat) (d : Nat) (rp : Int32) : Int32 × zM := (g_X5_readNumber (d_X5_readDeed_2 M ty d rp).2 ty 1 (zKd d 1).toNatClampNeg rp)
noncomputable def d_X5_readDeed_4 (M : zM) (ty : Nat) (d : Nat) (rp : Int32) : Int32 × zM := (g_X5_readNumber (d_X5_readDeed_3 M ty d rp).2 ty 2 (zKd d 2).toNatClampNeg rp)
noncomputable def g_X5_readDeed (M : zM) (ty : Nat) (d : Nat) (rp : Int32) : Int32 × zM := (if (zKd d 0) = (-1) then (if (g_X8_isSemicolon (zPl (zPs M 1 2 (g_X8_advance (zPl M 1) ty)) 1)) = 0 then (1, (zPs M 1 2 (g_X8_advance (zPl M 1) ty))) else (0, (zPs M 1 2 (g_X8_advance (zPl M 1) ty)))) else (if (d_X5_readDeed_2 M ty d rp).1 = 0 then (if (zKd d 1) = (-1) then (if (g_X8_isSemicolon (zPl (d_X5_readDeed_2 M ty d rp).2 1)) = 0 then (1, (d_X5_readDeed_2 M ty d rp).2) else ((d_X5_readDeed_2 M ty d rp).1, (d_X5_readDeed_2 M ty d rp).2)) else (if (d_X5_readDeed_3 M ty d rp).1 = 0 then (if (zKd d 2) = (-1) then (if (g_X8_isSemicolon (zPl (d_X5_readDeed_3 M ty d rp).2 1)) = 0 then (1, (d_X5_readDeed_3 M ty d rp).2) else ((d_X5_readDeed_3 M ty d rp).1, (d_X5_readDeed_3 M ty d rp).2)) else (if (d_X5_readDeed_4 M ty d rp).1 = 0 then (if (g_X8_isSemicolon (zPl (d_X5_readDeed_4 M ty d rp).2 1)) = 0 then (1, (d_X5_readDeed_4 M ty d rp).2) else ((d_X5_readDeed_4 M ty d rp).1, (d_X5_readDeed_4 M ty d rp).2)) else ((d_X5_readDeed_4 M ty d rp).1, (d_X5_readDeed_4 M ty d rp).2))) else ((d_X5_readDeed_3 M ty d rp).1, (d_X5_readDeed_3 M ty d rp).2))) else ((d_X5_readDeed_2 M ty d rp).1, (d_X5_readDeed_2 M ty d rp).2)))
set_option maxRecDepth 100000 in
theorem c_X5_readDeed (M : zM) (ty : Nat) (d : Nat) (rp : Int32) (h600 : ty ≤ 600) (htk : zTq ty (zPl M 1)) (hd : d < 15) : zC yy_X5_readDeed 0 0 [.ref 0, .retAddr d, .int rp] sh_Opener M (some (.int (g_X5_readDeed M ty d rp).1)) sh_Opener (g_X5_readDeed M ty d rp).2 := by
  refine zC.of (by decide +kernel) rfl (Nat.le_of_ble_eq_true rfl) ?_
  refine zT.run [(.aload_n 0, 0, 0, 0), (.getfield 12, 3, 0, 1070)] (pe := 4) (ls' := [some (.ref 0), some (.retAddr d), some (.int rp), none, none]) (st' := [.ref 1]) (M' := M) (by decide +kernel) rfl ?_
  refine zT.cV_sub 1 (o := 0) (idx := 54) (av := []) (rv := none) (st := []) (S1 := []) (c_X8_advance (zPl M 1) ty h600 (zTq.e htk)) sub_Opener_1_Text k_X8_advance _ _ rfl rfl rfl (zIn (w := 4004) (by decide +kernel) rfl) (by decide +kernel) (by decide +kernel) rfl (Nat.le_of_ble_eq_true rfl) rfl ?_
  refine zT.run [(.iconst 0, 0, 0, 0), (.istore_n 3, 0, 0, 0), (.iconst 0, 0, 0, 0), (.istore 4, 0, 0, 0), (.iload 4, 0, 0, 0), (.iconst 3, 0, 0, 0)] (pe := 15) (ls' := [some (.ref 0), some (.retAddr d), some (.int rp), some (.int 0), some (.int 0)]) (st' := [.int 3, .int 0]) (M' := (zPs M 1 2 (g_X8_advance (zPl M 1) ty))) (by decide +kernel) rfl ?_
  refine zT.cge (tgt := 52) (off := 37) (by decide +kernel) (by decide) (fun c => absurd c (by decide)) (fun _ => ?_)
  refine zT.run [(.iload_n 3, 0, 0, 0)] (pe := 19) (ls' := [some (.ref 0), some (.retAddr d), some (.int rp), some (.int 0), some (.int 0)]) (st' := [.int 0]) (M' := (zPs M 1 2 (g_X8_advance (zPl M 1) ty))) (by decide +kernel) rfl ?_
  refine zT.zne (tgt := 52) (off := 33) (by decide +kernel) (by decide) (fun c => absurd (by decide) c) (fun _ => ?_)
  refine zT.run [(.aload_n 1, 0, 0, 0), (.iload 4, 0, 0, 0)] (pe := 25) (ls' := [some (.ref 0), some (.retAddr d), some (.int rp), some (.int 0), some (.int 0)]) (st' := [.int 0, .retAddr d]) (M' := (zPs M 1 2 (g_X8_advance (zPl M 1) ty))) (by decide +kernel) rfl ?_
  refine zTcX0 (idx := 83) (av := [.int (nI 0)]) (rv := some (.int (zKd d 0))) (st := []) (S1 := [.int (zKd d 0)]) (c_X2_kindAt d 0 hd (by decide)) k_X2_kindAt (zDeedO d hd) rfl (zIn (w := 4046) (by decide +kernel) rfl) (zIn (w := 4044) (by decide +kernel) rfl) (by decide +kernel) (by decide +kernel) rfl (Nat.le_of_ble_eq_true rfl) rfl ?_
  refine zT.run [(.iconst (-1), 0, 0, 0)] (pe := 29) (ls' := [some (.ref 0), some (.retAddr d), some (.int rp), some (.int 0), some (.int 0)]) (st' := [.int (-1), .int (zKd d 0)]) (M' := (zPs M 1 2 (g_X8_advance (zPl M 1) ty))) (by decide +kernel) rfl ?_
  refine zT.ceq (tgt := 52) (off := 23) (by decide +kernel) (by decide) (fun (c1 : (zKd d 0) = (-1)) => ?_) (fun (c1 : ¬ (zKd d 0) = (-1)) => ?_)
  · skip
    refine zT.run [(.iload_n 3, 0, 0, 0)] (pe := 53) (ls' := [some (.ref 0), some (.retAddr d), some (.int rp), some (.int 0), some (.int 0)]) (st' := [.int 0]) (M' := (zPs M 1 2 (g_X8_advance (zPl M 1) ty))) (by decide +kernel) rfl ?_
    refine zT.zne (tgt := 70) (off := 17) (by decide +kernel) (by decide) (fun c => absurd (by decide) c) (fun _ => ?_)
    refine zT.run [(.aload_n 0, 0, 0, 0), (.getfield 12, 3, 0, 1070)] (pe := 60) (ls' := [some (.ref 0), some (.retAddr d), some (.int rp), some (.int 0), some (.int 0)]) (st' := [.ref 1]) (M' := (zPs M 1 2 (g_X8_advance (zPl M 1) ty))) (by decide +kernel) rfl ?_
    refine zT.cV_pure 1 (o := 0) (idx := 80) (av := []) (rv := (some (.int (g_X8_isSemicolon (zPl (zPs M 1 2 (g_X8_advance (zPl M 1) ty)) 1))))) (st := []) (S1 := [.int (g_X8_isSemicolon (zPl (zPs M 1 2 (g_X8_advance (zPl M 1) ty)) 1))]) (c_X8_isSemicolon (zPl (zPs M 1 2 (g_X8_advance (zPl M 1) ty)) 1)) sub_Opener_1_Text k_X8_isSemicolon _ _ rfl rfl rfl (zIn (w := 4025) (by decide +kernel) rfl) (by decide +kernel) (by decide +kernel) rfl (Nat.le_of_ble_eq_true rfl) rfl ?_
    refine zT.zne (tgt := 70) (off := 7) (by decide +kernel) (by decide) (fun (c2 : ¬ (g_X8_isSemicolon (zPl (zPs M 1 2 (g_X8_advance (zPl M 1) ty)) 1)) = 0) => ?_) (fun (c2 : (g_X8_isSemicolon (zPl (zPs M 1 2 (g_X8_advance (zPl M 1) ty)) 1)) = 0) => ?_)
    · skip
      refine zT.run [(.iload_n 3, 0, 0, 0)] (pe := 71) (ls' := [some (.ref 0), some (.retAddr d), some (.int rp), some (.int 0), some (.int 0)]) (st' := [.int 0]) (M' := (zPs M 1 2 (g_X8_advance (zPl M 1) ty))) (by decide +kernel) rfl ?_
      exact zT.iret (ty := Jvm.ClassFile.FieldType.int) (by simp only [g_X5_readDeed, if_pos c1, if_neg c2]; try rfl) (by simp only [g_X5_readDeed, if_pos c1, if_neg c2]; try rfl) rfl rfl (by decide +kernel)
    · skip
      refine zT.run [(.iconst 1, 0, 0, 0), (.goto 4, 0, 0, 0)] (pe := 71) (ls' := [some (.ref 0), some (.retAddr d), some (.int rp), some (.int 0), some (.int 0)]) (st' := [.int 1]) (M' := (zPs M 1 2 (g_X8_advance (zPl M 1) ty))) (by decide +kernel) rfl ?_
      exact zT.iret (ty := Jvm.ClassFile.FieldType.int) (by simp only [g_X5_readDeed, if_pos c1, if_pos c2]; try rfl) (by simp only [g_X5_readDeed, if_pos c1, if_pos c2]; try rfl) rfl rfl (by decide +kernel)
  · skip
    refine zT.run [(.aload_n 0, 0, 0, 0), (.iload 4, 0, 0, 0), (.aload_n 1, 0, 0, 0), (.iload 4, 0, 0, 0)] (pe := 38) (ls' := [some (.ref 0), some (.retAddr d), some (.int rp), some (.int 0), some (.int 0)]) (st' := [.int 0, .retAddr d, .int 0, .ref 0]) (M' := (zPs M 1 2 (g_X8_advance (zPl M 1) ty))) (by decide +kernel) rfl ?_
    refine zTcX0 (idx := 83) (av := [.int (nI 0)]) (rv := some (.int (zKd d 0))) (st := [.int 0, .ref 0]) (S1 := [.int (zKd d 0), .int 0, .ref 0]) (c_X2_kindAt d 0 hd (by decide)) k_X2_kindAt (zDeedO d hd) rfl (zIn (w := 4046) (by decide +kernel) rfl) (zIn (w := 4044) (by decide +kernel) rfl) (by decide +kernel) (by decide +kernel) rfl (Nat.le_of_ble_eq_true rfl) rfl ?_
    refine zT.run [(.iload_n 2, 0, 0, 0)] (pe := 42) (ls' := [some (.ref 0), some (.retAddr d), some (.int rp), some (.int 0), some (.int 0)]) (st' := [.int rp, .int (zKd d 0), .int 0, .ref 0]) (M' := (zPs M 1 2 (g_X8_advance (zPl M 1) ty))) (by decide +kernel) rfl ?_
    refine zT.eqS (congrArg (fun v : Int32 => ([.int rp, .int v, .int 0, .ref 0] : List Value)) (zKdI d hd 0 (by decide) c1).1) ?_
    refine zT.cV_all (o := 0) (idx := 76) (av := [.int (nI 0), .int (nI (zKd d 0).toNatClampNeg), .int rp]) (rv := (some (.int (g_X5_readNumber (zPs M 1 2 (g_X8_advance (zPl M 1) ty)) ty 0 (zKd d 0).toNatClampNeg rp).1))) (st := []) (S1 := [.int (g_X5_readNumber (zPs M 1 2 (g_X8_advance (zPl M 1) ty)) ty 0 (zKd d 0).toNatClampNeg rp).1]) (c_X5_readNumber (zPs M 1 2 (g_X8_advance (zPl M 1) ty)) ty 0 (zKd d 0).toNatClampNeg rp h600 (zTq.of (m := (g_X8_advance (zPl M 1) ty)) (e_X8_advance _ ty h600 (zTq.e htk)) rfl) (by decide) (zKdI d hd 0 (by decide) c1).2) k_X5_readNumber _ _ rfl rfl rfl (zIn (w := 4010) (by decide +kernel) rfl) (by decide +kernel) (by decide +kernel) rfl (Nat.le_of_ble_eq_true rfl) rfl ?_
    obtain ⟨v2, hv2⟩ : ∃ v, v = (g_X5_readNumber (zPs M 1 2 (g_X8_advance (zPl M 1) ty)) ty 0 (zKd d 0).toNatClampNeg rp) := ⟨_, rfl⟩
    rw [← hv2]
    have ev2 : (d_X5_readDeed_2 M ty d rp) = v2 := by unfold d_X5_readDeed_2; exact hv2.symm
    have tqv2 : zTq ty (zPl v2.2 1) := by rw [hv2]; exact (e_X5_readNumber _ ty _ _ _ h600 (zTq.of (m := (g_X8_advance (zPl M 1) ty)) (e_X8_advance _ ty h600 (zTq.e htk)) rfl))
    refine zT.run [(.istore_n 3, 0, 0, 0), (.iinc 4 1, 0, 0, 0), (.goto (-37), 0, 0, 0), (.iload 4, 0, 0, 0), (.iconst 3, 0, 0, 0)] (pe := 15) (ls' := [some (.ref 0), some (.retAddr d), some (.int rp), some (.int v2.1), some (.int 1)]) (st' := [.int 3, .int 1]) (M' := v2.2) (by decide +kernel) rfl ?_
    refine zT.cge (tgt := 52) (off := 37) (by decide +kernel) (by decide) (fun c => absurd c (by decide)) (fun _ => ?_)
    refine zT.run [(.iload_n 3, 0, 0, 0)] (pe := 19) (ls' := [some (.ref 0), some (.retAddr d), some (.int rp), some (.int v2.1), some (.int 1)]) (st' := [.int v2.1]) (M' := v2.2) (by decide +kernel) rfl ?_
    refine zT.zne (tgt := 52) (off := 33) (by decide +kernel) (by decide) (fun (c3 : ¬ v2.1 = 0) => ?_) (fun (c3 : v2.1 = 0) => ?_)
    · skip
      refine zT.run [(.iload_n 3, 0, 0, 0)] (pe := 53) (ls' := [some (.ref 0), some (.retAddr d), some (.int rp), some (.int v2.1), some (.int 1)]) (st' := [.int v2.1]) (M' := v2.2) (by decide +kernel) rfl ?_
      refine zT.zne (tgt := 70) (off := 17) (by decide +kernel) (by decide) (fun _ => ?_) (fun c => absurd c c3)
      refine zT.run [(.iload_n 3, 0, 0, 0)] (pe := 71) (ls' := [some (.ref 0), some (.retAddr d), some (.int rp), some (.int v2.1), some (.int 1)]) (st' := [.int v2.1]) (M' := v2.2) (by decide +kernel) rfl ?_
      exact zT.iret (ty := Jvm.ClassFile.FieldType.int) (by unfold g_X5_readDeed; (try rw [ev2]); first | done | rw [if_neg c1, if_neg c3] | rfl) (by unfold g_X5_readDeed; (try rw [ev2]); first | done | rw [if_neg c1, if_neg c3] | rfl) rfl rfl (by decide +kernel)
    · skip
      refine zT.run [(.aload_n 1, 0, 0, 0), (.iload 4, 0, 0, 0)] (pe := 25) (ls' := [some (.ref 0), some (.retAddr d), some (.int rp), some (.int v2.1), some (.int 1)]) (st' := [.int 1, .retAddr d]) (M' := v2.2) (by decide +kernel) rfl ?_
      refine zTcX0 (idx := 83) (av := [.int (nI 1)]) (rv := some (.int (zKd d 1))) (st := []) (S1 := [.int (zKd d 1)]) (c_X2_kindAt d 1 hd (by decide)) k_X2_kindAt (zDeedO d hd) rfl (zIn (w := 4046) (by decide +kernel) rfl) (zIn (w := 4044) (by decide +kernel) rfl) (by decide +kernel) (by decide +kernel) rfl (Nat.le_of_ble_eq_true rfl) rfl ?_
      refine zT.run [(.iconst (-1), 0, 0, 0)] (pe := 29) (ls' := [some (.ref 0), some (.retAddr d), some (.int rp), some (.int v2.1), some (.int 1)]) (st' := [.int (-1), .int (zKd d 1)]) (M' := v2.2) (by decide +kernel) rfl ?_
      refine zT.ceq (tgt := 52) (off := 23) (by decide +kernel) (by decide) (fun (c4 : (zKd d 1) = (-1)) => ?_) (fun (c4 : ¬ (zKd d 1) = (-1)) => ?_)
      · skip
        refine zT.run [(.iload_n 3, 0, 0, 0)] (pe := 53) (ls' := [some (.ref 0), some (.retAddr d), some (.int rp), some (.int v2.1), some (.int 1)]) (st' := [.int v2.1]) (M' := v2.2) (by decide +kernel) rfl ?_
        refine zT.zne (tgt := 70) (off := 17) (by decide +kernel) (by decide) (fun c => absurd c3 c) (fun _ => ?_)
        refine zT.run [(.aload_n 0, 0, 0, 0), (.getfield 12, 3, 0, 1070)] (pe := 60) (ls' := [some (.ref 0), some (.retAddr d), some (.int rp), some (.int v2.1), some (.int 1)]) (st' := [.ref 1]) (M' := v2.2) (by decide +kernel) rfl ?_
        refine zT.cV_pure 1 (o := 0) (idx := 80) (av := []) (rv := (some (.int (g_X8_isSemicolon (zPl v2.2 1))))) (st := []) (S1 := [.int (g_X8_isSemicolon (zPl v2.2 1))]) (c_X8_isSemicolon (zPl v2.2 1)) sub_Opener_1_Text k_X8_isSemicolon _ _ rfl rfl rfl (zIn (w := 4025) (by decide +kernel) rfl) (by decide +kernel) (by decide +kernel) rfl (Nat.le_of_ble_eq_true rfl) rfl ?_
        refine zT.zne (tgt := 70) (off := 7) (by decide +kernel) (by decide) (fun (c5 : ¬ (g_X8_isSemicolon (zPl v2.2 1)) = 0) => ?_) (fun (c5 : (g_X8_isSemicolon (zPl v2.2 1)) = 0) => ?_)
        · skip
          refine zT.run [(.iload_n 3, 0, 0, 0)] (pe := 71) (ls' := [some (.ref 0), some (.retAddr d), some (.int rp), some (.int v2.1), some (.int 1)]) (st' := [.int v2.1]) (M' := v2.2) (by decide +kernel) rfl ?_
          exact zT.iret (ty := Jvm.ClassFile.FieldType.int) (by unfold g_X5_readDeed; (try rw [ev2]); first | done | rw [if_neg c1, if_pos c3, if_pos c4, if_neg c5] | rfl) (by unfold g_X5_readDeed; (try rw [ev2]); first | done | rw [if_neg c1, if_pos c3, if_pos c4, if_neg c5] | rfl) rfl rfl (by decide +kernel)
        · skip
          refine zT.run [(.iconst 1, 0, 0, 0), (.goto 4, 0, 0, 0)] (pe := 71) (ls' := [some (.ref 0), some (.retAddr d), some (.int rp), some (.int v2.1), some (.int 1)]) (st' := [.int 1]) (M' := v2.2) (by decide +kernel) rfl ?_
          exact zT.iret (ty := Jvm.ClassFile.FieldType.int) (by unfold g_X5_readDeed; (try rw [ev2]); first | done | rw [if_neg c1, if_pos c3, if_pos c4, if_pos c5] | rfl) (by unfold g_X5_readDeed; (try rw [ev2]); first | done | rw [if_neg c1, if_pos c3, if_pos c4, if_pos c5] | rfl) rfl rfl (by decide +kernel)
      · skip
        refine zT.run [(.aload_n 0, 0, 0, 0), (.iload 4, 0, 0, 0), (.aload_n 1, 0, 0, 0), (.iload 4, 0, 0, 0)] (pe := 38) (ls' := [some (.ref 0), some (.retAddr d), some (.int rp), some (.int v2.1), some (.int 1)]) (st' := [.int 1, .retAddr d, .int 1, .ref 0]) (M' := v2.2) (by decide +kernel) rfl ?_
        refine zTcX0 (idx := 83) (av := [.int (nI 1)]) (rv := some (.int (zKd d 1))) (st := [.int 1, .ref 0]) (S1 := [.int (zKd d 1), .int 1, .ref 0]) (c_X2_kindAt d 1 hd (by decide)) k_X2_kindAt (zDeedO d hd) rfl (zIn (w := 4046) (by decide +kernel) rfl) (zIn (w := 4044) (by decide +kernel) rfl) (by decide +kernel) (by decide +kernel) rfl (Nat.le_of_ble_eq_true rfl) rfl ?_
        refine zT.run [(.iload_n 2, 0, 0, 0)] (pe := 42) (ls' := [some (.ref 0), some (.retAddr d), some (.int rp), some (.int v2.1), some (.int 1)]) (st' := [.int rp, .int (zKd d 1), .int 1, .ref 0]) (M' := v2.2) (by decide +kernel) rfl ?_
        refine zT.eqS (congrArg (fun v : Int32 => ([.int rp, .int v, .int 1, .ref 0] : List Value)) (zKdI d hd 1 (by decide) c4).1) ?_
        refine zT.cV_all (o := 0) (idx := 76) (av := [.int (nI 1), .int (nI (zKd d 1).toNatClampNeg), .int rp]) (rv := (some (.int (g_X5_readNumber v2.2 ty 1 (zKd d 1).toNatClampNeg rp).1))) (st := []) (S1 := [.int (g_X5_readNumber v2.2 ty 1 (zKd d 1).toNatClampNeg rp).1]) (c_X5_readNumber v2.2 ty 1 (zKd d 1).toNatClampNeg rp h600 tqv2 (by decide) (zKdI d hd 1 (by decide) c4).2) k_X5_readNumber _ _ rfl rfl rfl (zIn (w := 4010) (by decide +kernel) rfl) (by decide +kernel) (by decide +kernel) rfl (Nat.le_of_ble_eq_true rfl) rfl ?_
        obtain ⟨v3, hv3⟩ : ∃ v, v = (g_X5_readNumber v2.2 ty 1 (zKd d 1).toNatClampNeg rp) := ⟨_, rfl⟩
        rw [← hv3]
        have ev3 : (d_X5_readDeed_3 M ty d rp) = v3 := by unfold d_X5_readDeed_3; (try rw [ev2]); exact hv3.symm
        have tqv3 : zTq ty (zPl v3.2 1) := by rw [hv3]; exact (e_X5_readNumber _ ty _ _ _ h600 tqv2)
        refine zT.run [(.istore_n 3, 0, 0, 0), (.iinc 4 1, 0, 0, 0), (.goto (-37), 0, 0, 0), (.iload 4, 0, 0, 0), (.iconst 3, 0, 0, 0)] (pe := 15) (ls' := [some (.ref 0), some (.retAddr d), some (.int rp), some (.int v3.1), some (.int 2)]) (st' := [.int 3, .int 2]) (M' := v3.2) (by decide +kernel) rfl ?_
        refine zT.cge (tgt := 52) (off := 37) (by decide +kernel) (by decide) (fun c => absurd c (by decide)) (fun _ => ?_)
        refine zT.run [(.iload_n 3, 0, 0, 0)] (pe := 19) (ls' := [some (.ref 0), some (.retAddr d), some (.int rp), some (.int v3.1), some (.int 2)]) (st' := [.int v3.1]) (M' := v3.2) (by decide +kernel) rfl ?_
        refine zT.zne (tgt := 52) (off := 33) (by decide +kernel) (by decide) (fun (c6 : ¬ v3.1 = 0) => ?_) (fun (c6 : v3.1 = 0) => ?_)
        · skip
          refine zT.run [(.iload_n 3, 0, 0, 0)] (pe := 53) (ls' := [some (.ref 0), some (.retAddr d), some (.int rp), some (.int v3.1), some (.int 2)]) (st' := [.int v3.1]) (M' := v3.2) (by decide +kernel) rfl ?_
          refine zT.zne (tgt := 70) (off := 17) (by decide +kernel) (by decide) (fun _ => ?_) (fun c => absurd c c6)
          refine zT.run [(.iload_n 3, 0, 0, 0)] (pe := 71) (ls' := [some (.ref 0), some (.retAddr d), some (.int rp), some (.int v3.1), some (.int 2)]) (st' := [.int v3.1]) (M' := v3.2) (by decide +kernel) rfl ?_
          exact zT.iret (ty := Jvm.ClassFile.FieldType.int) (by unfold g_X5_readDeed; (try rw [ev2]); (try rw [ev3]); first | done | rw [if_neg c1, if_pos c3, if_neg c4, if_neg c6] | rfl) (by unfold g_X5_readDeed; (try rw [ev2]); (try rw [ev3]); first | done | rw [if_neg c1, if_pos c3, if_neg c4, if_neg c6] | rfl) rfl rfl (by decide +kernel)
        · skip
          refine zT.run [(.aload_n 1, 0, 0, 0), (.iload 4, 0, 0, 0)] (pe := 25) (ls' := [some (.ref 0), some (.retAddr d), some (.int rp), some (.int v3.1), some (.int 2)]) (st' := [.int 2, .retAddr d]) (M' := v3.2) (by decide +kernel) rfl ?_
          refine zTcX0 (idx := 83) (av := [.int (nI 2)]) (rv := some (.int (zKd d 2))) (st := []) (S1 := [.int (zKd d 2)]) (c_X2_kindAt d 2 hd (by decide)) k_X2_kindAt (zDeedO d hd) rfl (zIn (w := 4046) (by decide +kernel) rfl) (zIn (w := 4044) (by decide +kernel) rfl) (by decide +kernel) (by decide +kernel) rfl (Nat.le_of_ble_eq_true rfl) rfl ?_
          refine zT.run [(.iconst (-1), 0, 0, 0)] (pe := 29) (ls' := [some (.ref 0), some (.retAddr d), some (.int rp), some (.int v3.1), some (.int 2)]) (st' := [.int (-1), .int (zKd d 2)]) (M' := v3.2) (by decide +kernel) rfl ?_
          refine zT.ceq (tgt := 52) (off := 23) (by decide +kernel) (by decide) (fun (c7 : (zKd d 2) = (-1)) => ?_) (fun (c7 : ¬ (zKd d 2) = (-1)) => ?_)
          · skip
            refine zT.run [(.iload_n 3, 0, 0, 0)] (pe := 53) (ls' := [some (.ref 0), some (.retAddr d), some (.int rp), some (.int v3.1), some (.int 2)]) (st' := [.int v3.1]) (M' := v3.2) (by decide +kernel) rfl ?_
            refine zT.zne (tgt := 70) (off := 17) (by decide +kernel) (by decide) (fun c => absurd c6 c) (fun _ => ?_)
            refine zT.run [(.aload_n 0, 0, 0, 0), (.getfield 12, 3, 0, 1070)] (pe := 60) (ls' := [some (.ref 0), some (.retAddr d), some (.int rp), some (.int v3.1), some (.int 2)]) (st' := [.ref 1]) (M' := v3.2) (by decide +kernel) rfl ?_
            refine zT.cV_pure 1 (o := 0) (idx := 80) (av := []) (rv := (some (.int (g_X8_isSemicolon (zPl v3.2 1))))) (st := []) (S1 := [.int (g_X8_isSemicolon (zPl v3.2 1))]) (c_X8_isSemicolon (zPl v3.2 1)) sub_Opener_1_Text k_X8_isSemicolon _ _ rfl rfl rfl (zIn (w := 4025) (by decide +kernel) rfl) (by decide +kernel) (by decide +kernel) rfl (Nat.le_of_ble_eq_true rfl) rfl ?_
            refine zT.zne (tgt := 70) (off := 7) (by decide +kernel) (by decide) (fun (c8 : ¬ (g_X8_isSemicolon (zPl v3.2 1)) = 0) => ?_) (fun (c8 : (g_X8_isSemicolon (zPl v3.2 1)) = 0) => ?_)
            · skip
              refine zT.run [(.iload_n 3, 0, 0, 0)] (pe := 71) (ls' := [some (.ref 0), some (.retAddr d), some (.int rp), some (.int v3.1), some (.int 2)]) (st' := [.int v3.1]) (M' := v3.2) (by decide +kernel) rfl ?_
              exact zT.iret (ty := Jvm.ClassFile.FieldType.int) (by unfold g_X5_readDeed; (try rw [ev2]); (try rw [ev3]); first | done | rw [if_neg c1, if_pos c3, if_neg c4, if_pos c6, if_pos c7, if_neg c8] | rfl) (by unfold g_X5_readDeed; (try rw [ev2]); (try rw [ev3]); first | done | rw [if_neg c1, if_pos c3, if_neg c4, if_pos c6, if_pos c7, if_neg c8] | rfl) rfl rfl (by decide +kernel)
            · skip
              refine zT.run [(.iconst 1, 0, 0, 0), (.goto 4, 0, 0, 0)] (pe := 71) (ls' := [some (.ref 0), some (.retAddr d), some (.int rp), some (.int v3.1), some (.int 2)]) (st' := [.int 1]) (M' := v3.2) (by decide +kernel) rfl ?_
              exact zT.iret (ty := Jvm.ClassFile.FieldType.int) (by unfold g_X5_readDeed; (try rw [ev2]); (try rw [ev3]); first | done | rw [if_neg c1, if_pos c3, if_neg c4, if_pos c6, if_pos c7, if_pos c8] | rfl) (by unfold g_X5_readDeed; (try rw [ev2]); (try rw [ev3]); first | done | rw [if_neg c1, if_pos c3, if_neg c4, if_pos c6, if_pos c7, if_pos c8] | rfl) rfl rfl (by decide +kernel)
          · skip
            refine zT.run [(.aload_n 0, 0, 0, 0), (.iload 4, 0, 0, 0), (.aload_n 1, 0, 0, 0), (.iload 4, 0, 0, 0)] (pe := 38) (ls' := [some (.ref 0), some (.retAddr d), some (.int rp), some (.int v3.1), some (.int 2)]) (st' := [.int 2, .retAddr d, .int 2, .ref 0]) (M' := v3.2) (by decide +kernel) rfl ?_
            refine zTcX0 (idx := 83) (av := [.int (nI 2)]) (rv := some (.int (zKd d 2))) (st := [.int 2, .ref 0]) (S1 := [.int (zKd d 2), .int 2, .ref 0]) (c_X2_kindAt d 2 hd (by decide)) k_X2_kindAt (zDeedO d hd) rfl (zIn (w := 4046) (by decide +kernel) rfl) (zIn (w := 4044) (by decide +kernel) rfl) (by decide +kernel) (by decide +kernel) rfl (Nat.le_of_ble_eq_true rfl) rfl ?_
            refine zT.run [(.iload_n 2, 0, 0, 0)] (pe := 42) (ls' := [some (.ref 0), some (.retAddr d), some (.int rp), some (.int v3.1), some (.int 2)]) (st' := [.int rp, .int (zKd d 2), .int 2, .ref 0]) (M' := v3.2) (by decide +kernel) rfl ?_
            refine zT.eqS (congrArg (fun v : Int32 => ([.int rp, .int v, .int 2, .ref 0] : List Value)) (zKdI d hd 2 (by decide) c7).1) ?_
            refine zT.cV_all (o := 0) (idx := 76) (av := [.int (nI 2), .int (nI (zKd d 2).toNatClampNeg), .int rp]) (rv := (some (.int (g_X5_readNumber v3.2 ty 2 (zKd d 2).toNatClampNeg rp).1))) (st := []) (S1 := [.int (g_X5_readNumber v3.2 ty 2 (zKd d 2).toNatClampNeg rp).1]) (c_X5_readNumber v3.2 ty 2 (zKd d 2).toNatClampNeg rp h600 tqv3 (by decide) (zKdI d hd 2 (by decide) c7).2) k_X5_readNumber _ _ rfl rfl rfl (zIn (w := 4010) (by decide +kernel) rfl) (by decide +kernel) (by decide +kernel) rfl (Nat.le_of_ble_eq_true rfl) rfl ?_
            obtain ⟨v4, hv4⟩ : ∃ v, v = (g_X5_readNumber v3.2 ty 2 (zKd d 2).toNatClampNeg rp) := ⟨_, rfl⟩
            rw [← hv4]
            have ev4 : (d_X5_readDeed_4 M ty d rp) = v4 := by unfold d_X5_readDeed_4; (try rw [ev3]); exact hv4.symm
            have tqv4 : zTq ty (zPl v4.2 1) := by rw [hv4]; exact (e_X5_readNumber _ ty _ _ _ h600 tqv3)
            refine zT.run [(.istore_n 3, 0, 0, 0), (.iinc 4 1, 0, 0, 0), (.goto (-37), 0, 0, 0), (.iload 4, 0, 0, 0), (.iconst 3, 0, 0, 0)] (pe := 15) (ls' := [some (.ref 0), some (.retAddr d), some (.int rp), some (.int v4.1), some (.int 3)]) (st' := [.int 3, .int 3]) (M' := v4.2) (by decide +kernel) rfl ?_
            refine zT.cge (tgt := 52) (off := 37) (by decide +kernel) (by decide) (fun _ => ?_) (fun c => absurd (by decide) c)
            refine zT.run [(.iload_n 3, 0, 0, 0)] (pe := 53) (ls' := [some (.ref 0), some (.retAddr d), some (.int rp), some (.int v4.1), some (.int 3)]) (st' := [.int v4.1]) (M' := v4.2) (by decide +kernel) rfl ?_
            refine zT.zne (tgt := 70) (off := 17) (by decide +kernel) (by decide) (fun (c9 : ¬ v4.1 = 0) => ?_) (fun (c9 : v4.1 = 0) => ?_)
            · skip
              refine zT.run [(.iload_n 3, 0, 0, 0)] (pe := 71) (ls' := [some (.ref 0), some (.retAddr d), some (.int rp), some (.int v4.1), some (.int 3)]) (st' := [.int v4.1]) (M' := v4.2) (by decide +kernel) rfl ?_
              exact zT.iret (ty := Jvm.ClassFile.FieldType.int) (by unfold g_X5_readDeed; (try rw [ev2]); (try rw [ev3]); (try rw [ev4]); first | done | rw [if_neg c1, if_pos c3, if_neg c4, if_pos c6, if_neg c7, if_neg c9] | rfl) (by unfold g_X5_readDeed; (try rw [ev2]); (try rw [ev3]); (try rw [ev4]); first | done | rw [if_neg c1, if_pos c3, if_neg c4, if_pos c6, if_neg c7, if_neg c9] | rfl) rfl rfl (by decide +kernel)
            · skip
              refine zT.run [(.aload_n 0, 0, 0, 0), (.getfield 12, 3, 0, 1070)] (pe := 60) (ls' := [some (.ref 0), some (.retAddr d), some (.int rp), some (.int v4.1), some (.int 3)]) (st' := [.ref 1]) (M' := v4.2) (by decide +kernel) rfl ?_
              refine zT.cV_pure 1 (o := 0) (idx := 80) (av := []) (rv := (some (.int (g_X8_isSemicolon (zPl v4.2 1))))) (st := []) (S1 := [.int (g_X8_isSemicolon (zPl v4.2 1))]) (c_X8_isSemicolon (zPl v4.2 1)) sub_Opener_1_Text k_X8_isSemicolon _ _ rfl rfl rfl (zIn (w := 4025) (by decide +kernel) rfl) (by decide +kernel) (by decide +kernel) rfl (Nat.le_of_ble_eq_true rfl) rfl ?_
              refine zT.zne (tgt := 70) (off := 7) (by decide +kernel) (by decide) (fun (c10 : ¬ (g_X8_isSemicolon (zPl v4.2 1)) = 0) => ?_) (fun (c10 : (g_X8_isSemicolon (zPl v4.2 1)) = 0) => ?_)
              · skip
                refine zT.run [(.iload_n 3, 0, 0, 0)] (pe := 71) (ls' := [some (.ref 0), some (.retAddr d), some (.int rp), some (.int v4.1), some (.int 3)]) (st' := [.int v4.1]) (M' := v4.2) (by decide +kernel) rfl ?_
                exact zT.iret (ty := Jvm.ClassFile.FieldType.int) (by unfold g_X5_readDeed; (try rw [ev2]); (try rw [ev3]); (try rw [ev4]); first | done | rw [if_neg c1, if_pos c3, if_neg c4, if_pos c6, if_neg c7, if_pos c9, if_neg c10] | rfl) (by unfold g_X5_readDeed; (try rw [ev2]); (try rw [ev3]); (try rw [ev4]); first | done | rw [if_neg c1, if_pos c3, if_neg c4, if_pos c6, if_neg c7, if_pos c9, if_neg c10] | rfl) rfl rfl (by decide +kernel)
              · skip
                refine zT.run [(.iconst 1, 0, 0, 0), (.goto 4, 0, 0, 0)] (pe := 71) (ls' := [some (.ref 0), some (.retAddr d), some (.int rp), some (.int v4.1), some (.int 3)]) (st' := [.int 1]) (M' := v4.2) (by decide +kernel) rfl ?_
                exact zT.iret (ty := Jvm.ClassFile.FieldType.int) (by unfold g_X5_readDeed; (try rw [ev2]); (try rw [ev3]); (try rw [ev4]); first | done | rw [if_neg c1, if_pos c3, if_neg c4, if_pos c6, if_neg c7, if_pos c9, if_pos c10] | rfl) (by unfold g_X5_readDeed; (try rw [ev2]); (try rw [ev3]); (try rw [ev4]); first | done | rw [if_neg c1, if_pos c3, if_neg c4, if_pos c6, if_neg c7, if_pos c9, if_pos c10] | rfl) rfl rfl (by decide +kernel)
theorem fr_X5_readDeed (M : zM) (ty : Nat) (d : Nat) (rp : Int32) (o : Nat) (ho : o ≠ 1 ∧ o ≠ 3) : (g_X5_readDeed M ty d rp).2 o = M o := by
  simp only [g_X5_readDeed]
  (repeat' split) <;> simp only [zU_ne ho.1, zU_ne ho.2, zUa_ne ho.1, zUa_ne ho.2, (fun (MM : zM) (ty : Nat) => zPs_fr (M := MM) (b := 1) (n := 2) (N := (g_X8_advance (zPl MM 1) ty)) (o := o) (fun j hj e => fr_X8_advance (zPl MM 1) ty j (by omega))), d_X5_readDeed_2, (fun (MM : zM) (ty : Nat) (p : Nat) (k : Nat) (rp : Int32) => fr_X5_readNumber MM ty p k rp o (by omega)), d_X5_readDeed_3, d_X5_readDeed_4]
theorem k_X5_readDeed : zCal yy_X5_readDeed 2 := ⟨⟨⟨⟨zIn (w := 4043) (by decide +kernel) rfl, zIn (w := 1002) (by decide +kernel) rfl⟩, by decide +kernel⟩, by decide +kernel⟩, ⟨zIn (w := 4042) (by decide +kernel) rfl, zIn (w := 12) (by decide +kernel) rfl⟩⟩
theorem e_X5_readDeed (M : zM) (ty d : Nat) (rp : Int32) (h600 : ty ≤ 600) (h : zTq ty (zPl M 1)) : zTq ty (zPl (g_X5_readDeed M ty d rp).2 1) := by
  have h1 : zTq ty (zPl (zPs M 1 2 (g_X8_advance (zPl M 1) ty)) 1) := zTq.of (m := g_X8_advance (zPl M 1) ty) (e_X8_advance _ ty h600 (zTq.e h)) rfl
  have h2 : zTq ty (zPl (d_X5_readDeed_2 M ty d rp).2 1) := e_X5_readNumber _ ty _ _ _ h600 h1
  have h3 : zTq ty (zPl (d_X5_readDeed_3 M ty d rp).2 1) := e_X5_readNumber _ ty _ _ _ h600 h2
  have h4 : zTq ty (zPl (d_X5_readDeed_4 M ty d rp).2 1) := e_X5_readNumber _ ty _ _ _ h600 h3
  unfold g_X5_readDeed
  (repeat' split) <;> (dsimp only; with_reducible assumption)

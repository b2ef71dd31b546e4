/-! FIELDS of a thing at any place -/
section ZGF
variable {Y : zY} {kc nc : Nat} {Z : zS → Prop} {pc : Nat} {ls : zL} {st : List Value} {sh : List va_E} {M : zM} {o : Nat}
theorem zT.getG {fb ci w idx : Nat} {fs : List Value} {v : Value} (hs : zSg sh o = some (.inr (ci, fs))) (hv : zSg fs fb = some v) (hk : zOk Y.1.cls Y.2.2.1 (.getfield idx) ci fb w pc = true) (hd : decode Y.2.1 pc = .ok (.getfield idx, 3))
    (k1 : zT Y kc nc Z (pc + 3, ls, zI v (M o fb) :: st, sh, M)) : zT Y kc nc Z (pc, ls, .ref o :: st, sh, M) := by
  have hx : zPx sh ci fb (.getfield idx) ls (.ref o :: st) M = some (ls, zI v (M o fb) :: st, M) := by simp [zPx, zGetf, hs, hv, Nat.beq_refl]
  exact zT.step (S1 := (pc + 3, ls, zI v (M o fb) :: st, sh, M)) rfl (fun p l e R s m args below meth c D cA ex A E Q cells slots as _ _ k9 => zPx_ok E hx hd hk k9) k1
theorem zT.putG {fb ci w idx : Nat} {fs : List Value} {x x9 : Int32} (hs : zSg sh o = some (.inr (ci, fs))) (hv : zSg fs fb = some (.int x9)) (hk : zOk Y.1.cls Y.2.2.1 (.putfield idx) ci fb w pc = true) (hd : decode Y.2.1 pc = .ok (.putfield idx, 3))
    (k1 : zT Y kc nc Z (pc + 3, ls, st, sh, zU M o fb x)) : zT Y kc nc Z (pc, ls, .int x :: .ref o :: st, sh, M) := by
  have hx : zPx sh ci fb (.putfield idx) ls (.int x :: .ref o :: st) M = some (ls, st, zU M o fb x) := by simp [zPx, zPutf, hs, hv, Nat.beq_refl]
  exact zT.step (S1 := (pc + 3, ls, st, sh, zU M o fb x)) rfl (fun p l e R s m args below meth c D cA ex A E Q cells slots as _ _ k9 => zPx_ok E hx hd hk k9) k1
theorem zT.lenG {t n w : Nat} {z} (hs : zSg sh o = some (.inl (t, n, z))) (ht : Nat.blt t 6 = true) (hd : decode Y.2.1 pc = .ok (.arraylength, 1))
    (k1 : zT Y kc nc Z (pc + 1, ls, .int (Int32.ofNat n) :: st, sh, M)) : zT Y kc nc Z (pc, ls, .ref o :: st, sh, M) := by
  have hx : zPx sh 0 0 .arraylength ls (.ref o :: st) M = some (ls, .int (Int32.ofNat n) :: st, M) := by simp [zPx, zLen9, hs, ht]
  exact zT.step (S1 := (pc + 1, ls, .int (Int32.ofNat n) :: st, sh, M)) rfl (fun p l e R s m args below meth c D cA ex A E Q cells slots as _ _ k9 => zPx_ok (w := w) E hx hd rfl k9) k1
end ZGF
/-! COPIES of an office, a ballot, the outcomes: from the stretch at b to the stretch at a -/
theorem zRe_re (a b : Nat) (q : va_E) : zRe a (zRe b q) = zRe (a + b) q := by
  rcases q with ⟨t, n, y | y | y | y | g⟩ | ⟨ci, fs⟩
  · rfl
  · rfl
  · rfl
  · rfl
  · show (Sum.inl _ : va_E) = Sum.inl _
    have : (fun j => Option.map (fun k => a + k) (Option.map (fun k => b + k) (g j))) = fun j => Option.map (fun k => a + b + k) (g j) := by
      funext j
      cases g j with
      | none => rfl
      | some k => show some (a + (b + k)) = some (a + b + k); rw [Nat.add_assoc]
    simp only [zRe]
    rw [this]
  · show (Sum.inr (ci, _) : va_E) = Sum.inr (ci, _)
    congr 2
    show (fs.map (zRv b)).map (zRv a) = fs.map (zRv (a + b))
    rw [List.map_map]
    apply List.map_congr_left
    intro v _
    cases v <;> simp [zRv, Nat.add_assoc]
theorem zSub.tr {sh s1 s2 : List va_E} {a j : Nat} (h1 : zSub sh a s1) (h2 : zSub s1 j s2) : zSub sh (a + j) s2 := fun k hk => by
  have e2 := h2 k hk
  have hlt : j + k < s1.length := by
    cases h : zSg s2 k with
    | none => rw [zSg_eq] at h; have := List.getElem?_eq_none_iff.mp h; omega
    | some q => rw [h] at e2; exact zSg_lt e2
  have e1 := h1 (j + k) hlt
  rw [Nat.add_assoc, e1, e2]
  cases zSg s2 k with
  | none => rfl
  | some q => show some _ = some _; rw [zRe_re]
noncomputable abbrev yy_X1_copyFrom : zY := (yX1_copyFrom, cX1_copyFrom, 2, none, 1, 60)
noncomputable def m_X1_copyFrom_1 (M : zM) (a b : Nat) : zM := (zU M a 0 (M b 0))
noncomputable def m_X1_copyFrom_2 (M : zM) (a b : Nat) : zM := (zU (m_X1_copyFrom_1 M a b) a 1 ((m_X1_copyFrom_1 M a b) b 1))
noncomputable def m_X1_copyFrom_3 (M : zM) (a b : Nat) : zM := (zU (m_X1_copyFrom_2 M a b) a 2 ((m_X1_copyFrom_2 M a b) b 2))
noncomputable def m_X1_copyFrom_4 (M : zM) (a b : Nat) : zM := (zU (m_X1_copyFrom_3 M a b) a 3 ((m_X1_copyFrom_3 M a b) b 3))
noncomputable def m_X1_copyFrom_5 (M : zM) (a b : Nat) : zM := (zU (m_X1_copyFrom_4 M a b) a 4 ((m_X1_copyFrom_4 M a b) b 4))
noncomputable def m_X1_copyFrom_6 (M : zM) (a b : Nat) : zM := (zU (m_X1_copyFrom_5 M a b) a 5 ((m_X1_copyFrom_5 M a b) b 5))
noncomputable def m_X1_copyFrom_7 (M : zM) (a b : Nat) : zM := (zU (m_X1_copyFrom_6 M a b) a 6 ((m_X1_copyFrom_6 M a b) b 6))
noncomputable def m_X1_copyFrom_8 (M : zM) (a b : Nat) : zM := (zU (m_X1_copyFrom_7 M a b) a 7 ((m_X1_copyFrom_7 M a b) b 7))
noncomputable def m_X1_copyFrom_9 (M : zM) (a b : Nat) : zM := (zUa (m_X1_copyFrom_8 M a b) (a + 1) (va_cpy ((m_X1_copyFrom_8 M a b) (b + 1)) ((m_X1_copyFrom_8 M a b) (a + 1)) 0 0 9))
noncomputable def m_X1_copyFrom_10 (M : zM) (a b : Nat) : zM := (zUa (m_X1_copyFrom_9 M a b) (a + 2) (va_cpy ((m_X1_copyFrom_9 M a b) (b + 2)) ((m_X1_copyFrom_9 M a b) (a + 2)) 0 0 9))
noncomputable def g_X1_copyFrom (M : zM) (a b : Nat) : zM := (m_X1_copyFrom_10 M a b)
set_option maxRecDepth 100000 in
theorem c_X1_copyFrom (sh : List va_E) (M : zM) (a b : Nat) (ha : zSub sh a sh_Ballot) (hb : zSub sh b sh_Ballot) : zC yy_X1_copyFrom 0 0 [.ref a, .ref b] sh M none sh (g_X1_copyFrom M a b) := by
  have ha0 : zSg sh a = some (.inr (0, [.int 0, .int 0, .int 0, .int 0, .int 0, .int 0, .int 0, .int 0, .ref (a + 1), .ref (a + 2)])) := ha 0 (by decide)
  have ha1 : zSg sh (a + 1) = some (.inl (0, 9, .inl (fun _ => 0))) := ha 1 (by decide)
  have ha2 : zSg sh (a + 2) = some (.inl (0, 9, .inl (fun _ => 0))) := ha 2 (by decide)
  have hb0 : zSg sh b = some (.inr (0, [.int 0, .int 0, .int 0, .int 0, .int 0, .int 0, .int 0, .int 0, .ref (b + 1), .ref (b + 2)])) := hb 0 (by decide)
  have hb1 : zSg sh (b + 1) = some (.inl (0, 9, .inl (fun _ => 0))) := hb 1 (by decide)
  have hb2 : zSg sh (b + 2) = some (.inl (0, 9, .inl (fun _ => 0))) := hb 2 (by decide)
  refine zC.of (by decide +kernel) rfl (Nat.le_of_ble_eq_true rfl) ?_
  refine zT.run [(.aload_n 0, 0, 0, 0), (.aload_n 1, 0, 0, 0)] (pe := 2) (ls' := [some (.ref a), some (.ref b)]) (st' := [.ref b, .ref a]) (M' := M) (by decide +kernel) rfl ?_
  refine zT.getG (idx := 22) (fb := 0) (w := 1091) hb0 rfl (by decide +kernel) (by decide +kernel) ?_
  refine zT.eqS (st2 := [.int (M b 0), .ref a]) rfl ?_
  refine zT.putG (idx := 22) (fb := 0) (w := 1091) ha0 rfl (by decide +kernel) (by decide +kernel) ?_
  refine zT.eqM (M2 := (m_X1_copyFrom_1 M a b)) rfl ?_
  refine zT.run [(.aload_n 0, 0, 0, 0), (.aload_n 1, 0, 0, 0)] (pe := 10) (ls' := [some (.ref a), some (.ref b)]) (st' := [.ref b, .ref a]) (M' := (m_X1_copyFrom_1 M a b)) (by decide +kernel) rfl ?_
  refine zT.getG (idx := 26) (fb := 1) (w := 1093) hb0 rfl (by decide +kernel) (by decide +kernel) ?_
  refine zT.eqS (st2 := [.int ((m_X1_copyFrom_1 M a b) b 1), .ref a]) rfl ?_
  refine zT.putG (idx := 26) (fb := 1) (w := 1093) ha0 rfl (by decide +kernel) (by decide +kernel) ?_
  refine zT.eqM (M2 := (m_X1_copyFrom_2 M a b)) rfl ?_
  refine zT.run [(.aload_n 0, 0, 0, 0), (.aload_n 1, 0, 0, 0)] (pe := 18) (ls' := [some (.ref a), some (.ref b)]) (st' := [.ref b, .ref a]) (M' := (m_X1_copyFrom_2 M a b)) (by decide +kernel) rfl ?_
  refine zT.getG (idx := 29) (fb := 2) (w := 1095) hb0 rfl (by decide +kernel) (by decide +kernel) ?_
  refine zT.eqS (st2 := [.int ((m_X1_copyFrom_2 M a b) b 2), .ref a]) rfl ?_
  refine zT.putG (idx := 29) (fb := 2) (w := 1095) ha0 rfl (by decide +kernel) (by decide +kernel) ?_
  refine zT.eqM (M2 := (m_X1_copyFrom_3 M a b)) rfl ?_
  refine zT.run [(.aload_n 0, 0, 0, 0), (.aload_n 1, 0, 0, 0)] (pe := 26) (ls' := [some (.ref a), some (.ref b)]) (st' := [.ref b, .ref a]) (M' := (m_X1_copyFrom_3 M a b)) (by decide +kernel) rfl ?_
  refine zT.getG (idx := 32) (fb := 3) (w := 1098) hb0 rfl (by decide +kernel) (by decide +kernel) ?_
  refine zT.eqS (st2 := [.int ((m_X1_copyFrom_3 M a b) b 3), .ref a]) rfl ?_
  refine zT.putG (idx := 32) (fb := 3) (w := 1098) ha0 rfl (by decide +kernel) (by decide +kernel) ?_
  refine zT.eqM (M2 := (m_X1_copyFrom_4 M a b)) rfl ?_
  refine zT.run [(.aload_n 0, 0, 0, 0), (.aload_n 1, 0, 0, 0)] (pe := 34) (ls' := [some (.ref a), some (.ref b)]) (st' := [.ref b, .ref a]) (M' := (m_X1_copyFrom_4 M a b)) (by decide +kernel) rfl ?_
  refine zT.getG (idx := 35) (fb := 4) (w := 1100) hb0 rfl (by decide +kernel) (by decide +kernel) ?_
  refine zT.eqS (st2 := [.int ((m_X1_copyFrom_4 M a b) b 4), .ref a]) rfl ?_
  refine zT.putG (idx := 35) (fb := 4) (w := 1100) ha0 rfl (by decide +kernel) (by decide +kernel) ?_
  refine zT.eqM (M2 := (m_X1_copyFrom_5 M a b)) rfl ?_
  refine zT.run [(.aload_n 0, 0, 0, 0), (.aload_n 1, 0, 0, 0)] (pe := 42) (ls' := [some (.ref a), some (.ref b)]) (st' := [.ref b, .ref a]) (M' := (m_X1_copyFrom_5 M a b)) (by decide +kernel) rfl ?_
  refine zT.getG (idx := 38) (fb := 5) (w := 1102) hb0 rfl (by decide +kernel) (by decide +kernel) ?_
  refine zT.eqS (st2 := [.int ((m_X1_copyFrom_5 M a b) b 5), .ref a]) rfl ?_
  refine zT.putG (idx := 38) (fb := 5) (w := 1102) ha0 rfl (by decide +kernel) (by decide +kernel) ?_
  refine zT.eqM (M2 := (m_X1_copyFrom_6 M a b)) rfl ?_
  refine zT.run [(.aload_n 0, 0, 0, 0), (.aload_n 1, 0, 0, 0)] (pe := 50) (ls' := [some (.ref a), some (.ref b)]) (st' := [.ref b, .ref a]) (M' := (m_X1_copyFrom_6 M a b)) (by decide +kernel) rfl ?_
  refine zT.getG (idx := 41) (fb := 6) (w := 1104) hb0 rfl (by decide +kernel) (by decide +kernel) ?_
  refine zT.eqS (st2 := [.int ((m_X1_copyFrom_6 M a b) b 6), .ref a]) rfl ?_
  refine zT.putG (idx := 41) (fb := 6) (w := 1104) ha0 rfl (by decide +kernel) (by decide +kernel) ?_
  refine zT.eqM (M2 := (m_X1_copyFrom_7 M a b)) rfl ?_
  refine zT.run [(.aload_n 0, 0, 0, 0), (.aload_n 1, 0, 0, 0)] (pe := 58) (ls' := [some (.ref a), some (.ref b)]) (st' := [.ref b, .ref a]) (M' := (m_X1_copyFrom_7 M a b)) (by decide +kernel) rfl ?_
  refine zT.getG (idx := 44) (fb := 7) (w := 1106) hb0 rfl (by decide +kernel) (by decide +kernel) ?_
  refine zT.eqS (st2 := [.int ((m_X1_copyFrom_7 M a b) b 7), .ref a]) rfl ?_
  refine zT.putG (idx := 44) (fb := 7) (w := 1106) ha0 rfl (by decide +kernel) (by decide +kernel) ?_
  refine zT.eqM (M2 := (m_X1_copyFrom_8 M a b)) rfl ?_
  refine zT.run [(.aload_n 1, 0, 0, 0)] (pe := 65) (ls' := [some (.ref a), some (.ref b)]) (st' := [.ref b]) (M' := (m_X1_copyFrom_8 M a b)) (by decide +kernel) rfl ?_
  refine zT.getG (idx := 9) (fb := 8) (w := 1108) hb0 rfl (by decide +kernel) (by decide +kernel) ?_
  refine zT.eqS (st2 := [.ref (b + 1)]) rfl ?_
  refine zT.run [(.iconst 0, 0, 0, 0), (.aload_n 0, 0, 0, 0)] (pe := 70) (ls' := [some (.ref a), some (.ref b)]) (st' := [.ref a, .int 0, .ref (b + 1)]) (M' := (m_X1_copyFrom_8 M a b)) (by decide +kernel) rfl ?_
  refine zT.getG (idx := 9) (fb := 8) (w := 1108) ha0 rfl (by decide +kernel) (by decide +kernel) ?_
  refine zT.eqS (st2 := [.ref (a + 1), .int 0, .ref (b + 1)]) rfl ?_
  refine zT.run [(.iconst 0, 0, 0, 0), (.bipush 9, 0, 0, 0)] (pe := 76) (ls' := [some (.ref a), some (.ref b)]) (st' := [.int 9, .int 0, .ref (a + 1), .int 0, .ref (b + 1)]) (M' := (m_X1_copyFrom_8 M a b)) (by decide +kernel) rfl ?_
  refine zT.copyi (idx := 47) (a := 0) (b := 0) (n := 9) hb1 ha1 rfl rfl rfl (by decide) (by decide) (by decide) (by decide) ⟨⟨⟨⟨zIn (w := 4168) (by decide +kernel) rfl, zLa.1⟩, zLa.2.1⟩, zLa.2.2⟩, by decide +kernel, by decide +kernel⟩ (Nat.le_of_ble_eq_true rfl) (by decide +kernel) ?_
  refine zT.eqM (M2 := (m_X1_copyFrom_9 M a b)) rfl ?_
  refine zT.run [(.aload_n 1, 0, 0, 0)] (pe := 80) (ls' := [some (.ref a), some (.ref b)]) (st' := [.ref b]) (M' := (m_X1_copyFrom_9 M a b)) (by decide +kernel) rfl ?_
  refine zT.getG (idx := 15) (fb := 9) (w := 1109) hb0 rfl (by decide +kernel) (by decide +kernel) ?_
  refine zT.eqS (st2 := [.ref (b + 2)]) rfl ?_
  refine zT.run [(.iconst 0, 0, 0, 0), (.aload_n 0, 0, 0, 0)] (pe := 85) (ls' := [some (.ref a), some (.ref b)]) (st' := [.ref a, .int 0, .ref (b + 2)]) (M' := (m_X1_copyFrom_9 M a b)) (by decide +kernel) rfl ?_
  refine zT.getG (idx := 15) (fb := 9) (w := 1109) ha0 rfl (by decide +kernel) (by decide +kernel) ?_
  refine zT.eqS (st2 := [.ref (a + 2), .int 0, .ref (b + 2)]) rfl ?_
  refine zT.run [(.iconst 0, 0, 0, 0), (.bipush 9, 0, 0, 0)] (pe := 91) (ls' := [some (.ref a), some (.ref b)]) (st' := [.int 9, .int 0, .ref (a + 2), .int 0, .ref (b + 2)]) (M' := (m_X1_copyFrom_9 M a b)) (by decide +kernel) rfl ?_
  refine zT.copyi (idx := 47) (a := 0) (b := 0) (n := 9) hb2 ha2 rfl rfl rfl (by decide) (by decide) (by decide) (by decide) ⟨⟨⟨⟨zIn (w := 4168) (by decide +kernel) rfl, zLa.1⟩, zLa.2.1⟩, zLa.2.2⟩, by decide +kernel, by decide +kernel⟩ (Nat.le_of_ble_eq_true rfl) (by decide +kernel) ?_
  refine zT.eqM (M2 := (m_X1_copyFrom_10 M a b)) rfl ?_
  exact zT.vret rfl rfl (by decide +kernel)
theorem k_X1_copyFrom : zCal yy_X1_copyFrom 1 := ⟨⟨⟨⟨zIn (w := 4167) (by decide +kernel) rfl, zIn (w := 1005) (by decide +kernel) rfl⟩, by decide +kernel⟩, by decide +kernel⟩, ⟨zIn (w := 4165) (by decide +kernel) rfl, zIn (w := 4166) (by decide +kernel) rfl⟩⟩
noncomputable abbrev yy_X6_copyFrom : zY := (yX6_copyFrom, cX6_copyFrom, 2, none, 1, 60)
noncomputable def m_X6_copyFrom_1 (M : zM) (a b : Nat) : zM := (zU M a 0 (M b 0))
noncomputable def m_X6_copyFrom_2 (M : zM) (a b : Nat) : zM := (zUa (m_X6_copyFrom_1 M a b) (a + 1) (va_cpy ((m_X6_copyFrom_1 M a b) (b + 1)) ((m_X6_copyFrom_1 M a b) (a + 1)) 0 0 96))
noncomputable def g_X6_copyFrom (M : zM) (a b : Nat) : zM := (m_X6_copyFrom_2 M a b)
set_option maxRecDepth 100000 in
theorem c_X6_copyFrom (sh : List va_E) (M : zM) (a b : Nat) (ha : zSub sh a sh_Outcomes) (hb : zSub sh b sh_Outcomes) : zC yy_X6_copyFrom 0 0 [.ref a, .ref b] sh M none sh (g_X6_copyFrom M a b) := by
  have ha0 : zSg sh a = some (.inr (4, [.int 0, .ref (a + 1)])) := ha 0 (by decide)
  have ha1 : zSg sh (a + 1) = some (.inl (0, 96, .inl (fun _ => 0))) := ha 1 (by decide)
  have hb0 : zSg sh b = some (.inr (4, [.int 0, .ref (b + 1)])) := hb 0 (by decide)
  have hb1 : zSg sh (b + 1) = some (.inl (0, 96, .inl (fun _ => 0))) := hb 1 (by decide)
  refine zC.of (by decide +kernel) rfl (Nat.le_of_ble_eq_true rfl) ?_
  refine zT.run [(.aload_n 0, 0, 0, 0), (.aload_n 1, 0, 0, 0)] (pe := 2) (ls' := [some (.ref a), some (.ref b)]) (st' := [.ref b, .ref a]) (M' := M) (by decide +kernel) rfl ?_
  refine zT.getG (idx := 15) (fb := 0) (w := 1138) hb0 rfl (by decide +kernel) (by decide +kernel) ?_
  refine zT.eqS (st2 := [.int (M b 0), .ref a]) rfl ?_
  refine zT.putG (idx := 15) (fb := 0) (w := 1138) ha0 rfl (by decide +kernel) (by decide +kernel) ?_
  refine zT.eqM (M2 := (m_X6_copyFrom_1 M a b)) rfl ?_
  refine zT.run [(.aload_n 1, 0, 0, 0)] (pe := 9) (ls' := [some (.ref a), some (.ref b)]) (st' := [.ref b]) (M' := (m_X6_copyFrom_1 M a b)) (by decide +kernel) rfl ?_
  refine zT.getG (idx := 9) (fb := 1) (w := 1140) hb0 rfl (by decide +kernel) (by decide +kernel) ?_
  refine zT.eqS (st2 := [.ref (b + 1)]) rfl ?_
  refine zT.run [(.iconst 0, 0, 0, 0), (.aload_n 0, 0, 0, 0)] (pe := 14) (ls' := [some (.ref a), some (.ref b)]) (st' := [.ref a, .int 0, .ref (b + 1)]) (M' := (m_X6_copyFrom_1 M a b)) (by decide +kernel) rfl ?_
  refine zT.getG (idx := 9) (fb := 1) (w := 1140) ha0 rfl (by decide +kernel) (by decide +kernel) ?_
  refine zT.eqS (st2 := [.ref (a + 1), .int 0, .ref (b + 1)]) rfl ?_
  refine zT.run [(.iconst 0, 0, 0, 0), (.aload_n 0, 0, 0, 0)] (pe := 19) (ls' := [some (.ref a), some (.ref b)]) (st' := [.ref a, .int 0, .ref (a + 1), .int 0, .ref (b + 1)]) (M' := (m_X6_copyFrom_1 M a b)) (by decide +kernel) rfl ?_
  refine zT.getG (idx := 9) (fb := 1) (w := 1140) ha0 rfl (by decide +kernel) (by decide +kernel) ?_
  refine zT.eqS (st2 := [.ref (a + 1), .int 0, .ref (a + 1), .int 0, .ref (b + 1)]) rfl ?_
  refine zT.lenG (w := 0) ha1 (by decide) (by decide +kernel) ?_
  refine zT.eqS (st2 := [.int 96, .int 0, .ref (a + 1), .int 0, .ref (b + 1)]) rfl ?_
  refine zT.copyi (idx := 19) (a := 0) (b := 0) (n := 96) hb1 ha1 rfl rfl rfl (by decide) (by decide) (by decide) (by decide) ⟨⟨⟨⟨zIn (w := 4122) (by decide +kernel) rfl, zLa.1⟩, zLa.2.1⟩, zLa.2.2⟩, by decide +kernel, by decide +kernel⟩ (Nat.le_of_ble_eq_true rfl) (by decide +kernel) ?_
  refine zT.eqM (M2 := (m_X6_copyFrom_2 M a b)) rfl ?_
  exact zT.vret rfl rfl (by decide +kernel)
theorem k_X6_copyFrom : zCal yy_X6_copyFrom 1 := ⟨⟨⟨⟨zIn (w := 4172) (by decide +kernel) rfl, zIn (w := 1006) (by decide +kernel) rfl⟩, by decide +kernel⟩, by decide +kernel⟩, ⟨zIn (w := 4170) (by decide +kernel) rfl, zIn (w := 4171) (by decide +kernel) rfl⟩⟩
noncomputable abbrev yy_X4_copyFrom : zY := (yX4_copyFrom, cX4_copyFrom, 2, none, 2, 81)
noncomputable def m_X4_copyFrom_1 (M : zM) (a b : Nat) : zM := (zU M a 0 (M b 0))
noncomputable def m_X4_copyFrom_2 (M : zM) (a b : Nat) : zM := (zU (m_X4_copyFrom_1 M a b) a 1 ((m_X4_copyFrom_1 M a b) b 1))
noncomputable def m_X4_copyFrom_3 (M : zM) (a b : Nat) : zM := (zUa (m_X4_copyFrom_2 M a b) (a + 1) (va_cpy ((m_X4_copyFrom_2 M a b) (b + 1)) ((m_X4_copyFrom_2 M a b) (a + 1)) 0 0 3))
noncomputable def m_X4_copyFrom_4 (M : zM) (a b : Nat) : zM := (zUa (m_X4_copyFrom_3 M a b) (a + 2) (va_cpy ((m_X4_copyFrom_3 M a b) (b + 2)) ((m_X4_copyFrom_3 M a b) (a + 2)) 0 0 9))
noncomputable def m_X4_copyFrom_5 (M : zM) (a b : Nat) : zM := (zUa (m_X4_copyFrom_4 M a b) (a + 3) (va_cpy ((m_X4_copyFrom_4 M a b) (b + 3)) ((m_X4_copyFrom_4 M a b) (a + 3)) 0 0 9))
noncomputable def m_X4_copyFrom_6 (M : zM) (a b : Nat) : zM := (zUa (m_X4_copyFrom_5 M a b) (a + 4) (va_cpy ((m_X4_copyFrom_5 M a b) (b + 4)) ((m_X4_copyFrom_5 M a b) (a + 4)) 0 0 9))
noncomputable def m_X4_copyFrom_7 (M : zM) (a b : Nat) : zM := (zUa (m_X4_copyFrom_6 M a b) (a + 5) (va_cpy ((m_X4_copyFrom_6 M a b) (b + 5)) ((m_X4_copyFrom_6 M a b) (a + 5)) 0 0 9))
noncomputable def m_X4_copyFrom_8 (M : zM) (a b : Nat) : zM := (zUa (m_X4_copyFrom_7 M a b) (a + 6) (va_cpy ((m_X4_copyFrom_7 M a b) (b + 6)) ((m_X4_copyFrom_7 M a b) (a + 6)) 0 0 9))
noncomputable def m_X4_copyFrom_9 (M : zM) (a b : Nat) : zM := (g_X1_copyFrom (m_X4_copyFrom_8 M a b) (a + 7) (b + 7))
noncomputable def m_X4_copyFrom_10 (M : zM) (a b : Nat) : zM := (g_X6_copyFrom (m_X4_copyFrom_9 M a b) (a + 10) (b + 10))
noncomputable def g_X4_copyFrom (M : zM) (a b : Nat) : zM := (m_X4_copyFrom_10 M a b)
set_option maxRecDepth 100000 in
theorem c_X4_copyFrom (sh : List va_E) (M : zM) (a b : Nat) (ha : zSub sh a sh_Office) (hb : zSub sh b sh_Office) : zC yy_X4_copyFrom 0 0 [.ref a, .ref b] sh M none sh (g_X4_copyFrom M a b) := by
  have ha0 : zSg sh a = some (.inr (2, [.int 0, .int 0, .ref (a + 1), .ref (a + 2), .ref (a + 3), .ref (a + 4), .ref (a + 5), .ref (a + 6), .ref (a + 7), .ref (a + 10), .ref (a + 12)])) := ha 0 (by decide)
  have ha1 : zSg sh (a + 1) = some (.inl (0, 3, .inl (fun _ => 0))) := ha 1 (by decide)
  have ha2 : zSg sh (a + 2) = some (.inl (0, 9, .inl (fun _ => 0))) := ha 2 (by decide)
  have ha3 : zSg sh (a + 3) = some (.inl (0, 9, .inl (fun _ => 0))) := ha 3 (by decide)
  have ha4 : zSg sh (a + 4) = some (.inl (0, 9, .inl (fun _ => 0))) := ha 4 (by decide)
  have ha5 : zSg sh (a + 5) = some (.inl (0, 9, .inl (fun _ => 0))) := ha 5 (by decide)
  have ha6 : zSg sh (a + 6) = some (.inl (0, 9, .inl (fun _ => 0))) := ha 6 (by decide)
  have ha7 : zSg sh (a + 7) = some (.inr (0, [.int 0, .int 0, .int 0, .int 0, .int 0, .int 0, .int 0, .int 0, .ref (a + 8), .ref (a + 9)])) := ha 7 (by decide)
  have ha10 : zSg sh (a + 10) = some (.inr (4, [.int 0, .ref (a + 11)])) := ha 10 (by decide)
  have hb0 : zSg sh b = some (.inr (2, [.int 0, .int 0, .ref (b + 1), .ref (b + 2), .ref (b + 3), .ref (b + 4), .ref (b + 5), .ref (b + 6), .ref (b + 7), .ref (b + 10), .ref (b + 12)])) := hb 0 (by decide)
  have hb1 : zSg sh (b + 1) = some (.inl (0, 3, .inl (fun _ => 0))) := hb 1 (by decide)
  have hb2 : zSg sh (b + 2) = some (.inl (0, 9, .inl (fun _ => 0))) := hb 2 (by decide)
  have hb3 : zSg sh (b + 3) = some (.inl (0, 9, .inl (fun _ => 0))) := hb 3 (by decide)
  have hb4 : zSg sh (b + 4) = some (.inl (0, 9, .inl (fun _ => 0))) := hb 4 (by decide)
  have hb5 : zSg sh (b + 5) = some (.inl (0, 9, .inl (fun _ => 0))) := hb 5 (by decide)
  have hb6 : zSg sh (b + 6) = some (.inl (0, 9, .inl (fun _ => 0))) := hb 6 (by decide)
  have hA7 : zSub sh (a + 7) sh_Ballot := zSub.tr ha sub_Office_7_Ballot
  have hB7 : zSub sh (b + 7) sh_Ballot := zSub.tr hb sub_Office_7_Ballot
  have hA10 : zSub sh (a + 10) sh_Outcomes := zSub.tr ha sub_Office_10_Outcomes
  have hB10 : zSub sh (b + 10) sh_Outcomes := zSub.tr hb sub_Office_10_Outcomes
  refine zC.of (by decide +kernel) rfl (Nat.le_of_ble_eq_true rfl) ?_
  refine zT.run [(.aload_n 0, 0, 0, 0), (.aload_n 1, 0, 0, 0)] (pe := 2) (ls' := [some (.ref a), some (.ref b)]) (st' := [.ref b, .ref a]) (M' := M) (by decide +kernel) rfl ?_
  refine zT.getG (idx := 51) (fb := 0) (w := 1170) hb0 rfl (by decide +kernel) (by decide +kernel) ?_
  refine zT.eqS (st2 := [.int (M b 0), .ref a]) rfl ?_
  refine zT.putG (idx := 51) (fb := 0) (w := 1170) ha0 rfl (by decide +kernel) (by decide +kernel) ?_
  refine zT.eqM (M2 := (m_X4_copyFrom_1 M a b)) rfl ?_
  refine zT.run [(.aload_n 0, 0, 0, 0), (.aload_n 1, 0, 0, 0)] (pe := 10) (ls' := [some (.ref a), some (.ref b)]) (st' := [.ref b, .ref a]) (M' := (m_X4_copyFrom_1 M a b)) (by decide +kernel) rfl ?_
  refine zT.getG (idx := 55) (fb := 1) (w := 1173) hb0 rfl (by decide +kernel) (by decide +kernel) ?_
  refine zT.eqS (st2 := [.int ((m_X4_copyFrom_1 M a b) b 1), .ref a]) rfl ?_
  refine zT.putG (idx := 55) (fb := 1) (w := 1173) ha0 rfl (by decide +kernel) (by decide +kernel) ?_
  refine zT.eqM (M2 := (m_X4_copyFrom_2 M a b)) rfl ?_
  refine zT.run [(.aload_n 1, 0, 0, 0)] (pe := 17) (ls' := [some (.ref a), some (.ref b)]) (st' := [.ref b]) (M' := (m_X4_copyFrom_2 M a b)) (by decide +kernel) rfl ?_
  refine zT.getG (idx := 9) (fb := 2) (w := 1174) hb0 rfl (by decide +kernel) (by decide +kernel) ?_
  refine zT.eqS (st2 := [.ref (b + 1)]) rfl ?_
  refine zT.run [(.iconst 0, 0, 0, 0), (.aload_n 0, 0, 0, 0)] (pe := 22) (ls' := [some (.ref a), some (.ref b)]) (st' := [.ref a, .int 0, .ref (b + 1)]) (M' := (m_X4_copyFrom_2 M a b)) (by decide +kernel) rfl ?_
  refine zT.getG (idx := 9) (fb := 2) (w := 1174) ha0 rfl (by decide +kernel) (by decide +kernel) ?_
  refine zT.eqS (st2 := [.ref (a + 1), .int 0, .ref (b + 1)]) rfl ?_
  refine zT.run [(.iconst 0, 0, 0, 0), (.iconst 3, 0, 0, 0)] (pe := 27) (ls' := [some (.ref a), some (.ref b)]) (st' := [.int 3, .int 0, .ref (a + 1), .int 0, .ref (b + 1)]) (M' := (m_X4_copyFrom_2 M a b)) (by decide +kernel) rfl ?_
  refine zT.copyi (idx := 61) (a := 0) (b := 0) (n := 3) hb1 ha1 rfl rfl rfl (by decide) (by decide) (by decide) (by decide) ⟨⟨⟨⟨zIn (w := 1235) (by decide +kernel) rfl, zLa.1⟩, zLa.2.1⟩, zLa.2.2⟩, by decide +kernel, by decide +kernel⟩ (Nat.le_of_ble_eq_true rfl) (by decide +kernel) ?_
  refine zT.eqM (M2 := (m_X4_copyFrom_3 M a b)) rfl ?_
  refine zT.run [(.aload_n 1, 0, 0, 0)] (pe := 31) (ls' := [some (.ref a), some (.ref b)]) (st' := [.ref b]) (M' := (m_X4_copyFrom_3 M a b)) (by decide +kernel) rfl ?_
  refine zT.getG (idx := 15) (fb := 3) (w := 1175) hb0 rfl (by decide +kernel) (by decide +kernel) ?_
  refine zT.eqS (st2 := [.ref (b + 2)]) rfl ?_
  refine zT.run [(.iconst 0, 0, 0, 0), (.aload_n 0, 0, 0, 0)] (pe := 36) (ls' := [some (.ref a), some (.ref b)]) (st' := [.ref a, .int 0, .ref (b + 2)]) (M' := (m_X4_copyFrom_3 M a b)) (by decide +kernel) rfl ?_
  refine zT.getG (idx := 15) (fb := 3) (w := 1175) ha0 rfl (by decide +kernel) (by decide +kernel) ?_
  refine zT.eqS (st2 := [.ref (a + 2), .int 0, .ref (b + 2)]) rfl ?_
  refine zT.run [(.iconst 0, 0, 0, 0), (.bipush 9, 0, 0, 0)] (pe := 42) (ls' := [some (.ref a), some (.ref b)]) (st' := [.int 9, .int 0, .ref (a + 2), .int 0, .ref (b + 2)]) (M' := (m_X4_copyFrom_3 M a b)) (by decide +kernel) rfl ?_
  refine zT.copyi (idx := 61) (a := 0) (b := 0) (n := 9) hb2 ha2 rfl rfl rfl (by decide) (by decide) (by decide) (by decide) ⟨⟨⟨⟨zIn (w := 1235) (by decide +kernel) rfl, zLa.1⟩, zLa.2.1⟩, zLa.2.2⟩, by decide +kernel, by decide +kernel⟩ (Nat.le_of_ble_eq_true rfl) (by decide +kernel) ?_
  refine zT.eqM (M2 := (m_X4_copyFrom_4 M a b)) rfl ?_
  refine zT.run [(.aload_n 1, 0, 0, 0)] (pe := 46) (ls' := [some (.ref a), some (.ref b)]) (st' := [.ref b]) (M' := (m_X4_copyFrom_4 M a b)) (by decide +kernel) rfl ?_
  refine zT.getG (idx := 18) (fb := 4) (w := 1176) hb0 rfl (by decide +kernel) (by decide +kernel) ?_
  refine zT.eqS (st2 := [.ref (b + 3)]) rfl ?_
  refine zT.run [(.iconst 0, 0, 0, 0), (.aload_n 0, 0, 0, 0)] (pe := 51) (ls' := [some (.ref a), some (.ref b)]) (st' := [.ref a, .int 0, .ref (b + 3)]) (M' := (m_X4_copyFrom_4 M a b)) (by decide +kernel) rfl ?_
  refine zT.getG (idx := 18) (fb := 4) (w := 1176) ha0 rfl (by decide +kernel) (by decide +kernel) ?_
  refine zT.eqS (st2 := [.ref (a + 3), .int 0, .ref (b + 3)]) rfl ?_
  refine zT.run [(.iconst 0, 0, 0, 0), (.bipush 9, 0, 0, 0)] (pe := 57) (ls' := [some (.ref a), some (.ref b)]) (st' := [.int 9, .int 0, .ref (a + 3), .int 0, .ref (b + 3)]) (M' := (m_X4_copyFrom_4 M a b)) (by decide +kernel) rfl ?_
  refine zT.copyi (idx := 61) (a := 0) (b := 0) (n := 9) hb3 ha3 rfl rfl rfl (by decide) (by decide) (by decide) (by decide) ⟨⟨⟨⟨zIn (w := 1235) (by decide +kernel) rfl, zLa.1⟩, zLa.2.1⟩, zLa.2.2⟩, by decide +kernel, by decide +kernel⟩ (Nat.le_of_ble_eq_true rfl) (by decide +kernel) ?_
  refine zT.eqM (M2 := (m_X4_copyFrom_5 M a b)) rfl ?_
  refine zT.run [(.aload_n 1, 0, 0, 0)] (pe := 61) (ls' := [some (.ref a), some (.ref b)]) (st' := [.ref b]) (M' := (m_X4_copyFrom_5 M a b)) (by decide +kernel) rfl ?_
  refine zT.getG (idx := 21) (fb := 5) (w := 1177) hb0 rfl (by decide +kernel) (by decide +kernel) ?_
  refine zT.eqS (st2 := [.ref (b + 4)]) rfl ?_
  refine zT.run [(.iconst 0, 0, 0, 0), (.aload_n 0, 0, 0, 0)] (pe := 66) (ls' := [some (.ref a), some (.ref b)]) (st' := [.ref a, .int 0, .ref (b + 4)]) (M' := (m_X4_copyFrom_5 M a b)) (by decide +kernel) rfl ?_
  refine zT.getG (idx := 21) (fb := 5) (w := 1177) ha0 rfl (by decide +kernel) (by decide +kernel) ?_
  refine zT.eqS (st2 := [.ref (a + 4), .int 0, .ref (b + 4)]) rfl ?_
  refine zT.run [(.iconst 0, 0, 0, 0), (.bipush 9, 0, 0, 0)] (pe := 72) (ls' := [some (.ref a), some (.ref b)]) (st' := [.int 9, .int 0, .ref (a + 4), .int 0, .ref (b + 4)]) (M' := (m_X4_copyFrom_5 M a b)) (by decide +kernel) rfl ?_
  refine zT.copyi (idx := 61) (a := 0) (b := 0) (n := 9) hb4 ha4 rfl rfl rfl (by decide) (by decide) (by decide) (by decide) ⟨⟨⟨⟨zIn (w := 1235) (by decide +kernel) rfl, zLa.1⟩, zLa.2.1⟩, zLa.2.2⟩, by decide +kernel, by decide +kernel⟩ (Nat.le_of_ble_eq_true rfl) (by decide +kernel) ?_
  refine zT.eqM (M2 := (m_X4_copyFrom_6 M a b)) rfl ?_
  refine zT.run [(.aload_n 1, 0, 0, 0)] (pe := 76) (ls' := [some (.ref a), some (.ref b)]) (st' := [.ref b]) (M' := (m_X4_copyFrom_6 M a b)) (by decide +kernel) rfl ?_
  refine zT.getG (idx := 24) (fb := 6) (w := 1178) hb0 rfl (by decide +kernel) (by decide +kernel) ?_
  refine zT.eqS (st2 := [.ref (b + 5)]) rfl ?_
  refine zT.run [(.iconst 0, 0, 0, 0), (.aload_n 0, 0, 0, 0)] (pe := 81) (ls' := [some (.ref a), some (.ref b)]) (st' := [.ref a, .int 0, .ref (b + 5)]) (M' := (m_X4_copyFrom_6 M a b)) (by decide +kernel) rfl ?_
  refine zT.getG (idx := 24) (fb := 6) (w := 1178) ha0 rfl (by decide +kernel) (by decide +kernel) ?_
  refine zT.eqS (st2 := [.ref (a + 5), .int 0, .ref (b + 5)]) rfl ?_
  refine zT.run [(.iconst 0, 0, 0, 0), (.bipush 9, 0, 0, 0)] (pe := 87) (ls' := [some (.ref a), some (.ref b)]) (st' := [.int 9, .int 0, .ref (a + 5), .int 0, .ref (b + 5)]) (M' := (m_X4_copyFrom_6 M a b)) (by decide +kernel) rfl ?_
  refine zT.copyi (idx := 61) (a := 0) (b := 0) (n := 9) hb5 ha5 rfl rfl rfl (by decide) (by decide) (by decide) (by decide) ⟨⟨⟨⟨zIn (w := 1235) (by decide +kernel) rfl, zLa.1⟩, zLa.2.1⟩, zLa.2.2⟩, by decide +kernel, by decide +kernel⟩ (Nat.le_of_ble_eq_true rfl) (by decide +kernel) ?_
  refine zT.eqM (M2 := (m_X4_copyFrom_7 M a b)) rfl ?_
  refine zT.run [(.aload_n 1, 0, 0, 0)] (pe := 91) (ls' := [some (.ref a), some (.ref b)]) (st' := [.ref b]) (M' := (m_X4_copyFrom_7 M a b)) (by decide +kernel) rfl ?_
  refine zT.getG (idx := 27) (fb := 7) (w := 1179) hb0 rfl (by decide +kernel) (by decide +kernel) ?_
  refine zT.eqS (st2 := [.ref (b + 6)]) rfl ?_
  refine zT.run [(.iconst 0, 0, 0, 0), (.aload_n 0, 0, 0, 0)] (pe := 96) (ls' := [some (.ref a), some (.ref b)]) (st' := [.ref a, .int 0, .ref (b + 6)]) (M' := (m_X4_copyFrom_7 M a b)) (by decide +kernel) rfl ?_
  refine zT.getG (idx := 27) (fb := 7) (w := 1179) ha0 rfl (by decide +kernel) (by decide +kernel) ?_
  refine zT.eqS (st2 := [.ref (a + 6), .int 0, .ref (b + 6)]) rfl ?_
  refine zT.run [(.iconst 0, 0, 0, 0), (.bipush 9, 0, 0, 0)] (pe := 102) (ls' := [some (.ref a), some (.ref b)]) (st' := [.int 9, .int 0, .ref (a + 6), .int 0, .ref (b + 6)]) (M' := (m_X4_copyFrom_7 M a b)) (by decide +kernel) rfl ?_
  refine zT.copyi (idx := 61) (a := 0) (b := 0) (n := 9) hb6 ha6 rfl rfl rfl (by decide) (by decide) (by decide) (by decide) ⟨⟨⟨⟨zIn (w := 1235) (by decide +kernel) rfl, zLa.1⟩, zLa.2.1⟩, zLa.2.2⟩, by decide +kernel, by decide +kernel⟩ (Nat.le_of_ble_eq_true rfl) (by decide +kernel) ?_
  refine zT.eqM (M2 := (m_X4_copyFrom_8 M a b)) rfl ?_
  refine zT.run [(.aload_n 0, 0, 0, 0)] (pe := 106) (ls' := [some (.ref a), some (.ref b)]) (st' := [.ref a]) (M' := (m_X4_copyFrom_8 M a b)) (by decide +kernel) rfl ?_
  refine zT.getG (idx := 33) (fb := 8) (w := 1181) ha0 rfl (by decide +kernel) (by decide +kernel) ?_
  refine zT.eqS (st2 := [.ref (a + 7)]) rfl ?_
  refine zT.run [(.aload_n 1, 0, 0, 0)] (pe := 110) (ls' := [some (.ref a), some (.ref b)]) (st' := [.ref b, .ref (a + 7)]) (M' := (m_X4_copyFrom_8 M a b)) (by decide +kernel) rfl ?_
  refine zT.getG (idx := 33) (fb := 8) (w := 1181) hb0 rfl (by decide +kernel) (by decide +kernel) ?_
  refine zT.eqS (st2 := [.ref (b + 7), .ref (a + 7)]) rfl ?_
  refine zT.cV_all (o := (a + 7)) (idx := 73) (av := [.ref (b + 7)]) (rv := none) (st := []) (S1 := []) (c_X1_copyFrom sh (m_X4_copyFrom_8 M a b) (a + 7) (b + 7) hA7 hB7) k_X1_copyFrom _ _ (by rw [Nat.zero_add]; exact ha7) rfl rfl (zIn (w := 4164) (by decide +kernel) rfl) (by decide +kernel) (by decide +kernel) (by simp [zRv]) (Nat.le_of_ble_eq_true rfl) rfl ?_
  refine zT.eqM (M2 := (m_X4_copyFrom_9 M a b)) rfl ?_
  refine zT.run [(.aload_n 0, 0, 0, 0)] (pe := 117) (ls' := [some (.ref a), some (.ref b)]) (st' := [.ref a]) (M' := (m_X4_copyFrom_9 M a b)) (by decide +kernel) rfl ?_
  refine zT.getG (idx := 40) (fb := 9) (w := 1183) ha0 rfl (by decide +kernel) (by decide +kernel) ?_
  refine zT.eqS (st2 := [.ref (a + 10)]) rfl ?_
  refine zT.run [(.aload_n 1, 0, 0, 0)] (pe := 121) (ls' := [some (.ref a), some (.ref b)]) (st' := [.ref b, .ref (a + 10)]) (M' := (m_X4_copyFrom_9 M a b)) (by decide +kernel) rfl ?_
  refine zT.getG (idx := 40) (fb := 9) (w := 1183) hb0 rfl (by decide +kernel) (by decide +kernel) ?_
  refine zT.eqS (st2 := [.ref (b + 10), .ref (a + 10)]) rfl ?_
  refine zT.cV_all (o := (a + 10)) (idx := 77) (av := [.ref (b + 10)]) (rv := none) (st := []) (S1 := []) (c_X6_copyFrom sh (m_X4_copyFrom_9 M a b) (a + 10) (b + 10) hA10 hB10) k_X6_copyFrom _ _ (by rw [Nat.zero_add]; exact ha10) rfl rfl (zIn (w := 4169) (by decide +kernel) rfl) (by decide +kernel) (by decide +kernel) (by simp [zRv]) (Nat.le_of_ble_eq_true rfl) rfl ?_
  refine zT.eqM (M2 := (m_X4_copyFrom_10 M a b)) rfl ?_
  exact zT.vret rfl rfl (by decide +kernel)
theorem k_X4_copyFrom : zCal yy_X4_copyFrom 1 := ⟨⟨⟨⟨zIn (w := 4163) (by decide +kernel) rfl, zIn (w := 1004) (by decide +kernel) rfl⟩, by decide +kernel⟩, by decide +kernel⟩, ⟨zIn (w := 4161) (by decide +kernel) rfl, zIn (w := 4162) (by decide +kernel) rfl⟩⟩
noncomputable abbrev yy_X1_fittingNonce : zY := (yX1_fittingNonce, cX1_fittingNonce, 4, (some Jvm.ClassFile.FieldType.int), 2, 45)
noncomputable def f_X1_fittingNonce_19 (M : zM) (r : Nat) (c : Int32) (i1 : Nat) : Option Int32 := (if (g_X1_sealFits M r c (nI i1)) = 0 then none else (some (nI i1)))
noncomputable def g_X1_fittingNonce (M : zM) (r : Nat) (c : Int32) : Int32 := (if (g_X9_has (M 0 5) (nI r)) = 0 then (-1) else (zFst (f_X1_fittingNonce_19 M r c) (-1 : Int32) 1000 0))
set_option maxRecDepth 100000 in
theorem c_X1_fittingNonce (M : zM) (r : Nat) (c : Int32) (h_r : r < 9) : zC yy_X1_fittingNonce 0 0 [.ref 0, .int (nI r), .int c] sh_Ballot M (some (.int (g_X1_fittingNonce M r c))) sh_Ballot M := by
  refine zC.of (by decide +kernel) rfl (Nat.le_of_ble_eq_true rfl) ?_
  refine zT.run [(.aload_n 0, 0, 0, 0), (.getfield 38, 0, 5, 1102), (.iload_n 1, 0, 0, 0)] (pe := 5) (ls' := [some (.ref 0), some (.int (nI r)), some (.int c), none]) (st' := [.int (nI r), .int (M 0 5)]) (M' := M) (by decide +kernel) rfl ?_
  refine zT.cN_nil "SealedBallots" (idx := 63) (av := [.int (M 0 5), .int (nI r)]) (rv := (some (.int (g_X9_has (M 0 5) (nI r))))) (st := []) (S1 := [.int (g_X9_has (M 0 5) (nI r))]) (c_X9_has (M 0 5) (nI r)) k_X9_has rfl (zInN (w := 2060) (by decide +kernel) rfl) (by decide +kernel) (by decide +kernel) rfl (Nat.le_of_ble_eq_true rfl) rfl ?_
  refine zT.zne (tgt := 13) (off := 5) (by decide +kernel) (by decide) (fun (c1 : ¬ (g_X9_has (M 0 5) (nI r)) = 0) => ?_) (fun (c1 : (g_X9_has (M 0 5) (nI r)) = 0) => ?_)
  · skip
    refine zT.getsN (host := "SealedBallots") (idx := 71) 1 rfl rfl (zInN (w := 5039) (by decide +kernel) rfl) (by decide +kernel) ?_
    refine zT.run [(.iconst 3, 0, 0, 0)] (pe := 17) (ls' := [some (.ref 0), some (.int (nI r)), some (.int c), none]) (st' := [.int 3, .retAddr 102]) (M' := M) (by decide +kernel) rfl ?_
    refine zT.xi 1 (j := 3) (x := 0) rfl rfl rfl (by decide) (by decide +kernel) ?_
    refine zT.run [(.istore_n 3, 0, 0, 0)] (pe := 19) (ls' := [some (.ref 0), some (.int (nI r)), some (.int c), some (.int 0)]) (st' := []) (M' := M) (by decide +kernel) rfl ?_
    refine zT.fst (f_X1_fittingNonce_19 M r c) (-1 : Int32) 1000 (fun (i : Nat) => (19, [some (.ref 0), some (.int (nI r)), some (.int c), some (.int (nI i))], [], sh_Ballot, M)) (R := (zFst (f_X1_fittingNonce_19 M r c) (-1 : Int32) 1000 0)) rfl (fun i1 hi1 k1 kk1 => ?_) (fun k1 => ?_)
    · skip
      show zT _ _ _ _ (19, [some (.ref 0), some (.int (nI r)), some (.int c), some (.int (nI i1))], [], sh_Ballot, M)
      refine zT.run [(.iload_n 3, 0, 0, 0)] (pe := 20) (ls' := [some (.ref 0), some (.int (nI r)), some (.int c), some (.int (nI i1))]) (st' := [.int (nI i1)]) (M' := M) (by decide +kernel) rfl ?_
      refine zT.getsN (host := "SealedBallots") (idx := 74) 2 rfl rfl (zInN (w := 5040) (by decide +kernel) rfl) (by decide +kernel) ?_
      refine zT.run [(.iconst 3, 0, 0, 0)] (pe := 24) (ls' := [some (.ref 0), some (.int (nI r)), some (.int c), some (.int (nI i1))]) (st' := [.int 3, .retAddr 103, .int (nI i1)]) (M' := M) (by decide +kernel) rfl ?_
      refine zT.xi 2 (j := 3) (x := 999) rfl rfl rfl (by decide) (by decide +kernel) ?_
      refine zT.cgt (tgt := 46) (off := 21) (by decide +kernel) (by decide) (fun c => absurd c (nI_nlt (a := 999) (b := i1) (by omega) (by decide))) (fun _ => ?_)
      refine zT.run [(.aload_n 0, 0, 0, 0), (.iload_n 1, 0, 0, 0), (.iload_n 2, 0, 0, 0), (.iload_n 3, 0, 0, 0)] (pe := 32) (ls' := [some (.ref 0), some (.int (nI r)), some (.int c), some (.int (nI i1))]) (st' := [.int (nI i1), .int c, .int (nI r), .ref 0]) (M' := M) (by decide +kernel) rfl ?_
      refine zT.cV_own (o := 0) (idx := 77) (av := [.int (nI r), .int c, .int (nI i1)]) (rv := (some (.int (g_X1_sealFits M r c (nI i1))))) (st := []) (S1 := [.int (g_X1_sealFits M r c (nI i1))]) (c_X1_sealFits M r c (nI i1) (by omega)) k_X1_sealFits _ _ rfl rfl rfl (zIn (w := 5041) (by decide +kernel) rfl) (by decide +kernel) (by decide +kernel) rfl (Nat.le_of_ble_eq_true rfl) rfl ?_
      refine zT.zeq (tgt := 40) (off := 5) (by decide +kernel) (by decide) (fun (c2 : (g_X1_sealFits M r c (nI i1)) = 0) => ?_) (fun (c2 : ¬ (g_X1_sealFits M r c (nI i1)) = 0) => ?_)
      · skip
        refine zT.run [(.iinc 3 1, 0, 0, 0), (.goto (-24), 0, 0, 0)] (pe := 19) (ls' := [some (.ref 0), some (.int (nI r)), some (.int c), some (.int ((nI i1) + 1))]) (st' := []) (M' := M) (by decide +kernel) rfl ?_
        exact zT.eq (by simp only [nI_succ, zDl]; try rfl) (k1 (by simp only [f_X1_fittingNonce_19, if_pos c2]))
      · skip
        refine zT.run [(.iload_n 3, 0, 0, 0)] (pe := 39) (ls' := [some (.ref 0), some (.int (nI r)), some (.int c), some (.int (nI i1))]) (st' := [.int (nI i1)]) (M' := M) (by decide +kernel) rfl ?_
        exact zT.iret (ty := Jvm.ClassFile.FieldType.int) ((show _ = (zFst (f_X1_fittingNonce_19 M r c) (-1 : Int32) 1000 0) from (by simp only [g_X1_fittingNonce, if_neg c1]; try rfl)).trans (kk1 _ (by simp only [f_X1_fittingNonce_19, if_neg c2]))) rfl rfl rfl (by decide +kernel)
    · skip
      show zT _ _ _ _ (19, [some (.ref 0), some (.int (nI r)), some (.int c), some (.int (nI 1000))], [], sh_Ballot, M)
      refine zT.run [(.iload_n 3, 0, 0, 0)] (pe := 20) (ls' := [some (.ref 0), some (.int (nI r)), some (.int c), some (.int (nI 1000))]) (st' := [.int (nI 1000)]) (M' := M) (by decide +kernel) rfl ?_
      refine zT.getsN (host := "SealedBallots") (idx := 74) 2 rfl rfl (zInN (w := 5040) (by decide +kernel) rfl) (by decide +kernel) ?_
      refine zT.run [(.iconst 3, 0, 0, 0)] (pe := 24) (ls' := [some (.ref 0), some (.int (nI r)), some (.int c), some (.int (nI 1000))]) (st' := [.int 3, .retAddr 103, .int (nI 1000)]) (M' := M) (by decide +kernel) rfl ?_
      refine zT.xi 2 (j := 3) (x := 999) rfl rfl rfl (by decide) (by decide +kernel) ?_
      refine zT.cgt (tgt := 46) (off := 21) (by decide +kernel) (by decide) (fun _ => ?_) (fun c => absurd (nI_lt (a := 999) (b := 1000) (by decide) (by decide)) c)
      refine zT.run [(.iconst (-1), 0, 0, 0)] (pe := 47) (ls' := [some (.ref 0), some (.int (nI r)), some (.int c), some (.int (nI 1000))]) (st' := [.int (-1)]) (M' := M) (by decide +kernel) rfl ?_
      exact zT.iret (ty := Jvm.ClassFile.FieldType.int) ((show _ = (zFst (f_X1_fittingNonce_19 M r c) (-1 : Int32) 1000 0) from (by simp only [g_X1_fittingNonce, if_neg c1]; try rfl)).trans k1) rfl rfl rfl (by decide +kernel)
  · skip
    refine zT.run [(.iconst (-1), 0, 0, 0)] (pe := 12) (ls' := [some (.ref 0), some (.int (nI r)), some (.int c), none]) (st' := [.int (-1)]) (M' := M) (by decide +kernel) rfl ?_
    exact zT.iret (ty := Jvm.ClassFile.FieldType.int) (by simp only [g_X1_fittingNonce, if_pos c1]; try rfl) rfl rfl rfl (by decide +kernel)
theorem k_X1_fittingNonce : zCal yy_X1_fittingNonce 2 := ⟨⟨⟨⟨zIn (w := 5038) (by decide +kernel) rfl, zIn (w := 1005) (by decide +kernel) rfl⟩, by decide +kernel⟩, by decide +kernel⟩, ⟨zIn (w := 5036) (by decide +kernel) rfl, zIn (w := 5037) (by decide +kernel) rfl⟩⟩

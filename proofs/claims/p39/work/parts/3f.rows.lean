/-! ROWS: of offices, of rows of ints -/
section ZRO
variable {Y : zY} {kc nc : Nat} {Z : zS → Prop} {pc : Nat} {ls : zL} {st : List Value} {sh : List va_E} {M : zM}
theorem zT.anewO {ik N : Nat} {i : Int32} (hcl : Cond.classLink Y.1.cls ik "SealedBallots$Office" ∈ zW) (hi : i = nI N) (hN : N < 2 ^ 20)
    (hc : zCs sh.length sh) (hl : zLb sh.length ls = true) (hst : st.all (zVb sh.length) = true) (hd : decode Y.2.1 pc = .ok (.anewarray ik, 3))
    (k9 : zT Y kc nc Z (pc + 3, ls, .ref sh.length :: st, sh ++ [.inl (3, N, .inr (.inr (.inr (.inr (fun _ => none)))))], zUa M sh.length (fun _ => 0))) : zT Y (1 + kc) (N + nc) Z (pc, ls, .int i :: st, sh, M) := by
  refine zT.grow (S := (pc, ls, .int i :: st, sh, M)) hc hl hst rfl rfl rfl ?_ k9
  intro p l e9 R s m args below meth c D cA ex A E Q cells slots as g1 g2 H locs lsR hP hD hS hl9
  refine ⟨.inl (cA 3, N, .inr (.inr (.inr (.inr (fun _ => none))))), fun as' => rfl, fun k => ?_⟩
  obtain ⟨hx0, hb, hml, hown, hts, hK, hA, hSt, hfl, hlk, hret, hnm, hfr, hlo⟩ := E
  subst hi
  refine va_newq hx0 hb hown (hts _ hcl) hSt.2.2.2.2.2.2.2.2.2.1 hK hP hD hS hA (nI_pos (by omega)) (nI_clamp (by omega)) (by omega) g1 g2 hd fun q cN H1 hK1 hP1 hD1 hS1 => ?_
  have hcN : cN = cA 3 := by
    obtain ⟨_, _, -, -, -, h1⟩ := (hK1.2 (zTys cA).length (cN, .object "SealedBallots$Office") (by simp)).2
    obtain ⟨_, _, -, -, -, h2⟩ := (hK.2 3 (cA 3, .object "SealedBallots$Office") rfl).2
    exact Option.some.inj (h1.symm.trans h2)
  rw [hcN] at hP1 hD1
  exact k q H1 hP1 hD1 hS1
theorem zT.oast {o n k q : Nat} {i : Int32} {g : Nat → Option Nat} {vs : List Value}
    (hs : zSg sh o = some (.inl (3, n, .inr (.inr (.inr (.inr g)))))) (hq : zSg sh q = some (.inr (2, vs))) (hi : i = nI k) (hk : k < n) (hn : n < 2 ^ 31) (hd : decode Y.2.1 pc = .ok (.aastore, 1))
    (k1 : zT Y kc nc Z (pc + 1, ls, st, sh.set o (.inl (3, n, .inr (.inr (.inr (.inr (fun j => if j = k then some q else g j)))))), M)) : zT Y kc nc Z (pc, ls, .ref q :: .int i :: .ref o :: st, sh, M) := by
  refine zT.step (S1 := (pc + 1, ls, st, sh.set o (.inl (3, n, .inr (.inr (.inr (.inr (fun j => if j = k then some q else g j)))))), M)) (by simp) ?_ k1
  intro p l e R s m args below meth c D cA ex A E Q cells slots as _ _ k9 H locs lsR hP hD hS hl
  subst hi
  have ha := zWd_at (cA := cA) (as := as) (ex := ex) (M := M) hs
  have hv := zWd_at (cA := cA) (as := as) (ex := ex) (M := M) hq
  have hW : (zWd cA as ex M 0 sh).set o (as o, .inl (cA 3, n, .inr (.inr (.inr (.inr (va_up (fun j => (g j).map as) k (some (as q)))))))) = zWd cA as ex M 0 (sh.set o (.inl (3, n, .inr (.inr (.inr (.inr (fun j => if j = k then some q else g j))))))) := by
    have h8 := zWd_set (cA := cA) (as := as) (ex := ex) (M := M) (M' := M) (sh := sh) (k := o) (q' := .inl (3, n, .inr (.inr (.inr (.inr (fun j => if j = k then some q else g j)))))) (fun j hj => rfl)
    rw [← h8]
    congr 1
    refine congrArg (fun f : Nat → Option Nat => ((as o, Sum.inl (cA 3, n, Sum.inr (Sum.inr (Sum.inr (Sum.inr f))))) : Nat × va_E)) (funext fun j => ?_)
    by_cases hj : j = k
    · subst hj
      simp [va_up]
    · simp [va_up, hj]
  refine va_astq (a := as o) (v := as q) (r := (RX4, TX4, 11)) E.1 E.2.1 E.2.2.2.2.2.1 hP hD hS o 3 q 2 ha rfl hv rfl (vp_in_nI hk hn) hd (fun H1 locs1 hP1 hD1 hS1 => ?_)
  rw [nI_clamp (by omega), hW] at hP1 hD1
  exact k9 H1 locs1 lsR hP1 hD1 hS1 hl
end ZRO

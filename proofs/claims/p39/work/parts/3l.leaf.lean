/-! A ROW OF LONGS -/
section ZLG
variable {Y : zY} {kc nc : Nat} {Z : zS → Prop} {pc : Nat} {ls : zL} {st : List Value} {sh : List va_E} {M : zM} {o n k : Nat} {i : Int32} {z : Nat → Int64}
theorem zT.last {x : Int64} (hs : zSg sh o = some (.inl (5, n, .inr (.inl z)))) (hi : i = nI k) (hk : k < n) (hn : n < 2 ^ 31) (hd : decode Y.2.1 pc = .ok (.lastore, 1)) (k1 : zT Y kc nc Z (pc + 1, ls, st, sh.set o (.inl (5, n, .inr (.inl (vp_updL z k x)))), M)) : zT Y kc nc Z (pc, ls, .long x :: .int i :: .ref o :: st, sh, M) := by
  refine zT.step (S1 := (pc + 1, ls, st, sh.set o (.inl (5, n, .inr (.inl (vp_updL z k x)))), M)) (by simp) ?_ k1
  intro p l e R s m args below meth c D cA ex A E Q cells slots as _ _ k9 H locs lsR hP hD hS hl
  subst hi
  refine va_last E.1 E.2.1 E.2.2.2.2.2.1 hP hD hS o 5 (zWd_at hs) rfl (vp_in_nI hk hn) hd (fun H1 locs1 hP1 hD1 hS1 => ?_)
  rw [nI_clamp (Nat.lt_trans hk hn)] at hP1 hD1
  have e9 : (zWd cA as ex M 0 sh).set o (as o, .inl (cA 5, n, .inr (.inl (vp_updL z k x)))) = zWd cA as ex M 0 (sh.set o (.inl (5, n, .inr (.inl (vp_updL z k x))))) := by
    have h8 := zWd_set (cA := cA) (as := as) (ex := ex) (M := M) (M' := M) (sh := sh) (k := o) (q' := .inl (5, n, .inr (.inl (vp_updL z k x)))) (fun j hj => rfl)
    rw [← h8]
    rfl
  have hP2 : va_P D vwCl ((zWd cA as ex M 0 sh).set o (as o, .inl (cA 5, n, .inr (.inl (vp_updL z k x))))) H1 := hP1
  have hD2 : va_D A ((zWd cA as ex M 0 sh).set o (as o, .inl (cA 5, n, .inr (.inl (vp_updL z k x))))) := hD1
  rw [e9] at hP2 hD2
  exact k9 H1 locs1 lsR hP2 hD2 hS1 hl
end ZLG
/-! WHAT THROWS -/
theorem zPl0 {M : zM} : zPl M 0 = M := by
  funext k
  show M (0 + k) = M k
  rw [Nat.zero_add]

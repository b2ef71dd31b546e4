/-! A ROW OF LONGS -/
section ZLG
variable {Y : zY} {kc nc : Nat} {Z : zS → Prop} {pc : Nat} {ls : zL} {st : List Value} {sh : List va_E} {M : zM} {o n k : Nat} {i : Int32} {z : Nat → Int64}
theorem zT.last {x : Int64} (hs : zSg sh o = some (.inl (5, n, .inr (.inl z)))) (hi : i = nI k) (hk : k < n) (hn : n < 2 ^ 31) (hd : decode Y.2.1 pc = .ok (.lastore, 1)) (k1 : zT Y kc nc Z (pc + 1, ls, st, sh.set o (.inl (5, n, .inr (.inl (vp_updL z k x)))), M)) : zT Y kc nc Z (pc, ls, .long x :: .int i :: .ref o :: st, sh, M) := by
  refine zT.step (S1 := (pc + 1, ls, st, sh.set o (.inl (5, n, .inr (.inl (vp_updL z k x)))), M)) (by simp) ?_ k1
  intro p l e R s m args below meth c D cA ex A E Q cells slots as _ _ k9 H locs lsR hP hD hS hl
  subst hi
  refine va_last E.1 E.2.1 E.2.2.2.2.2.1 hP hD hS o 5 (zWd_at hs) rfl (vp_in_nI hk hn) hd (fun H1 locs1 hP1 hD1 hS1 => ?_)
  rw [nI_clamp (Nat.lt_trans hk hn)] at hP1 hD1
  have e9 : (zWd cA as ex M 0 sh).set o (as o, .inl (cA 5, n, .inr (.inl (vp_updL z k x)))) = zWd cA as ex M 0 (sh.set o (.inl (5, n, .inr (.inl (vp_updL z k x))))) := by
    have h8 := zWd_set (cA := cA) (as := as) (ex := ex) (M := M) (M' := M) (sh := sh) (k := o) (q' := .inl (5, n, .inr (.inl (vp_updL z k x)))) (fun j hj => rfl)
    rw [← h8]
    rfl
  have hP2 : va_P D vwCl ((zWd cA as ex M 0 sh).set o (as o, .inl (cA 5, n, .inr (.inl (vp_updL z k x))))) H1 := hP1
  have hD2 : va_D A ((zWd cA as ex M 0 sh).set o (as o, .inl (cA 5, n, .inr (.inl (vp_updL z k x))))) := hD1
  rw [e9] at hP2 hD2
  exact k9 H1 locs1 lsR hP2 hD2 hS1 hl
theorem zT.lald (hs : zSg sh o = some (.inl (5, n, .inr (.inl z)))) (hi : i = nI k) (hk : k < n) (hn : n < 2 ^ 31) (hd : decode Y.2.1 pc = .ok (.laload, 1)) (k1 : zT Y kc nc Z (pc + 1, ls, .long (z k) :: st, sh, M)) : zT Y kc nc Z (pc, ls, .int i :: .ref o :: st, sh, M) := by
  refine zT.step (S1 := (pc + 1, ls, .long (z k) :: st, sh, M)) rfl ?_ k1
  intro p l e R s m args below meth c D cA ex A E Q cells slots as _ _ k9 H locs lsR hP hD hS hl
  subst hi
  refine va_lald E.1 E.2.1 E.2.2.2.2.2.1 hP o 5 (zWd_at hs) rfl (vp_in_nI hk hn) hd ?_
  rw [nI_clamp (Nat.lt_trans hk hn)]
  exact k9 H locs lsR hP hD hS hl
end ZLG
/-! WHAT THROWS -/
theorem zPl0 {M : zM} : zPl M 0 = M := by
  funext k
  show M (0 + k) = M k
  rw [Nat.zero_add]
theorem lf_X9_needReplica : zLeaf yy_X9_needReplica "java/lang/IndexOutOfBoundsException" 15 := ⟨"there is no such replica", 216, 248, 250, 252, by decide +kernel, zIn (w := 4011) (by decide +kernel) rfl, zIn (w := 1021) (by decide +kernel) rfl, by decide +kernel, by decide +kernel, by decide +kernel, by decide +kernel, by decide +kernel, Or.inl ⟨by decide +kernel, by decide +kernel, by decide +kernel⟩⟩
theorem lf_X9_needKind : zLeaf yy_X9_needKind "java/lang/IllegalArgumentException" 8 := ⟨"an argument is out of its range", 217, 256, 258, 260, by decide +kernel, zIn (w := 4090) (by decide +kernel) rfl, zIn (w := 1022) (by decide +kernel) rfl, by decide +kernel, by decide +kernel, by decide +kernel, by decide +kernel, by decide +kernel, Or.inr ⟨by decide +kernel, by decide +kernel, by decide +kernel⟩⟩
theorem lf_X9_needBetween : zLeaf yy_X9_needBetween "java/lang/IllegalArgumentException" 10 := ⟨"an argument is out of its range", 217, 256, 258, 260, by decide +kernel, zIn (w := 4090) (by decide +kernel) rfl, zIn (w := 1022) (by decide +kernel) rfl, by decide +kernel, by decide +kernel, by decide +kernel, by decide +kernel, by decide +kernel, Or.inr ⟨by decide +kernel, by decide +kernel, by decide +kernel⟩⟩
set_option maxRecDepth 100000 in
theorem x_X9_needReplica (M : zM) (sl : Nat → Option Nat) (ext : List va_E) (r : Int32) (h : r < 0 ∨ ¬ r < M 5 0) : zXr yy_X9_needReplica 1 6 [.ref 0, .int r] (sh_X sl ext) M "java/lang/IndexOutOfBoundsException" M := by
  refine zXr.leaf 15 [some (.ref 0), some (.int r)] (by decide +kernel) rfl (Nat.le_of_ble_eq_true rfl) lf_X9_needReplica (Nat.le_of_ble_eq_true rfl) (Nat.le_of_ble_eq_true rfl) ?_
  refine zT.run [(.iload_n 1, 0, 0, 0)] (pe := 1) (ls' := [some (.ref 0), some (.int r)]) (st' := [.int r]) (M' := M) (by decide +kernel) rfl ?_
  refine zT.zlt (tgt := 15) (off := 14) (by decide +kernel) (by decide) (fun _ => zT.here rfl) (fun c => ?_)
  refine zT.run [(.iload_n 1, 0, 0, 0), (.aload_n 0, 0, 0, 0), (.getfield 24, 7, 2, 2074), (.getfield 133, 2, 0, 1173)] (pe := 12) (ls' := [some (.ref 0), some (.int r)]) (st' := [.int (M 5 0), .int r]) (M' := M) (by decide +kernel) rfl ?_
  refine zT.clt (tgt := 25) (off := 13) (by decide +kernel) (by decide) (fun c2 => ?_) (fun _ => zT.here rfl)
  exact absurd (h.resolve_left c) (fun h9 => h9 c2)
set_option maxRecDepth 100000 in
theorem x_X9_needKind (M : zM) (v : Int32) (k : Nat) (hk : k < 8) (h : v < zLo k ∨ zHi k < v) : zXr yy_X9_needKind 1 6 [.int v, .int (nI k)] [] M "java/lang/IllegalArgumentException" M := by
  refine zXr.leaf 8 [some (.int v), some (.int (nI k))] (by decide +kernel) rfl (Nat.le_of_ble_eq_true rfl) lf_X9_needKind (Nat.le_of_ble_eq_true rfl) (Nat.le_of_ble_eq_true rfl) ?_
  refine zT.run [(.iload_n 0, 0, 0, 0), (.iload_n 1, 0, 0, 0)] (pe := 2) (ls' := [some (.int v), some (.int (nI k))]) (st' := [.int (nI k), .int v]) (M' := M) (by decide +kernel) rfl ?_
  refine zT.cS_nil (idx := 253) (av := [.int v, .int (nI k)]) (rv := some (.int (g_X9_fits v k))) (st := []) (S1 := [.int (g_X9_fits v k)]) (c_X9_fits v k hk) k_X9_fits rfl (zIn (w := 4089) (by decide +kernel) rfl) (by decide +kernel) (by decide +kernel) rfl (Nat.le_of_ble_eq_true rfl) rfl ?_
  have hz : g_X9_fits v k = 0 := by
    unfold g_X9_fits
    rcases h with h | h
    · rw [if_pos h]
    · split <;> first
        | rfl
        | rw [if_pos h]
  exact zT.zne (tgt := 19) (off := 14) (by decide +kernel) (by decide) (fun c => absurd hz c) (fun _ => zT.here rfl)
set_option maxRecDepth 100000 in
theorem x_X9_needBetween (M : zM) (v lo hi : Int32) (h : v < lo ∨ hi < v) : zXr yy_X9_needBetween 1 6 [.int v, .int lo, .int hi] [] M "java/lang/IllegalArgumentException" M := by
  refine zXr.leaf 10 [some (.int v), some (.int lo), some (.int hi)] (by decide +kernel) rfl (Nat.le_of_ble_eq_true rfl) lf_X9_needBetween (Nat.le_of_ble_eq_true rfl) (Nat.le_of_ble_eq_true rfl) ?_
  refine zT.run [(.iload_n 0, 0, 0, 0), (.iload_n 1, 0, 0, 0)] (pe := 2) (ls' := [some (.int v), some (.int lo), some (.int hi)]) (st' := [.int lo, .int v]) (M' := M) (by decide +kernel) rfl ?_
  refine zT.clt (tgt := 10) (off := 8) (by decide +kernel) (by decide) (fun _ => zT.here rfl) (fun c => ?_)
  refine zT.run [(.iload_n 0, 0, 0, 0), (.iload_n 2, 0, 0, 0)] (pe := 7) (ls' := [some (.int v), some (.int lo), some (.int hi)]) (st' := [.int hi, .int v]) (M' := M) (by decide +kernel) rfl ?_
  exact zT.cle (tgt := 21) (off := 14) (by decide +kernel) (by decide) (fun c2 => absurd (h.resolve_left c) (Int32.not_lt.mpr c2)) (fun _ => zT.here rfl)

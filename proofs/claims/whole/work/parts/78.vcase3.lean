/-! THE CASES set, truncate, keep, restore -/
section CASES
variable {n oz nx pc ty rp T : Nat} {sl : Nat → Option Nat} {ext : List va_E} {gq : Nat → Nat} {x m : zM}
theorem K_set {Z : zS → Prop} {kc nc : Nat} (s : Nat → Int32) (Ns i : Nat) (hNs : Ns < 2 ^ 31) (hi : 6 * i + 6 ≤ Ns) (ob : Nat → Int64) (H : xR n oz nx pc ty rp T sl ext gq x m) (k9 : zK9 kc nc Z s Ns (i + 1) (T + 601)) : zV s Ns (14 + kc) (199 + nc) Z (zCase 12, [some (.retAddr 998), some (.ref 22), some (.ref 0), some (.ref 21), some (.int (nI (6 * i))), none, none, none, none], [], sh_W Ns (zGp gq) ob sl ext, zJ s m x) := by
  by_cases c0 : s (6 * i + 1) < 0 ∨ ¬ s (6 * i + 1) ≤ 2
  · exact (w_set (kc := 13 + kc) (nc := 193 + nc) s Ns i hNs hi (zGp gq) (zGp gq) ob ob sl ext m (zU (zU m 0 0 0) 0 0 1) x x (zJo x) 1 0 (x_L_set_1 (zJo x) ob sl ext (s (6 * i + 1)) (s (6 * i + 2)) (by rw [zPl_Jo]; exact x_X9_set_0 x sl ext (s (6 * i + 1)) (s (6 * i + 2)) (bR_n c0))) (fun _ _ => rfl) (c_X10_set_b1 m (zGp gq) (s (6 * i + 1)) (s (6 * i + 2)) c0) zU_s (fun q => absurd q (by decide)) (zV.widen (by omega) (by omega) (k9 _ _ _ _ _ _ (H.bad 1)))).widen (by omega) (by omega)
  · have l0 : ¬ s (6 * i + 1) < 0 := fun q => c0 (Or.inl q)
    have u0 : s (6 * i + 1) ≤ 2 := Classical.byContradiction fun q => c0 (Or.inr q)
    obtain ⟨w, hw2, e0⟩ := num_of 2 (by decide) l0 u0
    have hw : w < 3 := by omega
    have kl : ∀ w, w < 3 → (g_X10_leastOf (nI w) = zLo w ∧ g_X10_mostOf (nI w) = zHi w) ∧ (0 : Int32) ≤ zLo w ∧ zHi w ≤ 9 := by decide +kernel
    obtain ⟨⟨k1, k2⟩, k3, k4⟩ := kl w hw
    by_cases c1 : s (6 * i + 2) < zLo w ∨ ¬ s (6 * i + 2) ≤ zHi w
    · exact (w_set (kc := 13 + kc) (nc := 193 + nc) s Ns i hNs hi (zGp gq) (zGp gq) ob ob sl ext m (zU (zU m 0 0 0) 0 0 1) x x (zJo x) 1 0 (x_L_set_1 (zJo x) ob sl ext (s (6 * i + 1)) (s (6 * i + 2)) (by rw [zPl_Jo, e0]; exact x_X9_set_1 x sl ext w (s (6 * i + 2)) hw (bR_n c1))) (fun _ _ => rfl) (c_X10_set_b2 m (zGp gq) (s (6 * i + 1)) (s (6 * i + 2)) l0 u0 (by rw [e0, k1, k2]; exact c1)) zU_s (fun q => absurd q (by decide)) (zV.widen (by omega) (by omega) (k9 _ _ _ _ _ _ (H.bad 1)))).widen (by omega) (by omega)
    · have l1 : ¬ s (6 * i + 2) < zLo w := fun q => c1 (Or.inl q)
      have u1 : s (6 * i + 2) ≤ zHi w := Classical.byContradiction fun q => c1 (Or.inr q)
      obtain ⟨f, hf, e1⟩ := num_of 9 (by decide) (fun q => l1 (Int32.lt_of_lt_of_le q k3)) (Int32.le_trans u1 k4)
      obtain ⟨ea, ez, hE⟩ := ok_set H hw (v := s (6 * i + 2)) ⟨f, hf, e1⟩
      exact (w_set (kc := 14 + kc) (nc := 199 + nc) s Ns i hNs hi (zGp gq) (zGp (h_X10_set m gq pc w (s (6 * i + 2)))) ob (vp_updL ob 0 ((g_X9_set x nx w (s (6 * i + 2))).1).toInt64) sl ext m (g_X10_set m gq pc w (s (6 * i + 2))).2 x ((g_X9_set x nx w (s (6 * i + 2))).2) (zPs (zJo x) 1 (sh_X sl ext).length ((g_X9_set x nx w (s (6 * i + 2))).2)) 0 (g_X10_set m gq pc w (s (6 * i + 2))).1 (c_L_set (zJo x) ((g_X9_set x nx w (s (6 * i + 2))).2) ob sl ext (s (6 * i + 1)) (s (6 * i + 2)) ((g_X9_set x nx w (s (6 * i + 2))).1) (by rw [zPl_Jo, e0]; exact c_X9_set x sl ext nx w (s (6 * i + 2)) H.x33 H.nx11 hw l1 (Int32.not_lt.mpr u1))) (fun j hj => Jo_s hj) (by rw [e0]; exact c_X10_set m gq pc w (s (6 * i + 2)) H.m3 H.pc10 H.hq hw (by rw [k1]; exact l1) (by rw [k2]; exact u1)) ez (fun _ => by rw [ob_s, ea]) (zV.widen (by omega) (by omega) (k9 _ _ _ _ _ _ hE))).widen (by omega) (by omega)
theorem K_truncate {Z : zS → Prop} {kc nc : Nat} (s : Nat → Int32) (Ns i : Nat) (hNs : Ns < 2 ^ 31) (hi : 6 * i + 6 ≤ Ns) (ob : Nat → Int64) (H : xR n oz nx pc ty rp T sl ext gq x m) (k9 : zK9 kc nc Z s Ns (i + 1) (T + 601)) : zV s Ns (14 + kc) (199 + nc) Z (zCase 17, [some (.retAddr 998), some (.ref 22), some (.ref 0), some (.ref 21), some (.int (nI (6 * i))), none, none, none, none], [], sh_W Ns (zGp gq) ob sl ext, zJ s m x) := by
  by_cases c0 : s (6 * i + 1) < 0 ∨ ¬ s (6 * i + 1) ≤ nI ty
  · exact (w_truncate (kc := 13 + kc) (nc := 193 + nc) s Ns i hNs hi (zGp gq) (zGp gq) ob ob sl ext m (zU (zU m 0 0 0) 0 0 1) x x (zJo x) 1 0 (x_L_truncate_1 (zJo x) ob sl ext (s (6 * i + 1)) (by rw [zPl_Jo]; exact x_X9_truncate_0 x sl ext (s (6 * i + 1)) (by rw [H.ty2]; exact bR_n c0))) (fun _ _ => rfl) (c_X10_truncate_b1 m (zGp gq) (s (6 * i + 1)) (by rw [H.ty8]; exact c0)) zU_s (fun q => absurd q (by decide)) (zV.widen (by omega) (by omega) (k9 _ _ _ _ _ _ (H.bad 1)))).widen (by omega) (by omega)
  · have l0 : ¬ s (6 * i + 1) < 0 := fun q => c0 (Or.inl q)
    have u0 : s (6 * i + 1) ≤ nI ty := Classical.byContradiction fun q => c0 (Or.inr q)
    obtain ⟨ea, ez, hE⟩ := ok_truncate H l0 u0
    exact (w_truncate (kc := 14 + kc) (nc := 199 + nc) s Ns i hNs hi (zGp gq) (zGp gq) ob (vp_updL ob 0 ((g_X9_truncate x (s (6 * i + 1))).1).toInt64) sl ext m (g_X10_truncate m gq pc (s (6 * i + 1))).2 x ((g_X9_truncate x (s (6 * i + 1))).2) (zPs (zJo x) 1 (sh_X sl ext).length ((g_X9_truncate x (s (6 * i + 1))).2)) 0 (g_X10_truncate m gq pc (s (6 * i + 1))).1 (c_L_truncate (zJo x) ((g_X9_truncate x (s (6 * i + 1))).2) ob sl ext (s (6 * i + 1)) ((g_X9_truncate x (s (6 * i + 1))).1) (by rw [zPl_Jo]; exact c_X9_truncate x sl ext (s (6 * i + 1)) l0 (by rw [H.ty2]; exact u0))) (fun j hj => Jo_s hj) (c_X10_truncate m gq pc (s (6 * i + 1)) H.m3 H.pc10 H.hq l0 (by rw [H.ty8]; exact u0)) ez (fun _ => by rw [ob_s, ea]) (zV.widen (by omega) (by omega) (k9 _ _ _ _ _ _ hE))).widen (by omega) (by omega)
theorem zGp_lt (hq : zPm gq) : ∀ j q, zGp gq j = some q → q < 21 := by
  intro j q e
  unfold zGp at e
  split at e
  · rename_i hj
    have := hq.1 j hj
    obtain rfl := Option.some.inj e
    omega
  · cases e
theorem m_keep (H : xR n oz nx pc ty rp T sl ext gq x m) {k : Nat} (hk : k < 2) : zC yy_X10_keep 0 0 [.ref 0, .int (nI k)] (sh_Model (zGp gq)) m (some (.int (m 1 0))) (sh_Model (zGp gq)) (qKm m k) := by
  rcases (show k = 0 ∨ k = 1 by omega) with rfl | rfl
  · exact c_X10_keep m gq pc H.m3 H.pc10 H.hq
  · exact c_X10_keep_1 m gq pc H.m3 H.pc10 H.hq
theorem m_restore (H : xR n oz nx pc ty rp T sl ext gq x m) {k : Nat} (hk : k < 2) (h16 : ¬ m 16 k = 0) : zC yy_X10_restore 0 0 [.ref 0, .int (nI k)] (sh_Model (zGp gq)) m (some (.int ((zCp (zU m 0 0 0) (14 + k) 1) 1 0))) (sh_Model (zGp gq)) (qRm m k) := by
  rcases (show k = 0 ∨ k = 1 by omega) with rfl | rfl
  · have := c_X10_restore m gq pc H.m3 H.pc10 H.hq
    have e : g_X10_restore m gq pc = ((zCp (zU m 0 0 0) 14 1) 1 0, qRm m 0) := if_neg h16
    rw [e] at this
    exact this
  · have := c_X10_restore_1 m gq pc H.m3 H.pc10 H.hq
    have e : g_X10_restore_1 m gq pc = ((zCp (zU m 0 0 0) 15 1) 1 0, qRm m 1) := if_neg h16
    rw [e] at this
    exact this
theorem m_restore_n (H : xR n oz nx pc ty rp T sl ext gq x m) {k : Nat} (hk : k < 2) (h16 : m 16 k = 0) : zC yy_X10_restore 0 0 [.ref 0, .int (nI k)] (sh_Model (zGp gq)) m (some (.int 0)) (sh_Model (zGp gq)) (zU (zU m 0 0 0) 0 0 2) := by
  rcases (show k = 0 ∨ k = 1 by omega) with rfl | rfl
  · have := c_X10_restore m gq pc H.m3 H.pc10 H.hq
    have e : g_X10_restore m gq pc = (0, (zU (zU m 0 0 0) 0 0 2)) := if_pos h16
    rw [e] at this
    exact this
  · have := c_X10_restore_1 m gq pc H.m3 H.pc10 H.hq
    have e : g_X10_restore_1 m gq pc = (0, (zU (zU m 0 0 0) 0 0 2)) := if_pos h16
    rw [e] at this
    exact this
theorem K_keep {Z : zS → Prop} {kc nc : Nat} (s : Nat → Int32) (Ns i : Nat) (hNs : Ns < 2 ^ 31) (hi : 6 * i + 6 ≤ Ns) (ob : Nat → Int64) (H : xR n oz nx pc ty rp T sl ext gq x m) (k9 : zK9 kc nc Z s Ns (i + 1) (T + 601)) : zV s Ns (14 + kc) (199 + nc) Z (zCase 14, [some (.retAddr 998), some (.ref 22), some (.ref 0), some (.ref 21), some (.int (nI (6 * i))), none, none, none, none], [], sh_W Ns (zGp gq) ob sl ext, zJ s m x) := by
  by_cases c0 : s (6 * i + 1) < 0 ∨ ¬ s (6 * i + 1) ≤ 1
  · exact (w_keepO (kc := 13 + kc) (nc := 193 + nc) s Ns i hNs hi (zGp gq) (zGp gq) ob ob sl ext m (zU (zU m 0 0 0) 0 0 1) x x (zJo x) 1 0 (x_L_keep_1 (zJo x) ob sl ext (s (6 * i + 1)) (by rw [zPl_Jo]; exact x_X9_keep_0 x sl ext (s (6 * i + 1)) (bR_n c0))) (fun _ _ => rfl) (c_X10_keep_b1 m (zGp gq) (s (6 * i + 1)) c0) zU_s (fun q => absurd q (by decide)) (zV.widen (by omega) (by omega) (k9 _ _ _ _ _ _ (H.bad 1)))).widen (by omega) (by omega)
  · have l0 : ¬ s (6 * i + 1) < 0 := fun q => c0 (Or.inl q)
    have u0 : s (6 * i + 1) ≤ 1 := Classical.byContradiction fun q => c0 (Or.inr q)
    obtain ⟨k, hk1, e0⟩ := num_of 1 (by decide) l0 u0
    have hk : k < 2 := by omega
    have hxs := H.xs
    cases hs : sl k with
    | none =>
      obtain ⟨ea, ez, hE⟩ := ok_keep_new H hk hs
      exact w_keep_new (k1 := 14) (n1 := 199) (kc := kc) (nc := nc) s Ns i hNs hi (zGp gq) (zGp gq) ob (vp_updL ob 0 (g_X4_copyFrom (zKn x (191 + ext.length)) (191 + ext.length) 5 5 0).toInt64) sl (zSls sl k (191 + ext.length)) ext (ext ++ sh_Office.map (zRe (191 + ext.length))) (zGp_lt H.hq) m (qKm m k) x (g_X4_copyFrom (zKn x (191 + ext.length)) (191 + ext.length) 5) (zPs (zJo x) 1 (sh_X (zSls sl k (191 + ext.length)) (ext ++ sh_Office.map (zRe (191 + ext.length)))).length (g_X4_copyFrom (zKn x (191 + ext.length)) (191 + ext.length) 5)) 0 (m 1 0) (c_L_keep_new (zJo x) (g_X4_copyFrom (zKn x (191 + ext.length)) (191 + ext.length) 5) ob sl (zSls sl k (191 + ext.length)) ext (ext ++ sh_Office.map (zRe (191 + ext.length))) (s (6 * i + 1)) (g_X4_copyFrom (zKn x (191 + ext.length)) (191 + ext.length) 5 5 0) 14 199 (by rw [zPl_Jo, e0]; exact c_X9_keep_new x sl ext k hk hs (fun j q hq => by have := (hxs.2.1 j q hq).1; omega) hxs.1)) (fun j hj => Jo_s hj) (by rw [e0]; exact m_keep H hk) ez (fun _ => by rw [ob_s, ea]) (k9 _ _ _ _ _ _ hE)
    | some q =>
      obtain ⟨ea, ez, hE⟩ := ok_keep_old H hk hs
      exact (w_keepO (kc := 14 + kc) (nc := 199 + nc) s Ns i hNs hi (zGp gq) (zGp gq) ob (vp_updL ob 0 (g_X4_copyFrom x q 5 5 0).toInt64) sl ext m (qKm m k) x (g_X4_copyFrom x q 5) (zPs (zJo x) 1 (sh_X sl ext).length (g_X4_copyFrom x q 5)) 0 (m 1 0) (c_L_keep (zJo x) (g_X4_copyFrom x q 5) ob sl ext (s (6 * i + 1)) (g_X4_copyFrom x q 5 5 0) (by rw [zPl_Jo, e0]; exact c_X9_keep_old x sl ext k hk q hs (hxs.2.1 k q hs).1.2.2)) (fun j hj => Jo_s hj) (by rw [e0]; exact m_keep H hk) ez (fun _ => by rw [ob_s, ea]) (zV.widen (by omega) (by omega) (k9 _ _ _ _ _ _ hE))).widen (by omega) (by omega)
theorem K_restore {Z : zS → Prop} {kc nc : Nat} (s : Nat → Int32) (Ns i : Nat) (hNs : Ns < 2 ^ 31) (hi : 6 * i + 6 ≤ Ns) (ob : Nat → Int64) (H : xR n oz nx pc ty rp T sl ext gq x m) (k9 : zK9 kc nc Z s Ns (i + 1) (T + 601)) : zV s Ns (14 + kc) (199 + nc) Z (zCase 15, [some (.retAddr 998), some (.ref 22), some (.ref 0), some (.ref 21), some (.int (nI (6 * i))), none, none, none, none], [], sh_W Ns (zGp gq) ob sl ext, zJ s m x) := by
  by_cases c0 : s (6 * i + 1) < 0 ∨ ¬ s (6 * i + 1) ≤ 1
  · exact (w_restore (kc := 13 + kc) (nc := 193 + nc) s Ns i hNs hi (zGp gq) (zGp gq) ob ob sl ext m (zU (zU m 0 0 0) 0 0 1) x x (zJo x) 1 0 (x_L_restore_1 (zJo x) ob sl ext (s (6 * i + 1)) (by rw [zPl_Jo]; exact x_X9_restore_0 x sl ext (s (6 * i + 1)) (bR_n c0))) (fun _ _ => rfl) (c_X10_restore_b1 m (zGp gq) (s (6 * i + 1)) c0) zU_s (fun q => absurd q (by decide)) (zV.widen (by omega) (by omega) (k9 _ _ _ _ _ _ (H.bad 1)))).widen (by omega) (by omega)
  · have l0 : ¬ s (6 * i + 1) < 0 := fun q => c0 (Or.inl q)
    have u0 : s (6 * i + 1) ≤ 1 := Classical.byContradiction fun q => c0 (Or.inr q)
    obtain ⟨k, hk1, e0⟩ := num_of 1 (by decide) l0 u0
    have hk : k < 2 := by omega
    have hxs := H.xs
    cases hs : sl k with
    | none =>
      obtain ⟨h16, hE⟩ := ok_restore_n H hk hs
      exact (w_restore (kc := 13 + kc) (nc := 193 + nc) s Ns i hNs hi (zGp gq) (zGp gq) ob ob sl ext m (zU (zU m 0 0 0) 0 0 2) x x (zJo x) 2 0 (x_L_restore_2 (zJo x) ob sl ext (s (6 * i + 1)) (by rw [zPl_Jo, e0]; exact x_X9_restore_n x sl ext k hk hs)) (fun _ _ => rfl) (by rw [e0]; exact m_restore_n H hk h16) zU_s (fun q => absurd q (by decide)) (zV.widen (by omega) (by omega) (k9 _ _ _ _ _ _ hE))).widen (by omega) (by omega)
    | some q =>
      obtain ⟨h16, ea, ez, hE⟩ := ok_restore H hk hs
      exact (w_restore (kc := 14 + kc) (nc := 199 + nc) s Ns i hNs hi (zGp gq) (zGp gq) ob (vp_updL ob 0 (g_X3_forget (g_X4_copyFrom x 5 q) 5 0).toInt64) sl ext m (qRm m k) x (g_X3_forget (g_X4_copyFrom x 5 q)) (zPs (zJo x) 1 (sh_X sl ext).length (g_X3_forget (g_X4_copyFrom x 5 q))) 0 ((zCp (zU m 0 0 0) (14 + k) 1) 1 0) (c_L_restore (zJo x) (g_X3_forget (g_X4_copyFrom x 5 q)) ob sl ext (s (6 * i + 1)) (g_X3_forget (g_X4_copyFrom x 5 q) 5 0) (by rw [zPl_Jo, e0]; exact c_X9_restore_old x sl ext k hk q hs (hxs.2.1 k q hs).1.2.2)) (fun j hj => Jo_s hj) (by rw [e0]; exact m_restore H hk h16) ez (fun _ => by rw [ob_s, ea]) (zV.widen (by omega) (by omega) (k9 _ _ _ _ _ _ hE))).widen (by omega) (by omega)
end CASES

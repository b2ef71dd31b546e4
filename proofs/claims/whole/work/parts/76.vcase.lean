/-! THE CASES of the law -/
section CASES
variable {n oz nx pc ty rp T : Nat} {sl : Nat → Option Nat} {ext : List va_E} {gq : Nat → Nat} {x m : zM}
theorem K_load {Z : zS → Prop} {kc nc : Nat} (s : Nat → Int32) (Ns i : Nat) (hNs : Ns < 2 ^ 31) (hi : 6 * i + 6 ≤ Ns) (ob : Nat → Int64) (H : xR n oz nx pc ty rp T sl ext gq x m) (hT : T < 2 ^ 28) (k9 : zK9 kc nc Z s Ns (i + 1) (T + 601)) : zV s Ns (14 + kc) (199 + nc) Z (zCase 0, [some (.retAddr 998), some (.ref 22), some (.ref 0), some (.ref 21), some (.int (nI (6 * i))), none, none, none, none], [], sh_W Ns (zGp gq) ob sl ext, zJ s m x) := by
  obtain ⟨e, e0, hE⟩ := ok_load H
  have hx := c_X9_load x sl ext ty nx H.ty2 H.ty6 H.x33 H.nx11
  have hm := c_X10_load m gq pc ty n H.m3 H.pc10 H.hq H.ty8 H.ty6 H.wn
  rw [e] at hx
  exact (v_load s Ns i hNs hi (zGp gq) _ ob sl ext m _ x _ _ hx hm (k9 _ _ _ _ _ _ hE)).widen (by omega) (by omega)
theorem K_close {Z : zS → Prop} {kc nc : Nat} (s : Nat → Int32) (Ns i : Nat) (hNs : Ns < 2 ^ 31) (hi : 6 * i + 6 ≤ Ns) (ob : Nat → Int64) (H : xR n oz nx pc ty rp T sl ext gq x m) (hT : T < 2 ^ 28) (k9 : zK9 kc nc Z s Ns (i + 1) (T + 601)) : zV s Ns (14 + kc) (199 + nc) Z (zCase 4, [some (.retAddr 998), some (.ref 22), some (.ref 0), some (.ref 21), some (.int (nI (6 * i))), none, none, none, none], [], sh_W Ns (zGp gq) ob sl ext, zJ s m x) := by
  obtain ⟨e, e0, hE⟩ := ok_close H
  have hx := c_X9_close x sl ext nx H.x33 H.nx11
  have hm := c_X10_close m gq pc n H.m3 H.pc10 H.hq H.m10 H.n9
  rw [e] at hx
  exact (v_close s Ns i hNs hi (zGp gq) _ ob sl ext m _ x _ _ hx hm (k9 _ _ _ _ _ _ hE)).widen (by omega) (by omega)
theorem K_count {Z : zS → Prop} {kc nc : Nat} (s : Nat → Int32) (Ns i : Nat) (hNs : Ns < 2 ^ 31) (hi : 6 * i + 6 ≤ Ns) (ob : Nat → Int64) (H : xR n oz nx pc ty rp T sl ext gq x m) (hT : T < 2 ^ 28) (k9 : zK9 kc nc Z s Ns (i + 1) (T + 601)) : zV s Ns (14 + kc) (199 + nc) Z (zCase 6, [some (.retAddr 998), some (.ref 22), some (.ref 0), some (.ref 21), some (.int (nI (6 * i))), none, none, none, none], [], sh_W Ns (zGp gq) ob sl ext, zJ s m x) := by
  obtain ⟨e, e0, hE⟩ := ok_count H
  have hx := c_X9_count x sl ext n oz nx H.c5 H.n9 H.x15 H.oz12 H.hc H.x33 H.nx11
  have hm := c_X10_count m gq pc n oz H.m3 H.pc10 H.hq H.m10 H.n9 H.hv H.m19 H.oz12 H.hd
  rw [e] at hx
  exact (v_count s Ns i hNs hi (zGp gq) _ ob sl ext m _ x _ _ hx hm (k9 _ _ _ _ _ _ hE)).widen (by omega) (by omega)
theorem K_giveUp {Z : zS → Prop} {kc nc : Nat} (s : Nat → Int32) (Ns i : Nat) (hNs : Ns < 2 ^ 31) (hi : 6 * i + 6 ≤ Ns) (ob : Nat → Int64) (H : xR n oz nx pc ty rp T sl ext gq x m) (hT : T < 2 ^ 28) (k9 : zK9 kc nc Z s Ns (i + 1) (T + 601)) : zV s Ns (14 + kc) (199 + nc) Z (zCase 8, [some (.retAddr 998), some (.ref 22), some (.ref 0), some (.ref 21), some (.int (nI (6 * i))), none, none, none, none], [], sh_W Ns (zGp gq) ob sl ext, zJ s m x) := by
  obtain ⟨e, e0, hE⟩ := ok_giveUp H hT
  have hx := c_X9_giveUp x sl ext nx H.x33 H.nx11
  have hm := c_X10_giveUp m gq pc H.m3 H.pc10 H.hq
  rw [e] at hx
  exact (v_giveUp s Ns i hNs hi (zGp gq) _ ob sl ext m _ x _ _ hx hm (k9 _ _ _ _ _ _ hE)).widen (by omega) (by omega)
theorem K_undo {Z : zS → Prop} {kc nc : Nat} (s : Nat → Int32) (Ns i : Nat) (hNs : Ns < 2 ^ 31) (hi : 6 * i + 6 ≤ Ns) (ob : Nat → Int64) (H : xR n oz nx pc ty rp T sl ext gq x m) (hT : T < 2 ^ 28) (k9 : zK9 kc nc Z s Ns (i + 1) (T + 601)) : zV s Ns (14 + kc) (199 + nc) Z (zCase 13, [some (.retAddr 998), some (.ref 22), some (.ref 0), some (.ref 21), some (.int (nI (6 * i))), none, none, none, none], [], sh_W Ns (zGp gq) ob sl ext, zJ s m x) := by
  obtain ⟨e, e0, hE⟩ := ok_undo H
  have hx := c_X9_undo x sl ext nx H.x33 H.nx11
  have hm := c_X10_undo m gq pc H.m3 H.pc10 H.hq
  rw [e] at hx
  exact (v_undo s Ns i hNs hi (zGp gq) _ ob sl ext m _ x _ _ hx hm (k9 _ _ _ _ _ _ hE)).widen (by omega) (by omega)
theorem K_append {Z : zS → Prop} {kc nc : Nat} (s : Nat → Int32) (Ns i : Nat) (hNs : Ns < 2 ^ 31) (hi : 6 * i + 6 ≤ Ns) (ob : Nat → Int64) (H : xR n oz nx pc ty rp T sl ext gq x m) (hT : T < 2 ^ 28) (k9 : zK9 kc nc Z s Ns (i + 1) (T + 601)) : zV s Ns (14 + kc) (199 + nc) Z (zCase 16, [some (.retAddr 998), some (.ref 22), some (.ref 0), some (.ref 21), some (.int (nI (6 * i))), none, none, none, none], [], sh_W Ns (zGp gq) ob sl ext, zJ s m x) := by
  obtain ⟨e, e0, hE⟩ := ok_append H (s (6 * i + 1)) (s (6 * i + 2)) (s (6 * i + 3)) (s (6 * i + 4)) (s (6 * i + 5))
  have hx := c_X9_append x sl ext ty (s (6 * i + 1)) (s (6 * i + 2)) (s (6 * i + 3)) (s (6 * i + 4)) (s (6 * i + 5)) H.ty2 H.ty6
  have hm := c_X10_append m (zGp gq) ty (s (6 * i + 1)) (s (6 * i + 2)) (s (6 * i + 3)) (s (6 * i + 4)) (s (6 * i + 5)) H.ty8 H.ty6
  rw [e] at hx
  exact (v_append s Ns i hNs hi (zGp gq) _ ob sl ext m _ x _ _ hx hm (k9 _ _ _ _ _ _ hE)).widen (by omega) (by omega)
theorem K_ahead {Z : zS → Prop} {kc nc : Nat} (s : Nat → Int32) (Ns i : Nat) (hNs : Ns < 2 ^ 31) (hi : 6 * i + 6 ≤ Ns) (ob : Nat → Int64) (H : xR n oz nx pc ty rp T sl ext gq x m) (hT : T < 2 ^ 28) (k9 : zK9 kc nc Z s Ns (i + 1) (T + 601)) : zV s Ns (14 + kc) (199 + nc) Z (zCase 23, [some (.retAddr 998), some (.ref 22), some (.ref 0), some (.ref 21), some (.int (nI (6 * i))), none, none, none, none], [], sh_W Ns (zGp gq) ob sl ext, zJ s m x) := by
  obtain ⟨e, e0, hE⟩ := ok_ahead H
  have hx := c_X9_ahead x sl ext
  have hm := c_X10_ahead m gq pc n H.m3 H.pc10 H.hq H.m10 H.n9 H.hv
  rw [e] at hx
  exact (v_ahead s Ns i hNs hi (zGp gq) _ ob sl ext m _ x _ _ hx hm (k9 _ _ _ _ _ _ hE)).widen (by omega) (by omega)
theorem K_callers {Z : zS → Prop} {kc nc : Nat} (s : Nat → Int32) (Ns i : Nat) (hNs : Ns < 2 ^ 31) (hi : 6 * i + 6 ≤ Ns) (ob : Nat → Int64) (H : xR n oz nx pc ty rp T sl ext gq x m) (hT : T < 2 ^ 28) (k9 : zK9 kc nc Z s Ns (i + 1) (T + 601)) : zV s Ns (14 + kc) (199 + nc) Z (zCase 28, [some (.retAddr 998), some (.ref 22), some (.ref 0), some (.ref 21), some (.int (nI (6 * i))), none, none, none, none], [], sh_W Ns (zGp gq) ob sl ext, zJ s m x) := by
  obtain ⟨e, e0, hE⟩ := ok_callers H
  have hx := c_X9_callers x sl ext n H.c5 H.n9
  have hm := c_X10_callers m gq pc n H.m3 H.pc10 H.hq H.m10 H.n9
  rw [e] at hx
  exact (v_callers s Ns i hNs hi (zGp gq) _ ob sl ext m _ x _ _ hx hm (k9 _ _ _ _ _ _ hE)).widen (by omega) (by omega)
theorem K_vital {Z : zS → Prop} {kc nc : Nat} (s : Nat → Int32) (Ns i : Nat) (hNs : Ns < 2 ^ 31) (hi : 6 * i + 6 ≤ Ns) (ob : Nat → Int64) (H : xR n oz nx pc ty rp T sl ext gq x m) (hT : T < 2 ^ 28) (k9 : zK9 kc nc Z s Ns (i + 1) (T + 601)) : zV s Ns (14 + kc) (199 + nc) Z (zCase 29, [some (.retAddr 998), some (.ref 22), some (.ref 0), some (.ref 21), some (.int (nI (6 * i))), none, none, none, none], [], sh_W Ns (zGp gq) ob sl ext, zJ s m x) := by
  obtain ⟨e, e0, hE⟩ := ok_vital H
  have hx := c_X9_vital x sl ext n H.c5 H.n9
  have hm := c_X10_vital m gq pc n H.m3 H.pc10 H.hq H.m10 H.n9
  rw [e] at hx
  exact (v_vital s Ns i hNs hi (zGp gq) _ ob sl ext m _ x _ _ hx hm (k9 _ _ _ _ _ _ hE)).widen (by omega) (by omega)
theorem K_gap {Z : zS → Prop} {kc nc : Nat} (s : Nat → Int32) (Ns i : Nat) (hNs : Ns < 2 ^ 31) (hi : 6 * i + 6 ≤ Ns) (ob : Nat → Int64) (H : xR n oz nx pc ty rp T sl ext gq x m) (hT : T < 2 ^ 28) (k9 : zK9 kc nc Z s Ns (i + 1) (T + 601)) : zV s Ns (14 + kc) (199 + nc) Z (zCase 31, [some (.retAddr 998), some (.ref 22), some (.ref 0), some (.ref 21), some (.int (nI (6 * i))), none, none, none, none], [], sh_W Ns (zGp gq) ob sl ext, zJ s m x) := by
  obtain ⟨e, e0, hE⟩ := ok_gap H
  have hx := c_X9_gap x sl ext n oz H.c5 H.n9 H.x15 H.oz12
  have hm := c_X10_gap m gq pc n oz H.m3 H.pc10 H.hq H.m10 H.n9 H.m19 H.oz12
  rw [e] at hx
  exact (v_gap s Ns i hNs hi (zGp gq) _ ob sl ext m _ x _ _ hx hm (k9 _ _ _ _ _ _ hE)).widen (by omega) (by omega)
theorem K_writeVotes {Z : zS → Prop} {kc nc : Nat} (s : Nat → Int32) (Ns i : Nat) (hNs : Ns < 2 ^ 31) (hi : 6 * i + 6 ≤ Ns) (ob : Nat → Int64) (H : xR n oz nx pc ty rp T sl ext gq x m) (hT : T < 2 ^ 28) (k9 : zK9 kc nc Z s Ns (i + 1) (T + 601)) : zV s Ns (14 + kc) (199 + nc) Z (zCase 34, [some (.retAddr 998), some (.ref 22), some (.ref 0), some (.ref 21), some (.int (nI (6 * i))), none, none, none, none], [], sh_W Ns (zGp gq) ob sl ext, zJ s m x) := by
  obtain ⟨e, e0, hE⟩ := ok_writeVotes H
  have hx := c_X9_writeVotes x sl ext n H.c5 H.n9
  have hm := c_X10_writeVotes m gq pc n H.m3 H.pc10 H.hq H.m10 H.n9
  rw [e] at hx
  exact (v_writeVotes s Ns i hNs hi (zGp gq) _ ob sl ext m _ x _ _ hx hm (k9 _ _ _ _ _ _ hE)).widen (by omega) (by omega)
theorem K_reportByte {Z : zS → Prop} {kc nc : Nat} (s : Nat → Int32) (Ns i : Nat) (hNs : Ns < 2 ^ 31) (hi : 6 * i + 6 ≤ Ns) (ob : Nat → Int64) (H : xR n oz nx pc ty rp T sl ext gq x m) (hT : T < 2 ^ 28) (k9 : zK9 kc nc Z s Ns (i + 1) (T + 601)) : zV s Ns (14 + kc) (199 + nc) Z (zCase 35, [some (.retAddr 998), some (.ref 22), some (.ref 0), some (.ref 21), some (.int (nI (6 * i))), none, none, none, none], [], sh_W Ns (zGp gq) ob sl ext, zJ s m x) := by
  obtain ⟨e, e0, hE⟩ := ok_reportByte H (s (6 * i + 1))
  have hx := c_X9_reportByte x sl ext rp (s (6 * i + 1)) H.rp7 H.rp9
  have hm := c_X10_reportByte m (zGp gq) rp (s (6 * i + 1)) H.rp10 H.rp9
  rw [e] at hx
  exact (v_reportByte s Ns i hNs hi (zGp gq) _ ob sl ext m _ x _ _ hx hm (k9 _ _ _ _ _ _ hE)).widen (by omega) (by omega)
end CASES

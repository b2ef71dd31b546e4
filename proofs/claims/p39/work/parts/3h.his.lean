/-! THE HISTORY: eleven offices, one behind the other -/
theorem zCe_re {n b : Nat} {q : va_E} (h : zCe n q) : zCe (b + n) (zRe b q) := by
  intro as as' ha cA ex f
  rw [← zTrE_re, ← zTrE_re]
  exact h _ _ (fun k hk => ha (b + k) (by omega)) cA ex f
theorem zCs_re {n b : Nat} {sh : List va_E} (h : zCs n sh) : zCs (b + n) (sh.map (zRe b)) := fun q hq => by
  obtain ⟨x, hx, rfl⟩ := List.mem_map.mp hq
  exact zCe_re (h x hx)
theorem zCs_Office : zCs 14 sh_Office := zCs_of rfl
def zOffs (b : Nat) : Nat → List va_E
  | 0 => []
  | i + 1 => zOffs b i ++ sh_Office.map (zRe (b + 14 * i))
theorem zOffs_len (b : Nat) : ∀ i, (zOffs b i).length = 14 * i
  | 0 => rfl
  | i + 1 => by
    rw [zOffs, List.length_append, zOffs_len b i, List.length_map]
    show 14 * i + 14 = _
    omega
theorem zOffs_cs (b : Nat) : ∀ i, zCs (b + 14 * i) (zOffs b i)
  | 0 => fun q hq => by cases hq
  | i + 1 => by
    rw [zOffs]
    exact ((zOffs_cs b i).mono (by omega)).app (by have := zCs_re (b := b + 14 * i) zCs_Office; rw [show b + 14 * (i + 1) = b + 14 * i + 14 by omega]; exact this)
def zHr (b i : Nat) : Nat → Option Nat := fun j => if j < i then some (b + 14 * j) else none
def zHis (i : Nat) : List va_E := .inr (1, [.int 0, .int 0, .ref 1]) :: .inl (3, 11, .inr (.inr (.inr (.inr (zHr 2 i))))) :: zOffs 2 i
theorem zHis_len (i : Nat) : (zHis i).length = 2 + 14 * i := by
  show (zOffs 2 i).length + 1 + 1 = _
  rw [zOffs_len]
  omega
theorem zHis_cs (i : Nat) : zCs (2 + 14 * i) (zHis i) := by
  refine zCs.cons ((zEb_ok (n := 2) rfl).mono (by omega)) (zCs.cons (zCe_ref fun j k h => ?_) (zOffs_cs 2 i))
  unfold zHr at h
  split at h
  · cases h
    omega
  · cases h
noncomputable abbrev yy_X3_init : zY := (yX3_init, cX3_init, 2, none, 3, 60)
set_option maxRecDepth 100000 in
theorem zHis_it {Z : zS → Prop} {kc nc i : Nat} (hi : i < 11) (k9 : zT yy_X3_init kc nc Z (15, [some (.ref 0), some (.int (nI (i + 1)))], [], zHis (i + 1), zM0)) : zT yy_X3_init (14 + kc) (199 + nc) Z (15, [some (.ref 0), some (.int (nI i))], [], zHis i, zM0) := by
  refine zT.run [(.iload_n 1, 0, 0, 0), (.bipush 11, 0, 0, 0)] (pe := 18) (ls' := [some (.ref 0), some (.int (nI i))]) (st' := [.int 11, .int (nI i)]) (M' := zM0) (by decide +kernel) rfl ?_
  refine zT.cge (tgt := 40) (off := 22) (by decide +kernel) (by decide) (fun c => absurd c (zGeN (n := 11) rfl (by omega) (by omega))) (fun _ => ?_)
  refine zT.run [(.aload_n 0, 0, 0, 0), (.getfield 13, 1, 2, 1221), (.iload_n 1, 0, 0, 0)] (pe := 26) (ls' := [some (.ref 0), some (.int (nI i))]) (st' := [.int (nI i), .ref 1]) (M' := zM0) (by decide +kernel) rfl ?_
  have hlen := zHis_len i
  have hcs : zCs (zHis i).length (zHis i) := by rw [hlen]; exact zHis_cs i
  have hls : zLb (zHis i).length [some (.ref 0), some (.int (nI i))] = true := by rw [hlen]; exact (by show (Nat.blt 0 (2 + 14 * i) && (true && true)) = true; rw [show Nat.blt 0 (2 + 14 * i) = true from Nat.ble_eq_true_of_le (by omega)]; rfl)
  have hst : ([.int (nI i), .ref 1] : List Value).all (zVb (zHis i).length) = true := by rw [hlen]; exact (by show (true && (Nat.blt 1 (2 + 14 * i) && true)) = true; rw [show Nat.blt 1 (2 + 14 * i) = true from Nat.ble_eq_true_of_le (by omega)]; rfl)
  rw [show 14 + kc = 1 + (13 + kc) by omega, show 199 + nc = 11 + (188 + nc) by omega]
  refine zT.new (ci := 2) (ik := 11) (q := (RX4, TX4, 11)) (fs := [.int 0, .int 0, .null, .null, .null, .null, .null, .null, .null, .null, .null]) rfl (zIn (w := 1215) (by decide +kernel) rfl) (zIn (w := 1080) (by decide +kernel) rfl) (zIn (w := 1004) (by decide +kernel) rfl) (by decide +kernel) rfl (fun _ _ => rfl) hcs hls hst (by decide +kernel) ?_
  refine zT.eqM (M2 := zM0) zUa0 ?_
  rw [hlen]
  refine zT.run [(.dup, 0, 0, 0)] (pe := 30) (ls' := [some (.ref 0), some (.int (nI i))]) (st' := [.ref (2 + 14 * i), .ref (2 + 14 * i), .int (nI i), .ref 1]) (M' := zM0) (by decide +kernel) rfl ?_
  refine zT.eqSh (sh2 := zHis i ++ [.inr (2, [.int 0, .int 0, .null, .null, .null, .null, .null, .null, .null, .null, .null])].map (zRe (2 + 14 * i))) rfl ?_
  have hcs2 : zCs (2 + 14 * i + 1) (zHis i) := (zHis_cs i).mono (by omega)
  have hls2 : zLb (2 + 14 * i + 1) [some (.ref 0), some (.int (nI i))] = true := by show (Nat.blt 0 (2 + 14 * i + 1) && (true && true)) = true; rw [show Nat.blt 0 (2 + 14 * i + 1) = true from Nat.ble_eq_true_of_le (by omega)]; rfl
  have hst2 : ([.ref (2 + 14 * i), .int (nI i), .ref 1] : List Value).all (zVb (2 + 14 * i + 1)) = true := by show (Nat.blt (2 + 14 * i) (2 + 14 * i + 1) && (true && (Nat.blt 1 (2 + 14 * i + 1) && true))) = true; rw [show Nat.blt 1 (2 + 14 * i + 1) = true from Nat.ble_eq_true_of_le (by omega), show Nat.blt (2 + 14 * i) (2 + 14 * i + 1) = true from Nat.ble_eq_true_of_le (by omega)]; rfl
  refine zT.callIN (host := "SealedBallots") (pre := zHis i) (b := 2 + 14 * i) (o := 0) (idx := 17) (av := []) (n := 0) c_X4_init rfl rfl hlen hcs2 hls2 hst2 (fun _ _ => rfl) rfl k_X4_init rfl (zIn (w := 1082) (by decide +kernel) rfl) (zInN (w := 1217) (by decide +kernel) rfl) (by decide +kernel) (Nat.le_of_ble_eq_true rfl) (by decide +kernel) rfl ?_
  refine zT.eqM (M2 := zM0) zPs0 ?_
  have hq : zSg (zHis i ++ sh_Office.map (zRe (2 + 14 * i))) (2 + 14 * i) = some (zRe (2 + 14 * i) (sh_Office.head (by decide))) := by rw [zSg_eq, List.getElem?_append_right (by rw [hlen]; exact Nat.le_refl _), hlen, Nat.sub_self]; rfl
  refine zT.oast (o := 1) (n := 11) (k := i) (g := zHr 2 i) rfl hq rfl hi (by decide) (by decide +kernel) ?_
  refine zT.eqSh (sh2 := zHis (i + 1)) ?_ ?_
  · show _ :: .inl (3, 11, .inr (.inr (.inr (.inr (fun j => if j = i then some (2 + 14 * i) else zHr 2 i j))))) :: (zOffs 2 i ++ sh_Office.map (zRe (2 + 14 * i))) = _ :: .inl (3, 11, .inr (.inr (.inr (.inr (zHr 2 (i + 1)))))) :: zOffs 2 (i + 1)
    have : (fun j => if j = i then some (2 + 14 * i) else zHr 2 i j) = zHr 2 (i + 1) := by
      funext j
      unfold zHr
      by_cases h1 : j = i
      · subst h1
        rw [if_pos rfl, if_pos (by omega)]
      · rw [if_neg h1]
        by_cases h2 : j < i
        · rw [if_pos h2, if_pos (by omega)]
        · rw [if_neg h2, if_neg (by omega)]
    rw [this]
    rfl
  refine zT.run [(.iinc 1 1, 0, 0, 0), (.goto (-22), 0, 0, 0)] (pe := 15) (ls' := [some (.ref 0), some (.int (nI i + 1))]) (st' := []) (M' := zM0) (by decide +kernel) rfl ?_
  refine zT.eq (S1 := (15, [some (.ref 0), some (.int (nI (i + 1)))], [], zHis (i + 1), zM0)) (by rw [nI_succ i]) ?_
  exact k9
theorem zHis_loop {Z : zS → Prop} {kc nc : Nat} (k9 : zT yy_X3_init kc nc Z (15, [some (.ref 0), some (.int (nI 11))], [], zHis 11, zM0)) : ∀ j i, i + j = 11 → zT yy_X3_init (14 * j + kc) (199 * j + nc) Z (15, [some (.ref 0), some (.int (nI i))], [], zHis i, zM0)
  | 0, i, h => by
    obtain rfl : i = 11 := by omega
    show zT _ (0 + kc) (0 + nc) _ _
    rw [Nat.zero_add, Nat.zero_add]
    exact k9
  | j + 1, i, h => by
    have := zHis_it (i := i) (by omega) (zHis_loop k9 j (i + 1) (by omega))
    rw [← Nat.add_assoc, ← Nat.add_assoc] at this
    rw [show 14 * (j + 1) = 14 + 14 * j by omega, show 199 * (j + 1) = 199 + 199 * j by omega]
    exact this
set_option maxRecDepth 100000 in
theorem c_X3_init : zC yy_X3_init 155 2200 [.ref 0] [.inr (1, [.int 0, .int 0, .null])] zM0 none (zHis 11) zM0 := by
  refine zC.of (by decide +kernel) rfl (Nat.le_of_ble_eq_true rfl) ?_
  refine zT.run [(.aload_n 0, 0, 0, 0)] (pe := 1) (ls' := [some (.ref 0), none]) (st' := [.ref 0]) (M' := zM0) (by decide +kernel) rfl ?_
  refine zT.objInit (a := 0) (idx := 3) (zIn (w := 1214) (by decide +kernel) rfl) (zIn (w := 1033) (by decide +kernel) rfl) (zIn (w := 1034) (by decide +kernel) rfl) (Nat.le_of_ble_eq_true rfl) (Nat.le_of_ble_eq_true rfl) (Nat.le_of_ble_eq_true rfl) (by decide +kernel) ?_
  refine zT.run [(.aload_n 0, 0, 0, 0), (.bipush 11, 0, 0, 0)] (pe := 7) (ls' := [some (.ref 0), none]) (st' := [.int 11, .ref 0]) (M' := zM0) (by decide +kernel) rfl ?_
  refine zT.anewO (kc := 154) (nc := 2189) (ik := 11) (N := 11) (zIn (w := 1215) (by decide +kernel) rfl) rfl (by decide) (zCs_of rfl) rfl rfl (by decide +kernel) ?_
  refine zT.eqM (M2 := zM0) zUa0 ?_
  refine zT.putR (ci := 1) (b := 2) (o := 0) (o2 := 1) (idx := 13) (w := 1221) (q := (RX3, TX3, 3)) (fs := [.int 0, .int 0, .null]) rfl rfl (Or.inl rfl) rfl (by decide) (by decide +kernel) (Or.inr ⟨_, rfl⟩) (Or.inr ⟨rfl, rfl, rfl⟩) (by decide +kernel) ?_
  refine zT.eqSh (sh2 := zHis 0) ?_ ?_
  · show ([_, .inl (3, 11, .inr (.inr (.inr (.inr (fun _ => none)))))] : List va_E) = [_, .inl (3, 11, .inr (.inr (.inr (.inr (zHr 2 0)))))]
    have : (fun _ => none) = zHr 2 0 := by funext j; unfold zHr; rw [if_neg (by omega)]
    rw [this]
    rfl
  refine zT.run [(.iconst 0, 0, 0, 0), (.istore_n 1, 0, 0, 0)] (pe := 15) (ls' := [some (.ref 0), some (.int 0)]) (st' := []) (M' := zM0) (by decide +kernel) rfl ?_
  refine zHis_loop (kc := 0) (nc := 0) ?_ 11 0 rfl
  refine zT.run [(.iload_n 1, 0, 0, 0), (.bipush 11, 0, 0, 0)] (pe := 18) (ls' := [some (.ref 0), some (.int (nI 11))]) (st' := [.int 11, .int (nI 11)]) (M' := zM0) (by decide +kernel) rfl ?_
  refine zT.cge (tgt := 40) (off := 22) (by decide +kernel) (by decide) (fun _ => ?_) (fun c => absurd (zGeY (n := 11) rfl) c)
  exact zT.vret rfl rfl (by decide +kernel)
theorem k_X3_init : zOkC yy_X3_init 0 := ⟨⟨⟨zIn (w := 1213) (by decide +kernel) rfl, zIn (w := 1008) (by decide +kernel) rfl⟩, by decide +kernel⟩, by decide +kernel⟩

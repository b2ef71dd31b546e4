/-! BRANCHES -/
section ZBR
variable {Y : zY} {kc nc : Nat} {Z : zS → Prop} {pc tgt : Nat} {ls : zL} {st : List Value} {sh : List va_E} {M : zM} {off : Int}
theorem zT.ceq {x y : Int32} (hd : decode Y.2.1 pc = .ok (.if_icmp .eq off, 3)) (ht : (pc : Int) + off = (tgt : Int)) (kt : x = y → zT Y kc nc Z (tgt, ls, st, sh, M)) (kf : ¬ x = y → zT Y kc nc Z (pc + 3, ls, st, sh, M)) : zT Y kc nc Z (pc, ls, .int y :: .int x :: st, sh, M) := by
  by_cases h : x = y
  · refine zT.step (S1 := (tgt, ls, st, sh, M)) rfl ?_ (kt h)
    intro p l e R s m args below meth c D cA ex A E Q cells slots as _ _ k9 H locs lsR hP hD hS hl
    exact lv_icmp_eq E.1 E.2.1 hd ht (fun _ => k9 H locs lsR hP hD hS hl) (fun h9 => absurd h h9)
  · refine zT.step (S1 := (pc + 3, ls, st, sh, M)) rfl ?_ (kf h)
    intro p l e R s m args below meth c D cA ex A E Q cells slots as _ _ k9 H locs lsR hP hD hS hl
    exact lv_icmp_eq E.1 E.2.1 hd ht (fun h9 => absurd h9 h) (fun _ => k9 H locs lsR hP hD hS hl)
theorem zT.zeq {x : Int32} (hd : decode Y.2.1 pc = .ok (.ifCond .eq off, 3)) (ht : (pc : Int) + off = (tgt : Int)) (kt : x = 0 → zT Y kc nc Z (tgt, ls, st, sh, M)) (kf : ¬ x = 0 → zT Y kc nc Z (pc + 3, ls, st, sh, M)) : zT Y kc nc Z (pc, ls, .int x :: st, sh, M) := by
  by_cases h : x = 0
  · refine zT.step (S1 := (tgt, ls, st, sh, M)) rfl ?_ (kt h)
    intro p l e R s m args below meth c D cA ex A E Q cells slots as _ _ k9 H locs lsR hP hD hS hl
    exact lv_if_eq E.1 E.2.1 hd ht (fun _ => k9 H locs lsR hP hD hS hl) (fun h9 => absurd h h9)
  · refine zT.step (S1 := (pc + 3, ls, st, sh, M)) rfl ?_ (kf h)
    intro p l e R s m args below meth c D cA ex A E Q cells slots as _ _ k9 H locs lsR hP hD hS hl
    exact lv_if_eq E.1 E.2.1 hd ht (fun h9 => absurd h9 h) (fun _ => k9 H locs lsR hP hD hS hl)
theorem zT.cne {x y : Int32} (hd : decode Y.2.1 pc = .ok (.if_icmp .ne off, 3)) (ht : (pc : Int) + off = (tgt : Int)) (kt : ¬ x = y → zT Y kc nc Z (tgt, ls, st, sh, M)) (kf : x = y → zT Y kc nc Z (pc + 3, ls, st, sh, M)) : zT Y kc nc Z (pc, ls, .int y :: .int x :: st, sh, M) := by
  by_cases h : x = y
  · refine zT.step (S1 := (pc + 3, ls, st, sh, M)) rfl ?_ (kf h)
    intro p l e R s m args below meth c D cA ex A E Q cells slots as _ _ k9 H locs lsR hP hD hS hl
    exact lv_icmp_ne E.1 E.2.1 hd ht (fun h9 => absurd h h9) (fun _ => k9 H locs lsR hP hD hS hl)
  · refine zT.step (S1 := (tgt, ls, st, sh, M)) rfl ?_ (kt h)
    intro p l e R s m args below meth c D cA ex A E Q cells slots as _ _ k9 H locs lsR hP hD hS hl
    exact lv_icmp_ne E.1 E.2.1 hd ht (fun _ => k9 H locs lsR hP hD hS hl) (fun h9 => absurd h9 h)
theorem zT.zne {x : Int32} (hd : decode Y.2.1 pc = .ok (.ifCond .ne off, 3)) (ht : (pc : Int) + off = (tgt : Int)) (kt : ¬ x = 0 → zT Y kc nc Z (tgt, ls, st, sh, M)) (kf : x = 0 → zT Y kc nc Z (pc + 3, ls, st, sh, M)) : zT Y kc nc Z (pc, ls, .int x :: st, sh, M) := by
  by_cases h : x = 0
  · refine zT.step (S1 := (pc + 3, ls, st, sh, M)) rfl ?_ (kf h)
    intro p l e R s m args below meth c D cA ex A E Q cells slots as _ _ k9 H locs lsR hP hD hS hl
    exact lv_if_ne E.1 E.2.1 hd ht (fun h9 => absurd h h9) (fun _ => k9 H locs lsR hP hD hS hl)
  · refine zT.step (S1 := (tgt, ls, st, sh, M)) rfl ?_ (kt h)
    intro p l e R s m args below meth c D cA ex A E Q cells slots as _ _ k9 H locs lsR hP hD hS hl
    exact lv_if_ne E.1 E.2.1 hd ht (fun _ => k9 H locs lsR hP hD hS hl) (fun h9 => absurd h9 h)
theorem zT.clt {x y : Int32} (hd : decode Y.2.1 pc = .ok (.if_icmp .lt off, 3)) (ht : (pc : Int) + off = (tgt : Int)) (kt : x < y → zT Y kc nc Z (tgt, ls, st, sh, M)) (kf : ¬ x < y → zT Y kc nc Z (pc + 3, ls, st, sh, M)) : zT Y kc nc Z (pc, ls, .int y :: .int x :: st, sh, M) := by
  by_cases h : x < y
  · refine zT.step (S1 := (tgt, ls, st, sh, M)) rfl ?_ (kt h)
    intro p l e R s m args below meth c D cA ex A E Q cells slots as _ _ k9 H locs lsR hP hD hS hl
    exact lv_icmp_lt E.1 E.2.1 hd ht (fun _ => k9 H locs lsR hP hD hS hl) (fun h9 => absurd h h9)
  · refine zT.step (S1 := (pc + 3, ls, st, sh, M)) rfl ?_ (kf h)
    intro p l e R s m args below meth c D cA ex A E Q cells slots as _ _ k9 H locs lsR hP hD hS hl
    exact lv_icmp_lt E.1 E.2.1 hd ht (fun h9 => absurd h9 h) (fun _ => k9 H locs lsR hP hD hS hl)
theorem zT.zlt {x : Int32} (hd : decode Y.2.1 pc = .ok (.ifCond .lt off, 3)) (ht : (pc : Int) + off = (tgt : Int)) (kt : x < 0 → zT Y kc nc Z (tgt, ls, st, sh, M)) (kf : ¬ x < 0 → zT Y kc nc Z (pc + 3, ls, st, sh, M)) : zT Y kc nc Z (pc, ls, .int x :: st, sh, M) := by
  by_cases h : x < 0
  · refine zT.step (S1 := (tgt, ls, st, sh, M)) rfl ?_ (kt h)
    intro p l e R s m args below meth c D cA ex A E Q cells slots as _ _ k9 H locs lsR hP hD hS hl
    exact lv_if_lt E.1 E.2.1 hd ht (fun _ => k9 H locs lsR hP hD hS hl) (fun h9 => absurd h h9)
  · refine zT.step (S1 := (pc + 3, ls, st, sh, M)) rfl ?_ (kf h)
    intro p l e R s m args below meth c D cA ex A E Q cells slots as _ _ k9 H locs lsR hP hD hS hl
    exact lv_if_lt E.1 E.2.1 hd ht (fun h9 => absurd h9 h) (fun _ => k9 H locs lsR hP hD hS hl)
theorem zT.cge {x y : Int32} (hd : decode Y.2.1 pc = .ok (.if_icmp .ge off, 3)) (ht : (pc : Int) + off = (tgt : Int)) (kt : y ≤ x → zT Y kc nc Z (tgt, ls, st, sh, M)) (kf : ¬ y ≤ x → zT Y kc nc Z (pc + 3, ls, st, sh, M)) : zT Y kc nc Z (pc, ls, .int y :: .int x :: st, sh, M) := by
  by_cases h : y ≤ x
  · refine zT.step (S1 := (tgt, ls, st, sh, M)) rfl ?_ (kt h)
    intro p l e R s m args below meth c D cA ex A E Q cells slots as _ _ k9 H locs lsR hP hD hS hl
    exact lv_icmp_ge E.1 E.2.1 hd ht (fun _ => k9 H locs lsR hP hD hS hl) (fun h9 => absurd h h9)
  · refine zT.step (S1 := (pc + 3, ls, st, sh, M)) rfl ?_ (kf h)
    intro p l e R s m args below meth c D cA ex A E Q cells slots as _ _ k9 H locs lsR hP hD hS hl
    exact lv_icmp_ge E.1 E.2.1 hd ht (fun h9 => absurd h9 h) (fun _ => k9 H locs lsR hP hD hS hl)
theorem zT.zge {x : Int32} (hd : decode Y.2.1 pc = .ok (.ifCond .ge off, 3)) (ht : (pc : Int) + off = (tgt : Int)) (kt : 0 ≤ x → zT Y kc nc Z (tgt, ls, st, sh, M)) (kf : ¬ 0 ≤ x → zT Y kc nc Z (pc + 3, ls, st, sh, M)) : zT Y kc nc Z (pc, ls, .int x :: st, sh, M) := by
  by_cases h : 0 ≤ x
  · refine zT.step (S1 := (tgt, ls, st, sh, M)) rfl ?_ (kt h)
    intro p l e R s m args below meth c D cA ex A E Q cells slots as _ _ k9 H locs lsR hP hD hS hl
    exact lv_if_ge E.1 E.2.1 hd ht (fun _ => k9 H locs lsR hP hD hS hl) (fun h9 => absurd h h9)
  · refine zT.step (S1 := (pc + 3, ls, st, sh, M)) rfl ?_ (kf h)
    intro p l e R s m args below meth c D cA ex A E Q cells slots as _ _ k9 H locs lsR hP hD hS hl
    exact lv_if_ge E.1 E.2.1 hd ht (fun h9 => absurd h9 h) (fun _ => k9 H locs lsR hP hD hS hl)
theorem zT.cgt {x y : Int32} (hd : decode Y.2.1 pc = .ok (.if_icmp .gt off, 3)) (ht : (pc : Int) + off = (tgt : Int)) (kt : y < x → zT Y kc nc Z (tgt, ls, st, sh, M)) (kf : ¬ y < x → zT Y kc nc Z (pc + 3, ls, st, sh, M)) : zT Y kc nc Z (pc, ls, .int y :: .int x :: st, sh, M) := by
  by_cases h : y < x
  · refine zT.step (S1 := (tgt, ls, st, sh, M)) rfl ?_ (kt h)
    intro p l e R s m args below meth c D cA ex A E Q cells slots as _ _ k9 H locs lsR hP hD hS hl
    exact lv_icmp_gt E.1 E.2.1 hd ht (fun _ => k9 H locs lsR hP hD hS hl) (fun h9 => absurd h h9)
  · refine zT.step (S1 := (pc + 3, ls, st, sh, M)) rfl ?_ (kf h)
    intro p l e R s m args below meth c D cA ex A E Q cells slots as _ _ k9 H locs lsR hP hD hS hl
    exact lv_icmp_gt E.1 E.2.1 hd ht (fun h9 => absurd h9 h) (fun _ => k9 H locs lsR hP hD hS hl)
theorem zT.zgt {x : Int32} (hd : decode Y.2.1 pc = .ok (.ifCond .gt off, 3)) (ht : (pc : Int) + off = (tgt : Int)) (kt : 0 < x → zT Y kc nc Z (tgt, ls, st, sh, M)) (kf : ¬ 0 < x → zT Y kc nc Z (pc + 3, ls, st, sh, M)) : zT Y kc nc Z (pc, ls, .int x :: st, sh, M) := by
  by_cases h : 0 < x
  · refine zT.step (S1 := (tgt, ls, st, sh, M)) rfl ?_ (kt h)
    intro p l e R s m args below meth c D cA ex A E Q cells slots as _ _ k9 H locs lsR hP hD hS hl
    exact lv_if_gt E.1 E.2.1 hd ht (fun _ => k9 H locs lsR hP hD hS hl) (fun h9 => absurd h h9)
  · refine zT.step (S1 := (pc + 3, ls, st, sh, M)) rfl ?_ (kf h)
    intro p l e R s m args below meth c D cA ex A E Q cells slots as _ _ k9 H locs lsR hP hD hS hl
    exact lv_if_gt E.1 E.2.1 hd ht (fun h9 => absurd h9 h) (fun _ => k9 H locs lsR hP hD hS hl)
theorem zT.cle {x y : Int32} (hd : decode Y.2.1 pc = .ok (.if_icmp .le off, 3)) (ht : (pc : Int) + off = (tgt : Int)) (kt : x ≤ y → zT Y kc nc Z (tgt, ls, st, sh, M)) (kf : ¬ x ≤ y → zT Y kc nc Z (pc + 3, ls, st, sh, M)) : zT Y kc nc Z (pc, ls, .int y :: .int x :: st, sh, M) := by
  by_cases h : x ≤ y
  · refine zT.step (S1 := (tgt, ls, st, sh, M)) rfl ?_ (kt h)
    intro p l e R s m args below meth c D cA ex A E Q cells slots as _ _ k9 H locs lsR hP hD hS hl
    exact lv_icmp_le E.1 E.2.1 hd ht (fun _ => k9 H locs lsR hP hD hS hl) (fun h9 => absurd h h9)
  · refine zT.step (S1 := (pc + 3, ls, st, sh, M)) rfl ?_ (kf h)
    intro p l e R s m args below meth c D cA ex A E Q cells slots as _ _ k9 H locs lsR hP hD hS hl
    exact lv_icmp_le E.1 E.2.1 hd ht (fun h9 => absurd h9 h) (fun _ => k9 H locs lsR hP hD hS hl)
theorem zT.zle {x : Int32} (hd : decode Y.2.1 pc = .ok (.ifCond .le off, 3)) (ht : (pc : Int) + off = (tgt : Int)) (kt : x ≤ 0 → zT Y kc nc Z (tgt, ls, st, sh, M)) (kf : ¬ x ≤ 0 → zT Y kc nc Z (pc + 3, ls, st, sh, M)) : zT Y kc nc Z (pc, ls, .int x :: st, sh, M) := by
  by_cases h : x ≤ 0
  · refine zT.step (S1 := (tgt, ls, st, sh, M)) rfl ?_ (kt h)
    intro p l e R s m args below meth c D cA ex A E Q cells slots as _ _ k9 H locs lsR hP hD hS hl
    exact lv_if_le E.1 E.2.1 hd ht (fun _ => k9 H locs lsR hP hD hS hl) (fun h9 => absurd h h9)
  · refine zT.step (S1 := (pc + 3, ls, st, sh, M)) rfl ?_ (kf h)
    intro p l e R s m args below meth c D cA ex A E Q cells slots as _ _ k9 H locs lsR hP hD hS hl
    exact lv_if_le E.1 E.2.1 hd ht (fun h9 => absurd h9 h) (fun _ => k9 H locs lsR hP hD hS hl)
theorem zT.nullX {q : Nat} (hd : decode Y.2.1 pc = .ok (.ifnull off, 3)) (k1 : zT Y kc nc Z (pc + 3, ls, st, sh, M)) : zT Y kc nc Z (pc, ls, .retAddr q :: st, sh, M) := by
  refine zT.step (S1 := (pc + 3, ls, st, sh, M)) rfl ?_ k1
  intro p l e R s m args below meth c D cA ex A E Q cells slots as _ _ k9 H locs lsR hP hD hS hl
  exact lv_ifnull (x := ex q) E.1 E.2.1 hd (k9 H locs lsR hP hD hS hl)
theorem zT.nnulX {q : Nat} (hd : decode Y.2.1 pc = .ok (.ifnonnull off, 3)) (ht : (pc : Int) + off = (tgt : Int)) (k1 : zT Y kc nc Z (tgt, ls, st, sh, M)) : zT Y kc nc Z (pc, ls, .retAddr q :: st, sh, M) := by
  refine zT.step (S1 := (tgt, ls, st, sh, M)) rfl ?_ k1
  intro p l e R s m args below meth c D cA ex A E Q cells slots as _ _ k9 H locs lsR hP hD hS hl
  exact lv_ifnonnull (x := ex q) E.1 E.2.1 hd ht (k9 H locs lsR hP hD hS hl)
theorem zT.nullN (hd : decode Y.2.1 pc = .ok (.ifnull off, 3)) (ht : (pc : Int) + off = (tgt : Int)) (k1 : zT Y kc nc Z (tgt, ls, st, sh, M)) : zT Y kc nc Z (pc, ls, .null :: st, sh, M) := by
  refine zT.step (S1 := (tgt, ls, st, sh, M)) rfl ?_ k1
  intro p l e R s m args below meth c D cA ex A E Q cells slots as _ _ k9 H locs lsR hP hD hS hl
  exact lv_ifnullN E.1 E.2.1 hd ht (k9 H locs lsR hP hD hS hl)
theorem zT.nnulN (hd : decode Y.2.1 pc = .ok (.ifnonnull off, 3)) (k1 : zT Y kc nc Z (pc + 3, ls, st, sh, M)) : zT Y kc nc Z (pc, ls, .null :: st, sh, M) := by
  refine zT.step (S1 := (pc + 3, ls, st, sh, M)) rfl ?_ k1
  intro p l e R s m args below meth c D cA ex A E Q cells slots as _ _ k9 H locs lsR hP hD hS hl
  exact lv_ifnonnullN E.1 E.2.1 hd (k9 H locs lsR hP hD hS hl)
theorem zT.tabIn {x : Int32} {dflt lo hi : Int} {offs : Array Int} {len : Nat} (hd : decode Y.2.1 pc = .ok (.tableswitch dflt lo hi offs, len)) (h1 : ¬ x.toInt < lo) (h2 : ¬ hi < x.toInt) (ho : offs[(x.toInt - lo).toNat]? = some off) (ht : (pc : Int) + off = (tgt : Int)) (k1 : zT Y kc nc Z (tgt, ls, st, sh, M)) : zT Y kc nc Z (pc, ls, .int x :: st, sh, M) := by
  refine zT.step (S1 := (tgt, ls, st, sh, M)) rfl ?_ k1
  intro p l e R s m args below meth c D cA ex A E Q cells slots as _ _ k9 H locs lsR hP hD hS hl
  exact lv_tableIn E.1 E.2.1 hd h1 h2 ho ht (k9 H locs lsR hP hD hS hl)
theorem zT.tabOut {x : Int32} {dflt lo hi : Int} {offs : Array Int} {len : Nat} (hd : decode Y.2.1 pc = .ok (.tableswitch dflt lo hi offs, len)) (h : x.toInt < lo ∨ hi < x.toInt) (ht : (pc : Int) + dflt = (tgt : Int)) (k1 : zT Y kc nc Z (tgt, ls, st, sh, M)) : zT Y kc nc Z (pc, ls, .int x :: st, sh, M) := by
  refine zT.step (S1 := (tgt, ls, st, sh, M)) rfl ?_ k1
  intro p l e R s m args below meth c D cA ex A E Q cells slots as _ _ k9 H locs lsR hP hD hS hl
  exact lv_tableOut E.1 E.2.1 hd h ht (k9 H locs lsR hP hD hS hl)
theorem zT.look {x : Int32} {dflt : Int} {ps : Array (Int × Int)} {len : Nat} (hd : decode Y.2.1 pc = .ok (.lookupswitch dflt ps, len)) (hp : (ps.toList.zip (ps.toList.drop 1)).all (fun (a, next) => a.1 < next.1) = true) (ho : Op.lookupswitch.offset ps.toList dflt x.toInt = off) (ht : (pc : Int) + off = (tgt : Int)) (k1 : zT Y kc nc Z (tgt, ls, st, sh, M)) : zT Y kc nc Z (pc, ls, .int x :: st, sh, M) := by
  refine zT.step (S1 := (tgt, ls, st, sh, M)) rfl ?_ k1
  intro p l e R s m args below meth c D cA ex A E Q cells slots as _ _ k9 H locs lsR hP hD hS hl
  exact lv_lookup E.1 E.2.1 hd hp ho ht (k9 H locs lsR hP hD hS hl)
end ZBR
/-! ROWS: an index that is a number k below the row's length -/
section ZAR
variable {Y : zY} {kc nc : Nat} {Z : zS → Prop} {pc : Nat} {ls : zL} {st : List Value} {sh : List va_E} {M : zM} {o n k : Nat} {i x : Int32} {z : Nat → Int32}
theorem zT.iald (hs : zSg sh o = some (.inl (0, n, .inl z))) (hi : i = nI k) (hk : k < n) (hn : n < 2 ^ 31) (hd : decode Y.2.1 pc = .ok (.iaload, 1)) (k1 : zT Y kc nc Z (pc + 1, ls, .int (M o k) :: st, sh, M)) : zT Y kc nc Z (pc, ls, .int i :: .ref o :: st, sh, M) := by
  refine zT.step (S1 := (pc + 1, ls, .int (M o k) :: st, sh, M)) rfl ?_ k1
  intro p l e R s m args below meth c D cA ex A E Q cells slots as _ _ k9 H locs lsR hP hD hS hl
  subst hi
  refine va_iald E.1 E.2.1 E.2.2.2.2.2.1 hP o 0 (zWd_at hs) rfl (vp_in_nI hk hn) hd ?_
  rw [nI_clamp (Nat.lt_trans hk hn)]
  exact k9 H locs lsR hP hD hS hl
theorem zT.bald (hs : zSg sh o = some (.inl (1, n, .inl z))) (hi : i = nI k) (hk : k < n) (hn : n < 2 ^ 31) (hd : decode Y.2.1 pc = .ok (.baload, 1)) (k1 : zT Y kc nc Z (pc + 1, ls, .int (M o k) :: st, sh, M)) : zT Y kc nc Z (pc, ls, .int i :: .ref o :: st, sh, M) := by
  refine zT.step (S1 := (pc + 1, ls, .int (M o k) :: st, sh, M)) rfl ?_ k1
  intro p l e R s m args below meth c D cA ex A E Q cells slots as _ _ k9 H locs lsR hP hD hS hl
  subst hi
  refine va_bald E.1 E.2.1 E.2.2.2.2.2.1 hP o 1 (zWd_at hs) rfl (vp_in_nI hk hn) hd ?_
  rw [nI_clamp (Nat.lt_trans hk hn)]
  exact k9 H locs lsR hP hD hS hl
theorem zUpd_eq {k : Nat} {x : Int32} : upd (M o) k x = zU M o k x o := by
  funext j
  rw [zU_eq]
  by_cases h : j = k
  · subst h
    simp [upd]
  · simp [upd, h]
theorem zT.iast (hs : zSg sh o = some (.inl (0, n, .inl z))) (hi : i = nI k) (hk : k < n) (hn : n < 2 ^ 31) (hd : decode Y.2.1 pc = .ok (.iastore, 1)) (k1 : zT Y kc nc Z (pc + 1, ls, st, sh, zU M o k x)) : zT Y kc nc Z (pc, ls, .int x :: .int i :: .ref o :: st, sh, M) := by
  refine zT.step (S1 := (pc + 1, ls, st, sh, zU M o k x)) rfl ?_ k1
  intro p l e R s m args below meth c D cA ex A E Q cells slots as _ _ k9 H locs lsR hP hD hS hl
  subst hi
  refine va_iast E.1 E.2.1 E.2.2.2.2.2.1 hP hD hS o 0 (zWd_at hs) rfl (vp_in_nI hk hn) hd (fun H1 locs1 hP1 hD1 hS1 => ?_)
  rw [nI_clamp (Nat.lt_trans hk hn)] at hP1 hD1
  have e9 : (zWd cA as ex M 0 sh).set o (as o, .inl (cA 0, n, .inl (upd (M o) k x))) = zWd cA as ex (zU M o k x) 0 sh := by
    have h8 := zWd_set (cA := cA) (as := as) (ex := ex) (M := M) (M' := zU M o k x) (sh := sh) (k := o) (q' := .inl (0, n, .inl z)) (fun j hj => zU_ne hj)
    rw [zSet_same hs] at h8
    rw [← h8, zUpd_eq]
    rfl
  have hP2 : va_P D vwCl ((zWd cA as ex M 0 sh).set o (as o, .inl (cA 0, n, .inl (upd (M o) k x)))) H1 := hP1
  have hD2 : va_D A ((zWd cA as ex M 0 sh).set o (as o, .inl (cA 0, n, .inl (upd (M o) k x)))) := hD1
  rw [e9] at hP2 hD2
  exact k9 H1 locs1 lsR hP2 hD2 hS1 hl
theorem zT.bast (hs : zSg sh o = some (.inl (1, n, .inl z))) (hi : i = nI k) (hk : k < n) (hn : n < 2 ^ 31) (hd : decode Y.2.1 pc = .ok (.bastore, 1)) (k1 : zT Y kc nc Z (pc + 1, ls, st, sh, zU M o k (vp_nar .byte x))) : zT Y kc nc Z (pc, ls, .int x :: .int i :: .ref o :: st, sh, M) := by
  refine zT.step (S1 := (pc + 1, ls, st, sh, zU M o k (vp_nar .byte x))) rfl ?_ k1
  intro p l e R s m args below meth c D cA ex A E Q cells slots as _ _ k9 H locs lsR hP hD hS hl
  subst hi
  refine va_bast E.1 E.2.1 E.2.2.2.2.2.1 hP hD hS o 1 (zWd_at hs) rfl (vp_in_nI hk hn) hd (fun H1 locs1 hP1 hD1 hS1 => ?_)
  rw [nI_clamp (Nat.lt_trans hk hn)] at hP1 hD1
  have e9 : (zWd cA as ex M 0 sh).set o (as o, .inl (cA 1, n, .inl (upd (M o) k (vp_nar .byte x)))) = zWd cA as ex (zU M o k (vp_nar .byte x)) 0 sh := by
    have h8 := zWd_set (cA := cA) (as := as) (ex := ex) (M := M) (M' := zU M o k (vp_nar .byte x)) (sh := sh) (k := o) (q' := .inl (1, n, .inl z)) (fun j hj => zU_ne hj)
    rw [zSet_same hs] at h8
    rw [← h8, zUpd_eq]
    rfl
  have hP2 : va_P D vwCl ((zWd cA as ex M 0 sh).set o (as o, .inl (cA 1, n, .inl (upd (M o) k (vp_nar .byte x))))) H1 := hP1
  have hD2 : va_D A ((zWd cA as ex M 0 sh).set o (as o, .inl (cA 1, n, .inl (upd (M o) k (vp_nar .byte x))))) := hD1
  rw [e9] at hP2 hD2
  exact k9 H1 locs1 lsR hP2 hD2 hS1 hl
variable {g : Nat → Option Nat} {q : Nat}
theorem zT.aald (hs : zSg sh o = some (.inl (3, n, .inr (.inr (.inr (.inr g)))))) (hi : i = nI k) (hk : k < n) (hn : n < 2 ^ 31) (hg : g k = some q) (hd : decode Y.2.1 pc = .ok (.aaload, 1)) (k1 : zT Y kc nc Z (pc + 1, ls, .ref q :: st, sh, M)) : zT Y kc nc Z (pc, ls, .int i :: .ref o :: st, sh, M) := by
  refine zT.step (S1 := (pc + 1, ls, .ref q :: st, sh, M)) rfl ?_ k1
  intro p l e R s m args below meth c D cA ex A E Q cells slots as _ _ k9 H locs lsR hP hD hS hl
  subst hi
  have ha := zWd_at (cA := cA) (as := as) (ex := ex) (M := M) hs
  have hlt : (nI k).toNatClampNeg < n := by rw [nI_clamp (Nat.lt_trans hk hn)]; exact hk
  refine W.aald (v := va_rf ((g (nI k).toNatClampNeg).map as)) (ty := .object "SealedBallots$Office") E.1 E.2.1 (hP o _ ha) ((E.2.2.2.2.2.1.2 3 _ rfl).1 n (fun j => va_rf ((g j).map as))) rfl (fun q => by cases q) (by show ¬ (nI k < 0 ∨ (arrV _ _ _).slots.size ≤ _); rw [arrV_size]; exact vp_in_nI hk hn) (by show (arrV _ _ _).slots[_]? = _; rw [arrV_read _ _ hlt]) rfl rfl hd ?_
  rw [nI_clamp (Nat.lt_trans hk hn), hg]
  exact k9 H locs lsR hP hD hS hl
end ZAR

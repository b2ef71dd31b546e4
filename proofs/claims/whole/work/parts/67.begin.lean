/-! AT THE START both sides say the same -/
theorem pl_ps {M N : zM} {o : Nat} (ho : o < 12) : zPl (zPs M 5 14 N) 5 o = N o := by
  show zPs M 5 14 N (5 + o) = N o
  rw [zPs_in (by omega) (by omega), show 5 + o - 5 = o by omega]
theorem qStep.go {n T : Nat} {N M' : zM} {a b : Int32 × zM} {re : Int32} (h : qStep n T N a re b) (h0 : re = 0) (e : M' = zPs M' 5 14 a.2) : ∃ oz, rl n oz T (zPl M' 5) (b.2 1) := by
  rcases h with ⟨q, -⟩ | ⟨-, -, -, oz, q⟩
  · exact absurd h0 q
  · exact ⟨oz, q.eq (fun o ho => by rw [e]; exact pl_ps ho) (fun _ _ => rfl)⟩
theorem ps_ps {M N : zM} : zPs M 5 14 N = zPs (zPs M 5 14 N) 5 14 N := by
  funext o
  by_cases h : 5 ≤ o ∧ o < 19
  · rw [zPs_in h.1 (by omega), zPs_in h.1 (by omega)]
  · rw [zPs_out (M := zPs M 5 14 N) (by omega)]
theorem m0_link : g_X10_noLink zMI6 3 (nI 4) (bI false) = 0 := by decide +kernel
theorem m0_call : g_X10_noCall zMI7 5 0 = 0 := by decide +kernel
theorem m0_s0 : g_X10_noSeal zMI8 0 = 0 := by decide +kernel
theorem m0_s1 : g_X10_noSeal zMI9 1 = 0 := by decide +kernel
theorem m0_s2 : g_X10_noSeal zMI10 2 = 0 := by decide +kernel
theorem m0_s3 : g_X10_noSeal zMI11 3 = 0 := by decide +kernel
theorem m0_t : zMI8 1 5 = 1 := by decide +kernel
theorem m0_t1 : zMI9 1 5 = 1 := by decide +kernel
theorem m0_t2 : zMI10 1 5 = 1 := by decide +kernel
theorem m0_t3 : zMI11 1 5 = 1 := by decide +kernel
theorem rl0_add {n : Nat} {X M : zM} (h : rl0 n (zPl X 5) M) (hn : n < 9) {age fresh : Nat} (ha : age ≤ 99) (hf : fresh ≤ 999) : rl0 (n + 1) (zPl (zPs X 5 14 (g_X4_addReplica (zPl X 5) n (nI age) (nI fresh))) 5) (g_X10_addReplica M n (nI age) (nI fresh)) := (st_add h hn ⟨age, ha, rfl⟩ ⟨fresh, hf, rfl⟩).eq (fun _ ho => pl_ps ho) rfl
theorem b_6 : rl0 5 (zPl zXI6 5) zMI6 := by
  have r1 : rl0 0 (zPl zXI1 5) zMI1 := (st_empty (zPl zM0 5) zM0).eq (fun o ho => pl_ps ho) rfl
  have r2 : rl0 1 (zPl zXI2 5) zMI2 := rl0_add (age := 40) (fresh := 5) r1 (by decide) (by decide) (by decide)
  have r3 : rl0 2 (zPl zXI3 5) zMI3 := rl0_add (age := 30) (fresh := 7) r2 (by decide) (by decide) (by decide)
  have r4 : rl0 3 (zPl zXI4 5) zMI4 := rl0_add (age := 55) (fresh := 5) r3 (by decide) (by decide) (by decide)
  have r5 : rl0 4 (zPl zXI5 5) zMI5 := rl0_add (age := 55) (fresh := 2) r4 (by decide) (by decide) (by decide)
  exact rl0_add (age := 20) (fresh := 9) r5 (by decide) (by decide) (by decide)
theorem b_8 : ∃ oz, rl 5 oz 1 (zPl zXI8 5) (zMI8 1) := by
  have s7 := st_link (N := zPl zXI6 5) (M := zMI6) b_6.1 (r := 3) (o := 4) (by decide) (by decide) false
  obtain ⟨oz, r7⟩ := s7.go (M' := zXI7) m0_link ps_ps
  have s8 := st_call (N := zPl zXI7 5) (M := zMI7) r7 (by decide) (r := 0) (by decide)
  exact s8.go (M' := zXI8) m0_call ps_ps
theorem b_v {oz : Nat} {X M : zM} (h : rl 5 oz 1 (zPl X 5) (M 1)) {r cd b : Nat} (hr : r < 5) (hcd : cd < 5) (hb : b ≤ 999) (h0 : g_X10_noSeal M r = 0) (ht : M 1 5 = 1) : ∃ oz', rl 5 oz' 1 (zPl (zPs X 5 14 (g_X4_sealVote (zPl X 5) r (nI cd) (nI b)).2) 5) ((g_X10_sealIt M 5 r (g_X10_sealOf (nI cd) (nI b) 1)).2 1) := by
  have s := st_vote (N := zPl X 5) (M := M) h (by decide) hr hcd hb
  rw [ht] at s
  exact s.go h0 ps_ps
theorem b_12 : ∃ oz, rl 5 oz 1 (zPl zXI12 5) (zMI12 1) := by
  obtain ⟨o8, r8⟩ := b_8
  obtain ⟨o9, r9⟩ : ∃ oz, rl 5 oz 1 (zPl zXI9 5) (zMI9 1) := b_v r8 (r := 0) (cd := 2) (b := 11) (by decide) (by decide) (by decide) m0_s0 m0_t
  obtain ⟨o10, r10⟩ : ∃ oz, rl 5 oz 1 (zPl zXI10 5) (zMI10 1) := b_v r9 (r := 1) (cd := 4) (b := 12) (by decide) (by decide) (by decide) m0_s1 m0_t1
  obtain ⟨o11, r11⟩ : ∃ oz, rl 5 oz 1 (zPl zXI11 5) (zMI11 1) := b_v r10 (r := 2) (cd := 2) (b := 13) (by decide) (by decide) (by decide) m0_s2 m0_t2
  exact b_v r11 (r := 3) (cd := 4) (b := 14) (by decide) (by decide) (by decide) m0_s3 m0_t3
theorem b_out {X N : zM} {o : Nat} (h : o < 5 ∨ 19 ≤ o) : zPs X 5 14 N o = X o := zPs_out (by omega)
theorem b_x {o : Nat} (h : o < 5 ∨ 19 ≤ o) : zXI12 o = fun _ => 0 := by
  have e12 : zXI12 o = zXI11 o := b_out h
  have e11 : zXI11 o = zXI10 o := b_out h
  have e10 : zXI10 o = zXI9 o := b_out h
  have e9 : zXI9 o = zXI8 o := b_out h
  have e8 : zXI8 o = zXI7 o := b_out h
  have e7 : zXI7 o = zXI6 o := b_out h
  have e6 : zXI6 o = zXI5 o := b_out h
  have e5 : zXI5 o = zXI4 o := b_out h
  have e4 : zXI4 o = zXI3 o := b_out h
  have e3 : zXI3 o = zXI2 o := b_out h
  have e2 : zXI2 o = zXI1 o := b_out h
  have e1 : zXI1 o = zM0 o := b_out h
  rw [e12, e11, e10, e9, e8, e7, e6, e5, e4, e3, e2, e1]
  rfl
theorem b_m {o : Nat} (h : o ≠ 1) : zMI12 o = fun _ => 0 := by
  have e12 : zMI12 o = zMI11 o := fr_X10_sealIt _ _ _ _ o h
  have e11 : zMI11 o = zMI10 o := fr_X10_sealIt _ _ _ _ o h
  have e10 : zMI10 o = zMI9 o := fr_X10_sealIt _ _ _ _ o h
  have e9 : zMI9 o = zMI8 o := fr_X10_sealIt _ _ _ _ o h
  have e8 : zMI8 o = zMI7 o := fr_X10_callIt _ _ _ o h
  have e7 : zMI7 o = zMI6 o := fr_X10_link _ _ _ _ o h
  have e6 : zMI6 o = zMI5 o := fr_X10_addReplica _ _ _ _ o h
  have e5 : zMI5 o = zMI4 o := fr_X10_addReplica _ _ _ _ o h
  have e4 : zMI4 o = zMI3 o := fr_X10_addReplica _ _ _ _ o h
  have e3 : zMI3 o = zMI2 o := fr_X10_addReplica _ _ _ _ o h
  have e2 : zMI2 o = zMI1 o := fr_X10_addReplica _ _ _ _ o h
  have e1 : zMI1 o = zM0 o := fr_X10_begin _ o h
  rw [e12, e11, e10, e9, e8, e7, e6, e5, e4, e3, e2, e1]
  rfl
theorem b_E : xE 1 (fun _ => none) [] zG0 zXI12 zMI12 := by
  obtain ⟨oz, hr⟩ := b_12
  refine ⟨5, oz, 0, 0, 0, 0, ⟨by decide, hr⟩, ⟨⟨?_, ?_, by decide⟩, ⟨?_, by decide⟩, ⟨fun i hi => ⟨?_, ?_⟩, fun i j _ _ e => ?_⟩, fun j hj => absurd hj (by omega)⟩, ⟨zCs_of rfl, fun j q h => (by cases h), fun q q' h => (by cases h), fun j hj => ⟨fun _ => ?_, fun q h => (by cases h)⟩⟩, ⟨⟨?_, ?_, by decide⟩, fun k hk => absurd hk (by omega)⟩, ⟨⟨?_, ?_, by decide⟩, fun k hk => absurd hk (by omega)⟩⟩
  · rw [b_x (o := 33) (by decide)]; rfl
  · rw [b_m (o := 0) (by decide)]; rfl
  · rw [b_x (o := 33) (by decide)]; rfl
  · show 3 ≤ 3 + i; omega
  · show 3 + i ≤ 12; omega
  · have e' : 3 + i = 3 + j := e
    omega
  · rw [b_m (o := 16) (by decide)]
  · rw [b_x (o := 2) (by decide)]; rfl
  · rw [b_m (o := 0) (by decide)]; rfl
  · rw [b_x (o := 0) (by decide)]; rfl
  · rw [b_m (o := 0) (by decide)]; rfl

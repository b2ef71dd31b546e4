/-! A TEXT OF REPLICAS, all of it; what the office is behind it -/
section PRL
variable {ty : Nat} {T : Nat → Nat}
/-- the letters of w stand at p -/
def At (T : Nat → Nat) (p : Nat) (w : List Nat) : Prop := ∀ j, j < w.length → T (p + j) = w.getD j 0
theorem At.app {p : Nat} {a b : List Nat} (h : At T p (a ++ b)) : At T p a ∧ At T (p + a.length) b := by
  refine ⟨fun j hj => ?_, fun j hj => ?_⟩
  · rw [h j (by rw [List.length_append]; omega), List.getD_eq_getElem?_getD, List.getD_eq_getElem?_getD, List.getElem?_append_left hj]
  · rw [Nat.add_assoc, h (a.length + j) (by rw [List.length_append]; omega), List.getD_eq_getElem?_getD, List.getD_eq_getElem?_getD, List.getElem?_append_right (by omega), Nat.add_sub_cancel_left]
theorem dg_At {p v : Nat} (hv : v < 100) (h : At T p (dg v)) : (∀ j, p ≤ j → j < p + (dg v).length → isD (T j)) ∧ nv T p (dg v).length 0 = v := by
  have hl := dg_len v
  unfold At at h
  unfold dg at h ⊢ hl
  by_cases c : v < 10
  · rw [if_pos c] at h ⊢
    have h0 : T p = 48 + v := h 0 (by show 0 < 1; omega)
    refine ⟨fun j h1 h2 => ?_, ?_⟩
    · have h2 : j < p + 1 := h2
      obtain rfl : j = p := by omega
      rw [h0]
      exact ⟨by omega, by omega⟩
    · show 10 * 0 + T p - 48 = v
      omega
  · rw [if_neg c] at h ⊢
    have h0 : T p = 48 + v / 10 := h 0 (by show 0 < 2; omega)
    have h1 : T (p + 1) = 48 + v % 10 := h 1 (by show 1 < 2; omega)
    refine ⟨fun j g1 g2 => ?_, ?_⟩
    · have g2 : j < p + 2 := g2
      rcases (show j = p ∨ j = p + 1 by omega) with rfl | rfl
      · rw [h0]
        exact ⟨by omega, by omega⟩
      · rw [h1]
        exact ⟨by omega, by omega⟩
    · show 10 * (10 * 0 + T p - 48) + T (p + 1) - 48 = v
      omega
theorem p_isw (h6 : ty ≤ 600) {m : zM} {tx a : Nat} (hk : tK ty T m 1 a (a + (zTxt tx).length)) (hA : At T a (zTxt tx)) (hle : a + (zTxt tx).length ≤ ty) : g_X8_isWord m ty tx = 1 := by
  obtain ⟨hX, h2, h3, h4⟩ := hk
  unfold g_X8_isWord
  rw [if_pos h2, h3, h4, if_pos (by rw [pk_sub (by omega)]; congr 1; omega)]
  refine zFst_all _ _ fun j _ hj => ?_
  unfold f_X8_isWord_28
  rw [hX.1, h3, nI_add, nI_clamp (by omega), if_neg (nI_ge (a := a + j) (b := ty) (by omega) (by omega)), hX.2 _ (by omega), hA j (by omega), if_pos rfl]
/-- a number's token is taken -/
theorem p_take {m : zM} {p k v : Nat} {rp : Int32} (h2 : zPl m 1 0 2 = 2) (h5 : zPl m 1 0 5 = nI v) (hf : g_X9_fits (nI v) k = 1) (hk : ¬ nI k = 7) : g_X5_readNumber m ty p k rp = (0, zPs (zU m 3 p (nI v)) 1 2 (g_X8_advance (zPl (zU m 3 p (nI v)) 1) ty)) := by
  have h5' : m 1 5 = nI v := h5
  have hn : g_X8_isNumber (zPl m 1) = 1 := if_pos h2
  unfold g_X5_readNumber
  rw [hn, if_neg (by decide), h5', hf, if_neg (by decide), if_neg hk]
theorem zPl_ps {m r : zM} {b n o : Nat} (h : o < n) : zPl (zPs m b n r) b o = r o := by
  show zPs m b n r (b + o) = r o
  rw [zPs_in (by omega) (by omega)]
  congr 1
  omega
theorem tK.of {m r : zM} {k : Int32} {a b : Nat} (h : tK ty T r k a b) (h0 : m 0 = r 0) (h1 : m 1 = r 1) : tK ty T m k a b := ⟨h.1.of (congrFun h0 0) h1, (congrFun h0 2).trans h.2.1, (congrFun h0 3).trans h.2.2.1, (congrFun h0 4).trans h.2.2.2⟩
def pc (q : Nat × Nat) : List Nat := zTxt 20 ++ (dg q.1 ++ ([32] ++ (dg q.2 ++ [59])))
def pcs : List (Nat × Nat) → List Nat
  | [] => []
  | q :: r => pc q ++ pcs r
def oky (q : Nat × Nat) : Prop := 1 ≤ q.1 ∧ q.1 ≤ 40 ∧ q.2 ≤ 4
theorem pc_len (q : Nat × Nat) : (pc q).length = 8 + ((dg q.1).length + (1 + ((dg q.2).length + 1))) := by
  unfold pc
  rw [List.length_append, List.length_append, List.length_append, List.length_append]
  rfl
theorem fit5 : ∀ v, v < 41 → 1 ≤ v → g_X9_fits (nI v) 5 = 1 := by decide +kernel
theorem fit6 : ∀ v, v < 5 → g_X9_fits (nI v) 6 = 1 := by decide +kernel
theorem tx20 : zTxt 20 = [114, 101, 112, 108, 105, 99, 97, 32] := by decide +kernel
theorem tx19 : zTxt 19 = [114, 101, 112, 108, 105, 99, 97] := by decide +kernel
theorem tx18 : zTxt 18 = [111, 102, 102, 105, 99, 101] := by decide +kernel
theorem tx15 : zTxt 15 = [111, 102, 102, 105, 99, 101, 32] := by decide +kernel
theorem nd_sp : ¬ isD 32 := by unfold isD; omega
/-- one replica is read -/
theorem p_rep (h6 : ty ≤ 600) (hT : ∀ j, T j < 128) {m : zM} {i p : Nat} {q : Nat × Nat} (hi : i < 9) (hq : oky q) (hX : tX ty T (zPl m 1)) (h4 : zPl m 1 0 4 = nI (p + 7)) (hA : At T p (pc q)) (hle : p + (pc q).length ≤ ty) :
    ∃ r, g_X5_readReplica m ty (nI i) = (0, r) ∧ tX ty T (zPl r 1) ∧ zPl r 1 0 4 = nI (p + (pc q).length) ∧ r 3 0 = nI q.1 ∧ r 3 1 = nI q.2 := by
  obtain ⟨q1, q2, q3⟩ := hq
  have hl := pc_len q
  obtain ⟨a1, a2⟩ := At.app (a := zTxt 20) hA
  obtain ⟨a2, a3⟩ := a2.app
  obtain ⟨a3, a4⟩ := a3.app
  obtain ⟨a4, a5⟩ := a4.app
  rw [tx20] at a1 a2 a3 a4 a5
  have b7 : T (p + 7) = 32 := a1 7 (by decide)
  have ll : ([114, 101, 112, 108, 105, 99, 97, 32] : List Nat).length = 8 := rfl
  rw [ll] at a2 a3 a4 a5
  have l1 := dg_len q.1
  have l2 := dg_len q.2
  have hd1 : 1 ≤ (dg q.1).length ∧ (dg q.1).length ≤ 2 := by rw [l1]; split <;> omega
  have hd2 : 1 ≤ (dg q.2).length ∧ (dg q.2).length ≤ 2 := by rw [l2]; split <;> omega
  obtain ⟨d1, n1⟩ := dg_At (by omega) a2
  have bs : T (p + 8 + (dg q.1).length) = 32 := a3 0 (by decide)
  have ll2 : ([32] : List Nat).length = 1 := rfl
  rw [ll2] at a4 a5
  obtain ⟨d2, n2⟩ := dg_At (by omega) a4
  have be : T (p + 8 + (dg q.1).length + 1 + (dg q.2).length) = 59 := a5 0 (by decide)
  clear a1 a2 a3 a4 a5 l1 l2
  generalize hL1 : (dg q.1).length = L1 at *
  generalize hL2 : (dg q.2).length = L2 at *
  -- the age
  obtain ⟨k1, k15⟩ := t_num h6 hT hX (e := p + 7) (d := 1) (l := L1) h4 (by omega) (fun j g1 g2 => by rw [show j = p + 7 by omega]; exact b7) (by omega) (by omega) d1 (Or.inr (by rw [show p + 7 + 1 + L1 = p + 8 + L1 by omega, bs]; exact nd_sp))
  rw [show p + 7 + 1 = p + 8 by omega] at k1 k15
  rw [n1] at k15
  obtain ⟨m1, hm1⟩ : ∃ m1, zPs m 1 2 (g_X8_advance (zPl m 1) ty) = m1 := ⟨_, rfl⟩
  have e10 : zPl m1 1 0 = g_X8_advance (zPl m 1) ty 0 := by rw [← hm1]; exact zPl_ps (by decide)
  have e11 : zPl m1 1 1 = g_X8_advance (zPl m 1) ty 1 := by rw [← hm1]; exact zPl_ps (by decide)
  have k1m := k1.of e10 e11
  have t1 : d_X5_readReplica_2 m ty (nI i) = (0, zPs (zU m1 3 0 (nI q.1)) 1 2 (g_X8_advance (zPl (zU m1 3 0 (nI q.1)) 1) ty)) := by
    unfold d_X5_readReplica_2
    rw [hm1]
    exact p_take k1m.2.1 ((congrFun e10 5).trans k15) (fit5 _ (by omega) q1) (by decide)
  -- how fresh it is
  have k1u : tK ty T (zPl (zU m1 3 0 (nI q.1)) 1) 2 (p + 8) (p + 8 + L1) := k1m.of (zU_ne (j := 1) (by decide)) (zU_ne (j := 2) (by decide))
  obtain ⟨k2, k25⟩ := t_num h6 hT k1u.1 (e := p + 8 + L1) (d := 1) (l := L2) k1u.2.2.2 (by omega) (fun j g1 g2 => by rw [show j = p + 8 + L1 by omega]; exact bs) (by omega) (by omega) d2 (Or.inr (by rw [be]; unfold isD; omega))
  rw [n2] at k25
  obtain ⟨m2, hm2⟩ : ∃ m2, zPs (zU m1 3 0 (nI q.1)) 1 2 (g_X8_advance (zPl (zU m1 3 0 (nI q.1)) 1) ty) = m2 := ⟨_, rfl⟩
  have e20 : zPl m2 1 0 = g_X8_advance (zPl (zU m1 3 0 (nI q.1)) 1) ty 0 := by rw [← hm2]; exact zPl_ps (by decide)
  have e21 : zPl m2 1 1 = g_X8_advance (zPl (zU m1 3 0 (nI q.1)) 1) ty 1 := by rw [← hm2]; exact zPl_ps (by decide)
  have k2m := k2.of e20 e21
  have m230 : m2 3 0 = nI q.1 := by rw [← hm2, zPs_out (by omega), zU_s]
  rw [hm2] at t1
  have t2 : d_X5_readReplica_3 m ty (nI i) = (0, zPs (zU m2 3 1 (nI q.2)) 1 2 (g_X8_advance (zPl (zU m2 3 1 (nI q.2)) 1) ty)) := by
    unfold d_X5_readReplica_3
    rw [t1]
    exact p_take k2m.2.1 ((congrFun e20 5).trans k25) (fit6 _ (by omega)) (by decide)
  -- its end
  have k2u : tK ty T (zPl (zU m2 3 1 (nI q.2)) 1) 2 (p + 8 + L1 + 1) (p + 8 + L1 + 1 + L2) := k2m.of (zU_ne (j := 1) (by decide)) (zU_ne (j := 2) (by decide))
  have k3 := t_semi h6 hT k2u.1 (e := p + 8 + L1 + 1 + L2) (d := 0) k2u.2.2.2 (by omega) (fun j g1 g2 => absurd g2 (by omega)) be
  obtain ⟨m3, hm3⟩ : ∃ m3, zPs (zU m2 3 1 (nI q.2)) 1 2 (g_X8_advance (zPl (zU m2 3 1 (nI q.2)) 1) ty) = m3 := ⟨_, rfl⟩
  have k3m := k3.of (m := zPl m3 1) (by rw [← hm3]; exact zPl_ps (by decide)) (by rw [← hm3]; exact zPl_ps (by decide))
  rw [hm3] at t2
  have hsm : g_X8_isSemicolon (zPl m3 1) = 1 := if_pos k3m.2.1
  refine ⟨m3, ?_, k3m.1, k3m.2.2.2.trans (congrArg nI (by omega)), ?_, ?_⟩
  · unfold g_X5_readReplica
    rw [t1, t2, if_pos (show nI i < 9 from nI_lt (b := 9) hi (by decide)), if_pos rfl, if_pos rfl]
    show (if g_X8_isSemicolon (zPl m3 1) = 0 then ((1 : Int32), m3) else ((0 : Int32), m3)) = (0, m3)
    rw [hsm, if_neg (by decide)]
  · rw [← hm3, zPs_out (by omega), zU_k (by decide)]
    exact m230
  · rw [← hm3, zPs_out (by omega), zU_s]
/-- the text stays -/
theorem p_keep {f : zM → zM ⊕ zM} (hi : ∀ s y, f s = .inl y → y 0 0 = s 0 0 ∧ y 1 = s 1) (hr : ∀ s y, f s = .inr y → y 0 0 = s 0 0 ∧ y 1 = s 1) (k : Nat) (s : zM) : zWr (fun m => m) f k s 0 0 = s 0 0 ∧ zWr (fun m => m) f k s 1 = s 1 :=
  ⟨zWr_keep (fun m => m 0 0) (fun x y h => (hi x y h).1) (fun x y h => (hr x y h).1) k s, zWr_keep (fun m => m 1) (fun x y h => (hi x y h).2) (fun x y h => (hr x y h).2) k s⟩
theorem f_adv (h6 : ty ≤ 600) (hT : ∀ j, T j < 128) {M : zM} (hX : tX ty T M) {e : Nat} (he : M 0 4 = nI e) (hle : e ≤ ty) : tX ty T (g_X8_advance M ty) := by
  have a1 : ∀ s, w_X8_advance_8 M ty s 0 0 = s 0 0 ∧ w_X8_advance_8 M ty s 1 = s 1 := fun s => p_keep (fun s y h => by
    unfold f_X8_advance_8 at h
    split at h
    · cases h
    · split at h
      · cases h; exact ⟨zU_k (by decide), zU_ne (by decide)⟩
      · split at h
        · cases h; exact ⟨zU_k (by decide), zU_ne (by decide)⟩
        · cases h) (fun s y h => by
    unfold f_X8_advance_8 at h
    split at h
    · cases h; exact ⟨rfl, rfl⟩
    · split at h
      · cases h
      · split at h
        · cases h
        · cases h; exact ⟨rfl, rfl⟩) _ s
  have a2 : ∀ s, g_X8_takeWord s ty 0 0 = s 0 0 ∧ g_X8_takeWord s ty 1 = s 1 := fun s => p_keep (fun s y h => by
    unfold f_X8_takeWord_0 at h
    split at h
    · cases h
    · split at h
      · cases h
      · split at h
        · cases h
        · cases h; exact ⟨zU_k (by decide), zU_ne (by decide)⟩) (fun s y h => by
    unfold f_X8_takeWord_0 at h
    split at h
    · cases h; exact ⟨rfl, rfl⟩
    · split at h
      · cases h; exact ⟨rfl, rfl⟩
      · split at h
        · cases h; exact ⟨rfl, rfl⟩
        · cases h) _ s
  have a3 : ∀ s, g_X8_takeNumber s ty 0 0 = s 0 0 ∧ g_X8_takeNumber s ty 1 = s 1 := fun s => by
    have := p_keep (f := f_X8_takeNumber_5 s ty) (fun s y h => by
      unfold f_X8_takeNumber_5 at h
      split at h
      · cases h
      · split at h
        · cases h
        · split at h
          · cases h
          · cases h; exact ⟨(zU_k (by decide)).trans (zU_k (by decide)), (zU_ne (by decide)).trans (zU_ne (by decide))⟩) (fun s y h => by
      unfold f_X8_takeNumber_5 at h
      split at h
      · cases h; exact ⟨rfl, rfl⟩
      · split at h
        · cases h; exact ⟨rfl, rfl⟩
        · split at h
          · cases h; exact ⟨rfl, rfl⟩
          · cases h) (ty + 1) (zU s 0 5 0)
    exact ⟨this.1.trans (zU_k (by decide)), this.2.trans (zU_ne (by decide))⟩
  obtain ⟨s1, e1⟩ : ∃ s, w_X8_advance_8 M ty (zU M 0 3 (M 0 4)) = s := ⟨_, rfl⟩
  obtain ⟨s3, e3⟩ : ∃ s, g_X8_takeWord (zU s1 0 4 (s1 0 3)) ty = s := ⟨_, rfl⟩
  obtain ⟨s4, e4⟩ : ∃ s, g_X8_takeNumber s3 ty = s := ⟨_, rfl⟩
  have k1 : tX ty T s1 := hX.of (by rw [← e1, (a1 _).1]; exact zU_k (by decide)) (by rw [← e1, (a1 _).2]; exact zU_ne (by decide))
  have k3 : tX ty T s3 := k1.of (by rw [← e3, (a2 _).1]; exact zU_k (by decide)) (by rw [← e3, (a2 _).2]; exact zU_ne (by decide))
  have k4 : tX ty T s4 := k3.of (by rw [← e4, (a3 _).1]) (by rw [← e4, (a3 _).2])
  have z : ∀ {s : zM} {k : Nat} {v : Int32}, tX ty T s → k ≠ 0 → tX ty T (zU s 0 k v) := fun h hk => h.of (zU_k (Ne.symm hk)) (zU_ne (by decide))
  rw [p_adv e1 e3 e4]
  split
  · split
    · split
      · exact z (z k4 (by decide)) (by decide)
      · exact z k4 (by decide)
    · exact z k4 (by decide)
  · exact z k3 (by decide)
/-- the token that the next replica begins with, or the end -/
def tN (ty : Nat) (T : Nat → Nat) (m : zM) (p : Nat) (ps : List (Nat × Nat)) : Prop := if ps = [] then m 0 2 = 0 else tK ty T m 1 p (p + 7)
theorem t_next (h6 : ty ≤ 600) (hT : ∀ j, T j < 128) {M : zM} (hX : tX ty T M) {e d : Nat} (he : M 0 4 = nI e) (hb : ∀ j, e ≤ j → j < e + d → T j = 32) {ps : List (Nat × Nat)} (hA : At T (e + d) (pcs ps)) (hle : e + d + (pcs ps).length ≤ ty) (hend : ∀ j, e + d + (pcs ps).length ≤ j → T j = 32) : tN ty T (g_X8_advance M ty) (e + d) ps := by
  unfold tN
  cases ps with
  | nil =>
    rw [if_pos rfl]
    refine t_end h6 hT hX (e := e) (d := ty - e) he (by have : e + d + 0 ≤ ty := hle; omega) (fun j g1 g2 => ?_)
    by_cases c : j < e + d
    · exact hb j g1 c
    · exact hend j (by show e + d + 0 ≤ j; omega)
  | cons q r =>
    rw [if_neg (by simp)]
    have hl := pc_len q
    have hpl : (pcs (q :: r)).length = (pc q).length + (pcs r).length := List.length_append
    have a0 : At T (e + d) (zTxt 20) := (At.app (a := zTxt 20) (At.app (a := pc q) hA).1).1
    rw [tx20] at a0
    have g : ∀ j, j < 8 → T (e + d + j) = ([114, 101, 112, 108, 105, 99, 97, 32] : List Nat).getD j 0 := fun j hj => a0 j hj
    refine t_word h6 hT hX (e := e) (d := d) (l := 7) he (by omega) hb (by decide) (fun j g1 g2 => ?_) (Or.inr ?_)
    · have := g (j - (e + d)) (by omega)
      rw [show e + d + (j - (e + d)) = j by omega] at this
      rw [this]
      have hj : j - (e + d) < 7 := by omega
      generalize j - (e + d) = w at hj
      revert w
      have : ∀ w, w < 7 → isL (([114, 101, 112, 108, 105, 99, 97, 32] : List Nat).getD w 0) := by unfold isL; decide
      exact this
    · rw [g 7 (by decide)]
      unfold isL
      decide
/-- the replicas, all of them -/
theorem p_reps (h6 : ty ≤ 600) (hT : ∀ j, T j < 128) (A : zM) : ∀ (ps : List (Nat × Nat)) (p i n fuel : Nat) (x : zM), At T p (pcs ps) → p + (pcs ps).length ≤ ty → (∀ j, p + (pcs ps).length ≤ j → T j = 32) → (∀ q ∈ ps, oky q) → i + ps.length = n → n ≤ 9 → j0 i (zPl x 19) → tX ty T (zPl x 2) → tN ty T (zPl x 2) p ps → ps.length < fuel →
    ∃ c x', zWr (fun (x : Int32 × zM) => ((0 : Int32), x)) (f_X5_readReplicas_23 A ty) fuel (nI i, x) = (0, c, x') ∧ j0 n (zPl x' 19) ∧ zPl x' 2 0 2 = 0 ∧ x' 33 = x 33 := by
  intro ps
  induction ps with
  | nil =>
    intro p i n fuel x hA hle hend hok hin hn hJ hX hN hf
    cases fuel with
    | zero => omega
    | succ fuel =>
      have h0 : zPl x 2 0 2 = 0 := hN
      have hw : g_X8_isWord (zPl x 2) ty 19 = 0 := by
        unfold g_X8_isWord
        rw [h0, if_neg (by decide)]
      have hf1 : f_X5_readReplicas_23 A ty (nI i, x) = .inr (0, nI i, x) := by
        unfold f_X5_readReplicas_23
        rw [if_neg (show ¬ 9 < (nI i, x).1 from nI_nlt (a := 9) (b := i) (by have : i + 0 = n := hin; omega) (by decide)), hw, if_pos rfl]
      refine ⟨nI i, x, ?_, ?_, h0, rfl⟩
      · rw [zWr, hf1]
      · have : i + 0 = n := hin
        rw [← this]
        exact hJ
  | cons q ps ih =>
    intro p i n fuel x hA hle hend hok hin hn hJ hX hN hf
    have hin : i + (ps.length + 1) = n := hin
    cases fuel with
    | zero => omega
    | succ fuel =>
      have hpl : (pcs (q :: ps)).length = (pc q).length + (pcs ps).length := List.length_append
      have hl := pc_len q
      obtain ⟨a1, a2⟩ := At.app (a := pc q) (b := pcs ps) hA
      have hk : tK ty T (zPl x 2) 1 p (p + 7) := hN
      have a19 : At T p (zTxt 19) := fun j hj => by
        rw [tx19] at hj ⊢
        have a0 : At T p (zTxt 20) := (At.app (a := zTxt 20) a1).1
        rw [tx20] at a0
        have hj : j < 7 := hj
        rw [a0 j (show j < 8 by omega)]
        revert j
        decide
      have hw : g_X8_isWord (zPl x 2) ty 19 = 1 := p_isw (a := p) h6 (by rw [tx19]; exact hk) a19 (by rw [tx19]; show p + 7 ≤ ty; omega)
      have hc : x 19 0 = nI i := hJ.1.2
      have hi9 : i < 9 := by omega
      obtain ⟨r, r0, r1, r2, r3, r4⟩ := p_rep (m := zPl x 1) h6 hT hi9 (hok q (by simp)) hk.1 hk.2.2.2 a1 (by omega)
      have hf1 : f_X5_readReplicas_23 A ty (nI i, x) = .inl (nI i + 1, m_X5_readReplicas_4 A ty (nI i, x)) := by
        unfold f_X5_readReplicas_23
        rw [if_neg (show ¬ 9 < (nI i, x).1 from nI_nlt (a := 9) (b := i) (by omega) (by decide)), hw, if_neg (by decide)]
        show (if (g_X5_readReplica (zPl x 1) ty (x 19 0)).1 = 0 then _ else _) = _
        rw [hc, r0, if_pos rfl]
      rw [zWr, hf1, nI_1]
      obtain ⟨x2, e2⟩ : ∃ x2, m_X5_readReplicas_2 A ty (nI i, x) = x2 := ⟨_, rfl⟩
      have e2' : zPs x 1 4 r = x2 := by
        rw [← e2]
        show _ = zPs x 1 4 (g_X5_readReplica (zPl x 1) ty (x 19 0)).2
        rw [hc, r0]
      have x2o : ∀ o, 5 ≤ o → x2 o = x o := fun o ho => by rw [← e2']; exact zPs_out (by omega)
      have x22 : x2 2 = zPl r 1 0 := by rw [← e2', zPs_in (by omega) (by omega)]; rfl
      have x23 : x2 3 = zPl r 1 1 := by rw [← e2', zPs_in (by omega) (by omega)]; rfl
      obtain ⟨x3, e3⟩ : ∃ x3, m_X5_readReplicas_3 A ty (nI i, x) = x3 := ⟨_, rfl⟩
      have e3' : zPs x2 19 14 (g_X4_addReplica (zPl x2 19) i (nI q.1) (nI q.2)) = x3 := by
        rw [← e3, ← e2]
        show _ = zPs (m_X5_readReplicas_2 A ty (nI i, x)) 19 14 (g_X4_addReplica (zPl (m_X5_readReplicas_2 A ty (nI i, x)) 19) (x 19 0).toNatClampNeg ((g_X5_readReplica (zPl x 1) ty (x 19 0)).2 3 0) ((g_X5_readReplica (zPl x 1) ty (x 19 0)).2 3 1))
        rw [hc, r0, nI_clamp (by omega)]
        show _ = zPs (m_X5_readReplicas_2 A ty (nI i, x)) 19 14 (g_X4_addReplica (zPl (m_X5_readReplicas_2 A ty (nI i, x)) 19) i (r 3 0) (r 3 1))
        rw [r3, r4]
      have hJ2 : j0 i (zPl x2 19) := hJ.pt fun o k hu => congrFun (x2o (19 + o) (by omega)) k
      have hJ3 : j0 (i + 1) (zPl x3 19) := by rw [← e3']; exact j0_at (j0_add hJ2 hi9 _ _)
      have x3o : ∀ o, o < 19 ∨ 33 ≤ o → x3 o = x2 o := fun o ho => by rw [← e3']; exact zPs_out (by omega)
      have x30 : zPl x3 2 0 = zPl r 1 0 := (x3o 2 (by omega)).trans x22
      have x31 : zPl x3 2 1 = zPl r 1 1 := (x3o 3 (by omega)).trans x23
      have hX3 : tX ty T (zPl x3 2) := r1.of (congrFun x30 0) x31
      obtain ⟨x4, e4⟩ : ∃ x4, m_X5_readReplicas_4 A ty (nI i, x) = x4 := ⟨_, rfl⟩
      have e4' : zPs x3 2 2 (g_X8_advance (zPl x3 2) ty) = x4 := by rw [← e4, ← e3]; rfl
      rw [e4]
      have x4o : ∀ o, 4 ≤ o → x4 o = x3 o := fun o ho => by rw [← e4']; exact zPs_out (by omega)
      have hN4 := t_next h6 hT hX3 (e := p + (pc q).length) (d := 0) ((congrFun x30 4).trans r2) (fun j g1 g2 => absurd g2 (by omega)) (ps := ps) a2 (by omega) (fun j g => hend j (by omega))
      have x42 : zPl x4 2 0 = g_X8_advance (zPl x3 2) ty 0 := by rw [← e4']; exact zPl_ps (by decide)
      have x43 : zPl x4 2 1 = g_X8_advance (zPl x3 2) ty 1 := by rw [← e4']; exact zPl_ps (by decide)
      have hN5 : tN ty T (zPl x4 2) (p + (pc q).length) ps := by
        unfold tN at hN4 ⊢
        split
        · rename_i c
          rw [if_pos c] at hN4
          rw [x42]
          exact hN4
        · rename_i c
          rw [if_neg c] at hN4
          exact hN4.of x42 x43
      have hX5 : tX ty T (zPl x4 2) := by
        have := f_adv h6 hT hX3 (e := p + (pc q).length) ((congrFun x30 4).trans r2) (by omega)
        exact this.of (congrFun x42 0) x43
      obtain ⟨c, x', g1, g2, g3, g4⟩ := ih (p + (pc q).length) (i + 1) n fuel x4 a2 (by omega) (fun j g => hend j (by omega)) (fun w hw => hok w (by simp [hw])) (by omega) hn (hJ3.pt fun o k hu => congrFun (x4o (19 + o) (by omega)) k) hX5 hN5 (by have : ps.length + 1 < fuel + 1 := hf; omega)
      exact ⟨c, x', g1, g2, g3, by rw [g4, x4o 33 (by omega), x3o 33 (by omega), x2o 33 (by omega)]⟩
theorem zWr_stop {α β : Type} {d : α → β} {f : α → α ⊕ β} {x : α} {b : β} (h : f x = .inr b) : ∀ {k : Nat}, 0 < k → zWr d f k x = b
  | 0, hk => absurd hk (Nat.lt_irrefl 0)
  | k + 1, _ => by rw [zWr, h]
/-- the whole text -/
theorem p_open (h6 : ty ≤ 600) (hT : ∀ j, T j < 128) {M : zM} {ps : List (Nat × Nat)} (hX : tX ty T (zPl M 2)) (h2 : 2 ≤ ps.length) (h9 : ps.length ≤ 9) (hok : ∀ q ∈ ps, oky q) (hA : At T 0 (zTxt 15 ++ pcs ps)) (hle : 7 + (pcs ps).length ≤ ty) (hend : ∀ j, 7 + (pcs ps).length ≤ j → T j = 32) :
    ∃ x', g_X5_open M ty = (nI ps.length, x') ∧ j0 ps.length (zPl x' 19) ∧ x' 33 = M 33 := by
  obtain ⟨a1, a2⟩ := At.app hA
  rw [tx15] at a1 a2
  have a2 : At T 7 (pcs ps) := a2
  have g : ∀ j, j < 7 → T j = ([111, 102, 102, 105, 99, 101, 32] : List Nat).getD j 0 := fun j hj => by
    have := a1 j hj
    rwa [Nat.zero_add] at this
  -- emptied, begun
  obtain ⟨m1, e1⟩ : ∃ m1, m_X5_open_1 M ty = m1 := ⟨_, rfl⟩
  have e1' : zPs M 19 14 (g_X4_makeEmpty (zPl M 19)) = m1 := e1
  have m1o : ∀ o, o < 19 ∨ 33 ≤ o → m1 o = M o := fun o ho => by rw [← e1']; exact zPs_out (by omega)
  have m1J : j0 0 (zPl m1 19) := by rw [← e1']; exact j0_at (j0_empty _)
  have X1 : tX ty T (zPl m1 2) := hX.of (congrFun (m1o 2 (by omega)) 0) (m1o 3 (by omega))
  have X1' : tX ty T (zU (zPl m1 2) 0 4 0) := X1.of (zU_k (by decide)) (zU_ne (by decide))
  have kb : tK ty T (g_X8_advance (zU (zPl m1 2) 0 4 0) ty) 1 0 6 := t_word h6 hT X1' (e := 0) (d := 0) (l := 6) zU_s (by omega) (fun j g1 g2 => absurd g2 (by omega)) (by decide) (fun j g1 g2 => by
      have g2 : j < 6 := by omega
      rw [g j (by omega)]
      revert j
      have : ∀ j, j < 6 → isL (([111, 102, 102, 105, 99, 101, 32] : List Nat).getD j 0) := by unfold isL; decide
      exact fun j _ _ hj => this j hj) (Or.inr (by rw [g 6 (by decide)]; unfold isL; decide))
  obtain ⟨m2, e2⟩ : ∃ m2, m_X5_open_2 M ty = m2 := ⟨_, rfl⟩
  have e2' : zPs m1 2 2 (g_X8_advance (zU (zPl m1 2) 0 4 0) ty) = m2 := by rw [← e2, ← e1]; rfl
  have m2o : ∀ o, 4 ≤ o → m2 o = m1 o := fun o ho => by rw [← e2']; exact zPs_out (by omega)
  have k2 : tK ty T (zPl m2 2) 1 0 6 := kb.of (by rw [← e2']; exact zPl_ps (by decide)) (by rw [← e2']; exact zPl_ps (by decide))
  have hw : g_X8_isWord (zPl m2 2) ty 18 = 1 := p_isw (a := 0) h6 (by rw [tx18]; exact k2) (fun j hj => by
      rw [tx18] at hj ⊢
      have hj : j < 6 := hj
      rw [Nat.zero_add, g j (by omega)]
      revert j
      decide) (by rw [tx18]; show 0 + 6 ≤ ty; omega)
  -- the replicas
  obtain ⟨m3, e3⟩ : ∃ m3, m_X5_readReplicas_1 m2 ty = m3 := ⟨_, rfl⟩
  have e3' : zPs m2 2 2 (g_X8_advance (zPl m2 2) ty) = m3 := e3
  have m3o : ∀ o, 4 ≤ o → m3 o = m2 o := fun o ho => by rw [← e3']; exact zPs_out (by omega)
  have m30 : zPl m3 2 0 = g_X8_advance (zPl m2 2) ty 0 := by rw [← e3']; exact zPl_ps (by decide)
  have m31 : zPl m3 2 1 = g_X8_advance (zPl m2 2) ty 1 := by rw [← e3']; exact zPl_ps (by decide)
  have X3 : tX ty T (zPl m3 2) := (f_adv h6 hT k2.1 (e := 6) k2.2.2.2 (by omega)).of (congrFun m30 0) m31
  have hN := t_next h6 hT k2.1 (e := 6) (d := 1) k2.2.2.2 (fun j g1 g2 => by rw [show j = 6 by omega, g 6 (by decide)]; rfl) (ps := ps) a2 (by omega) (fun j hj => hend j (by omega))
  have hN3 : tN ty T (zPl m3 2) 7 ps := by
    unfold tN at hN ⊢
    split
    · rename_i c
      rw [if_pos c] at hN
      rw [m30]
      exact hN
    · rename_i c
      rw [if_neg c] at hN
      exact hN.of m30 m31
  have hJ3 : j0 0 (zPl m3 19) := m1J.pt fun o k hu => congrFun ((m3o (19 + o) (by omega)).trans (m2o (19 + o) (by omega))) k
  obtain ⟨c, x, r1, r2, r3, r4⟩ := p_reps h6 hT m2 ps 7 0 ps.length (11 + ty) m3 a2 hle hend hok (Nat.zero_add _) h9 hJ3 X3 hN3 (by omega)
  have hw3 : w_X5_readReplicas_23 m2 ty (0, m_X5_readReplicas_1 m2 ty) = (0, c, x) := by rw [e3]; exact r1
  have hd : d_X5_open_1 M ty = (0, x) := by
    unfold d_X5_open_1 g_X5_readReplicas
    rw [e2, hw, if_neg (by decide), hw3, if_pos rfl]
    show (if x 19 0 < 2 then _ else ((0 : Int32), x)) = _
    rw [show x 19 0 = nI ps.length from r2.1.2, if_neg (show ¬ nI ps.length < 2 from nI_nlt (b := 2) h2 (by omega))]
  have hE : g_X8_isEnd (zPl x 2) = 1 := if_pos r3
  have hf : f_X5_open_19 M ty (0, 0, x) = .inr (0, 0, x) := by
    unfold f_X5_open_19
    rw [if_neg (show ¬ (600 : Int32) ≤ 0 by decide), if_pos rfl]
    show (if g_X8_isEnd (zPl x 2) = 0 then _ else _) = _
    rw [hE, if_neg (by decide)]
  have hw4 : w_X5_open_19 M ty (0, 0, x) = (0, 0, x) := zWr_stop hf (by omega)
  refine ⟨x, ?_, r2, ?_⟩
  · unfold g_X5_open
    rw [hd]
    show (if (w_X5_open_19 M ty (0, 0, x)).1 = 0 then (((w_X5_open_19 M ty (0, 0, x)).2.2 19 0), (w_X5_open_19 M ty (0, 0, x)).2.2) else _) = _
    rw [hw4, if_pos rfl]
    show (x 19 0, x) = _
    rw [show x 19 0 = nI ps.length from r2.1.2]
  · rw [r4, m3o 33 (by omega), m2o 33 (by omega), m1o 33 (by omega)]
theorem p_load (h6 : ty ≤ 600) (hT : ∀ j, T j < 128) {M : zM} {ps : List (Nat × Nat)} (hX : tX ty T (zPl M 2)) (h2 : 2 ≤ ps.length) (h9 : ps.length ≤ 9) (hok : ∀ q ∈ ps, oky q) (hA : At T 0 (zTxt 15 ++ pcs ps)) (hle : 7 + (pcs ps).length ≤ ty) (hend : ∀ j, 7 + (pcs ps).length ≤ j → T j = 32) {nx hp : Nat} (hx : M 33 1 = nI nx) (h11 : nx < 11) (hp0 : M 33 0 = nI hp) (h10 : hp ≤ 10) :
    ∃ x', g_X9_load M ty nx = (nI ps.length, x') ∧ XI ps.length 0 0 x' := by
  obtain ⟨x, g1, g2, g3⟩ := p_open h6 hT hX h2 h9 hok hA hle hend
  have hd1 : d_X9_load_1 M ty nx = (nI ps.length, x) := g1
  have hpos : 0 ≤ nI ps.length := nI_pos' (by omega)
  obtain ⟨y, ey⟩ : ∃ y, g_X3_note (zU x 2 0 0) nx = y := ⟨_, rfl⟩
  have hd2 : d_X9_load_2 M ty nx = y := by unfold d_X9_load_2; rw [hd1]; exact ey
  have yo : ∀ o, o < 35 → o ≠ 2 → y o = x o := fun o h1 h2 => by rw [← ey, fr_X3_note _ nx o h1]; exact zU_ne h2
  obtain ⟨c1, c2⟩ := e_copy y 5 19 (by omega)
  obtain ⟨z, ez⟩ : ∃ z, g_X4_copyFrom y 5 19 = z := ⟨_, rfl⟩
  rw [ez] at c1 c2
  have z33 : z 33 = M 33 := by rw [c1 33 (by omega), yo 33 (by decide) (by decide)]; exact g3
  obtain ⟨k1, k0, ko⟩ := e_keepNote (X := z) (nx := nx) (pc := hp) (by rw [z33]; exact hx) h11 (by rw [z33]; exact hp0) h10
  refine ⟨g_X3_keepNote z, ?_, ?_, ⟨_, Nat.mod_lt _ (by decide), k1⟩, _, ?_, k0⟩
  · unfold g_X9_load d_X9_load_3
    rw [hd1, hd2, ez, if_pos hpos]
    unfold g_X9_settled d_X9_settled_1
    rw [if_neg (Int32.not_lt.mpr hpos)]
  · have hj : j0 ps.length (zPl (g_X3_keepNote z) 5) := g2.pt fun o k hu => by
      have h12 := us_12 hu
      show g_X3_keepNote z (5 + o) k = x (19 + o) k
      rw [ko _ (by omega), c2 o k hu, yo _ (by omega) (by omega)]
    exact ⟨0, hj.J h2⟩
  · split <;> omega
end PRL

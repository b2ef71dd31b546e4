/-! THE WHOLE OBJECT and the whole reference say the same -/
/-- the numbers of an office that count -/
def qUse (o k : Nat) : Prop := (o = 0 ∧ k < 2) ∨ (o = 1 ∧ k < 3) ∨ (2 ≤ o ∧ o ≤ 6 ∧ k < 9) ∨ (o = 7 ∧ k < 8) ∨ ((o = 8 ∨ o = 9) ∧ k < 9) ∨ (o = 10 ∧ k = 0) ∨ (o = 11 ∧ k < 96)
theorem qUse_r {o r n : Nat} (h9 : n ≤ 9) (hr : r < n) (ho : 2 ≤ o ∧ o ≤ 6 ∨ o = 8 ∨ o = 9) : qUse o r := by
  unfold qUse
  omega
theorem qUse_7 {k : Nat} (hk : k < 8) : qUse 7 k := by
  unfold qUse
  omega
theorem qUse_11 {k : Nat} (hk : k < 96) : qUse 11 k := by
  unfold qUse
  omega
theorem qUse_1 {k : Nat} (hk : k < 3) : qUse 1 k := by
  unfold qUse
  omega
theorem qUse_00 : qUse 0 0 := by
  unfold qUse
  omega
theorem qUse_01 : qUse 0 1 := by
  unfold qUse
  omega
theorem qUse_10 : qUse 10 0 := by
  unfold qUse
  omega
theorem rl.pt {n oz T : Nat} {N N' : zM} {w w' : Nat → Int32} (h : rl n oz T N w) (e : ∀ o k, qUse o k → N' o k = N o k) (ew : ∀ k, k < 187 → w' k = w k) : rl n oz T N' w' := by
  have h1 : rl n oz T N w' := h.eq (fun _ _ => rfl) ew
  obtain ⟨a1, a2, a3, a4, a5, a6, a7, a8, a9, b1, b2, b3, b4, b5⟩ := h1
  have h9 : n ≤ 9 := a1.1
  have e7 : ∀ k, k < 8 → N' 7 k = N 7 k := fun k hk => e 7 k (qUse_7 hk)
  have eS : ∀ r, qSt N' r = qSt N r := fun r => by
    unfold qSt
    rw [e7 5 (by decide), e7 6 (by decide), e7 7 (by decide)]
  have eM : ∀ t, qMj n N t → qMj n N' t := fun t ht => by
    unfold qMj at ht ⊢
    rw [qN_congr (f := fun r => decide (nI t ≤ N' 4 r)) (g := fun r => decide (nI t ≤ N 4 r)) n fun r hr => by rw [e 4 r (qUse_r h9 hr (by decide))]]
    exact ht
  refine ⟨⟨h9, (e 0 0 qUse_00).trans a1.2.1, a1.2.2⟩, ?_, fun k hk => ?_, fun r hr => ?_, fun r hr => ?_, fun r hr => ?_, fun r hr => ?_, fun r hr => ?_, ?_, ?_, ?_, b3, ?_, ?_⟩
  · unfold rl_up
    rw [e 0 1 qUse_01]
    exact a2
  · rw [e 1 k (qUse_1 hk)]
    exact a3 k hk
  · rw [e 2 r (qUse_r h9 hr (by decide))]
    exact a4 r hr
  · rw [e 3 r (qUse_r h9 hr (by decide))]
    exact a5 r hr
  · rw [e 4 r (qUse_r h9 hr (by decide))]
    exact a6 r hr
  · rw [e 5 r (qUse_r h9 hr (by decide))]
    exact a7 r hr
  · rw [e 6 r (qUse_r h9 hr (by decide))]
    refine ⟨(a8 r hr).1, (a8 r hr).2.1, (a8 r hr).2.2.1, fun b hb => ?_⟩
    rw [e 6 b (qUse_r h9 hb (by decide))]
    exact (a8 r hr).2.2.2 b hb
  · unfold rl_hd
    rw [e7 0 (by decide), e7 1 (by decide), e7 2 (by decide), e7 3 (by decide), e7 4 (by decide)]
    exact a9
  · refine ⟨?_, ?_, fun r hr => ?_⟩
    · rw [e7 0 (by decide), e7 3 (by decide), e7 6 (by decide), e7 7 (by decide)]
      exact b1.1
    · rw [e7 3 (by decide), e7 5 (by decide), e7 6 (by decide), e7 7 (by decide)]
      exact b1.2.1
    · rw [e7 3 (by decide), e7 5 (by decide), e7 6 (by decide), e7 7 (by decide), e 9 r (qUse_r h9 hr (by decide))]
      exact b1.2.2 r hr
  · intro hp r hr
    rw [e7 0 (by decide)] at hp
    rw [eS, e 8 r (qUse_r h9 hr (by decide)), e 9 r (qUse_r h9 hr (by decide))]
    exact b2 hp r hr
  · refine ⟨b4.1, (e 10 0 qUse_10).trans b4.2.1, b4.2.2.1, fun k hk => ?_⟩
    rw [e 11 k (qUse_11 (by have := b4.1; omega))]
    exact b4.2.2.2 k hk
  · have h12 := b4.1
    refine ⟨fun r hr => ?_, fun hp => ?_, fun j hj => ?_, fun hp => ?_⟩
    · rw [e 4 r (qUse_r h9 hr (by decide))]
      exact b5.1 r hr
    · rw [e7 0 (by decide)] at hp
      obtain ⟨t, t1, t2, t3⟩ := b5.2.1 hp
      exact ⟨t, t1, (e7 1 (by decide)).trans t2, eM t t3⟩
    · obtain ⟨t, t1, t2, t3, t4, t5⟩ := b5.2.2.1 j hj
      rw [e7 0 (by decide), e7 1 (by decide)]
      exact ⟨t, t1, (e 11 _ (qUse_11 (by omega))).trans t2, eM t t3, t4, t5⟩
    · rw [e7 0 (by decide)] at hp
      obtain ⟨h0, h1⟩ := b5.2.2.2 hp
      exact ⟨h0, by rw [e 11 _ (qUse_11 (by omega)), e7 1 (by decide)]; exact h1⟩
/-! copies of offices -/
def qIv (M : zM) (a b : Nat) (D : Nat → Nat → Prop) (X : zM) : Prop := (∀ o k, D o k → X (a + o) k = M (b + o) k) ∧ ∀ o, b ≤ o → o < b + 14 → X o = M o
theorem qIv.u {M X : zM} {a b i k0 A B : Nat} {D : Nat → Nat → Prop} (hd : a + 14 ≤ b ∨ b + 14 ≤ a) (hi : i < 14) (hA : A = a + i) (hB : B = b + i) (h : qIv M a b D X) : qIv M a b (fun o k => D o k ∨ (o = i ∧ k = k0)) (zU X A k0 (X B k0)) := by
  subst hA hB
  refine ⟨fun o k hok => ?_, fun o h1 h2 => (zU_ne (by omega)).trans (h.2 o h1 h2)⟩
  by_cases e : o = i
  · subst e
    rw [zU_c]
    by_cases ek : k = k0
    · rw [if_pos ek, ek, h.2 (b + o) (by omega) (by omega)]
    · rw [if_neg ek]
      rcases hok with q | q
      · exact h.1 o k q
      · exact absurd q.2 ek
  · rw [zU_ne (by omega)]
    rcases hok with q | q
    · exact h.1 o k q
    · exact absurd q.1 e
theorem qIv.a {M X : zM} {a b i n A B : Nat} {D : Nat → Nat → Prop} (hd : a + 14 ≤ b ∨ b + 14 ≤ a) (hi : i < 14) (hA : A = a + i) (hB : B = b + i) (h : qIv M a b D X) : qIv M a b (fun o k => D o k ∨ (o = i ∧ k < n)) (zUa X A (va_cpy (X B) (X A) 0 0 n)) := by
  subst hA hB
  refine ⟨fun o k hok => ?_, fun o h1 h2 => (zUa_ne (by omega)).trans (h.2 o h1 h2)⟩
  by_cases e : o = i
  · subst e
    rw [zUa_eq]
    by_cases ek : k < n
    · rw [pk_cpy_in (by omega) (by omega), h.2 (b + o) (by omega) (by omega), Nat.sub_zero, Nat.zero_add]
    · rw [pk_cpy_out (by omega)]
      rcases hok with q | q
      · exact h.1 o k q
      · exact absurd q.2 ek
  · rw [zUa_ne (by omega)]
    rcases hok with q | q
    · exact h.1 o k q
    · exact absurd q.1 e
theorem e_copy (M : zM) (a b : Nat) (hd : a + 14 ≤ b ∨ b + 14 ≤ a) : (∀ o, o < a ∨ a + 12 ≤ o → g_X4_copyFrom M a b o = M o) ∧ ∀ o k, qUse o k → g_X4_copyFrom M a b (a + o) k = M (b + o) k := by
  refine ⟨fun o ho => fr_copy M a b o ho, ?_⟩
  have h0 : qIv M a b (fun _ _ => False) M := ⟨fun _ _ q => q.elim, fun _ _ _ => rfl⟩
  have g1 : qIv M a b _ (m_X4_copyFrom_1 M a b) := h0.u (i := 0) (k0 := 0) (A := a) (B := b) hd (by decide) rfl rfl
  have g2 : qIv M a b _ (m_X4_copyFrom_2 M a b) := g1.u (i := 0) (k0 := 1) (A := a) (B := b) hd (by decide) rfl rfl
  have g3 : qIv M a b _ (m_X4_copyFrom_3 M a b) := g2.a (i := 1) (n := 3) (A := (a + 1)) (B := (b + 1)) hd (by decide) rfl rfl
  have g4 : qIv M a b _ (m_X4_copyFrom_4 M a b) := g3.a (i := 2) (n := 9) (A := (a + 2)) (B := (b + 2)) hd (by decide) rfl rfl
  have g5 : qIv M a b _ (m_X4_copyFrom_5 M a b) := g4.a (i := 3) (n := 9) (A := (a + 3)) (B := (b + 3)) hd (by decide) rfl rfl
  have g6 : qIv M a b _ (m_X4_copyFrom_6 M a b) := g5.a (i := 4) (n := 9) (A := (a + 4)) (B := (b + 4)) hd (by decide) rfl rfl
  have g7 : qIv M a b _ (m_X4_copyFrom_7 M a b) := g6.a (i := 5) (n := 9) (A := (a + 5)) (B := (b + 5)) hd (by decide) rfl rfl
  have g8 : qIv M a b _ (m_X4_copyFrom_8 M a b) := g7.a (i := 6) (n := 9) (A := (a + 6)) (B := (b + 6)) hd (by decide) rfl rfl
  have g9 : qIv M a b _ (m_X1_copyFrom_1 (m_X4_copyFrom_8 M a b) (a + 7) (b + 7)) := g8.u (i := 7) (k0 := 0) (A := (a + 7)) (B := (b + 7)) hd (by decide) rfl rfl
  have g10 : qIv M a b _ (m_X1_copyFrom_2 (m_X4_copyFrom_8 M a b) (a + 7) (b + 7)) := g9.u (i := 7) (k0 := 1) (A := (a + 7)) (B := (b + 7)) hd (by decide) rfl rfl
  have g11 : qIv M a b _ (m_X1_copyFrom_3 (m_X4_copyFrom_8 M a b) (a + 7) (b + 7)) := g10.u (i := 7) (k0 := 2) (A := (a + 7)) (B := (b + 7)) hd (by decide) rfl rfl
  have g12 : qIv M a b _ (m_X1_copyFrom_4 (m_X4_copyFrom_8 M a b) (a + 7) (b + 7)) := g11.u (i := 7) (k0 := 3) (A := (a + 7)) (B := (b + 7)) hd (by decide) rfl rfl
  have g13 : qIv M a b _ (m_X1_copyFrom_5 (m_X4_copyFrom_8 M a b) (a + 7) (b + 7)) := g12.u (i := 7) (k0 := 4) (A := (a + 7)) (B := (b + 7)) hd (by decide) rfl rfl
  have g14 : qIv M a b _ (m_X1_copyFrom_6 (m_X4_copyFrom_8 M a b) (a + 7) (b + 7)) := g13.u (i := 7) (k0 := 5) (A := (a + 7)) (B := (b + 7)) hd (by decide) rfl rfl
  have g15 : qIv M a b _ (m_X1_copyFrom_7 (m_X4_copyFrom_8 M a b) (a + 7) (b + 7)) := g14.u (i := 7) (k0 := 6) (A := (a + 7)) (B := (b + 7)) hd (by decide) rfl rfl
  have g16 : qIv M a b _ (m_X1_copyFrom_8 (m_X4_copyFrom_8 M a b) (a + 7) (b + 7)) := g15.u (i := 7) (k0 := 7) (A := (a + 7)) (B := (b + 7)) hd (by decide) rfl rfl
  have g17 : qIv M a b _ (m_X1_copyFrom_9 (m_X4_copyFrom_8 M a b) (a + 7) (b + 7)) := g16.a (i := 8) (n := 9) (A := (a + 7 + 1)) (B := (b + 7 + 1)) hd (by decide) (by omega) (by omega)
  have g18 : qIv M a b _ (m_X1_copyFrom_10 (m_X4_copyFrom_8 M a b) (a + 7) (b + 7)) := g17.a (i := 9) (n := 9) (A := (a + 7 + 2)) (B := (b + 7 + 2)) hd (by decide) (by omega) (by omega)
  have gm : qIv M a b _ (m_X4_copyFrom_9 M a b) := g18
  have g20 : qIv M a b _ (m_X6_copyFrom_1 (m_X4_copyFrom_9 M a b) (a + 10) (b + 10)) := gm.u (i := 10) (k0 := 0) (A := (a + 10)) (B := (b + 10)) hd (by decide) rfl rfl
  have g21 : qIv M a b _ (m_X6_copyFrom_2 (m_X4_copyFrom_9 M a b) (a + 10) (b + 10)) := g20.a (i := 11) (n := 96) (A := (a + 10 + 1)) (B := (b + 10 + 1)) hd (by decide) (by omega) (by omega)
  have h4 : qIv M a b _ (g_X4_copyFrom M a b) := g21
  intro o k hu
  refine h4.1 o k ?_
  clear h0 h4 gm
  rcases hu with ⟨rfl, hk⟩ | ⟨rfl, hk⟩ | ⟨h2, h6, hk⟩ | ⟨rfl, hk⟩ | ⟨rfl | rfl, hk⟩ | ⟨rfl, hk⟩ | ⟨rfl, hk⟩
  · simp
    omega
  · simp [hk]
  · rcases (show o = 2 ∨ o = 3 ∨ o = 4 ∨ o = 5 ∨ o = 6 by omega) with rfl | rfl | rfl | rfl | rfl <;> simp [hk]
  · simp
    omega
  · simp [hk]
  · simp [hk]
  · simp [hk]
  · simp [hk]
/-- bytes of the text on both sides -/
def qBy (a b : Int32) : Prop := ∃ v, v < 256 ∧ b = nI v ∧ a = (nI v).toInt8.toInt32
def xH (nx pc T : Nat) (gq : Nat → Nat) (x m : zM) : Prop := (x 33 0 = nI pc ∧ m 0 3 = nI pc ∧ pc ≤ 10) ∧ (x 33 1 = nI nx ∧ nx < 11) ∧ zPm gq ∧ ∀ j, j < pc → ∃ n oz, 2 ≤ n ∧ rl n oz T (zPl x (35 + 14 * ((nx + 10 - j) % 11))) (m (gq (pc - 1 - j)))
def xS (T : Nat) (sl : Nat → Option Nat) (ext : List va_E) (x m : zM) : Prop := zCs (191 + ext.length) ext ∧ (∀ j q, sl j = some q → (191 ≤ q ∧ q + 14 ≤ 191 + ext.length ∧ zSub (sh_X sl ext) q sh_Office) ∧ j < 2) ∧ (∀ q q', sl 0 = some q → sl 1 = some q' → q + 14 ≤ q' ∨ q' + 14 ≤ q) ∧
  ∀ j, j < 2 → (sl j = none → m 16 j = 0) ∧ ∀ q, sl j = some q → ¬ m 16 j = 0 ∧ ∃ n oz, 2 ≤ n ∧ rl n oz T (zPl x q) (m (14 + j))
def xT (ty : Nat) (x m : zM) : Prop := (x 2 0 = nI ty ∧ m 0 8 = nI ty ∧ ty ≤ 600) ∧ ∀ k, k < ty → qBy (x 3 k) (m 18 k)
def xP (rp : Nat) (x m : zM) : Prop := (x 0 7 = nI rp ∧ m 0 10 = nI rp ∧ rp ≤ 9) ∧ ∀ k, k < rp → x 190 k = m 19 k
def xR (n oz nx pc ty rp T : Nat) (sl : Nat → Option Nat) (ext : List va_E) (gq : Nat → Nat) (x m : zM) : Prop := (2 ≤ n ∧ rl n oz T (zPl x 5) (m 1)) ∧ xH nx pc T gq x m ∧ xS T sl ext x m ∧ xT ty x m ∧ xP rp x m

/-! TWENTY LETTERS in five ints -/
def pk4 (a b c d : Nat) : Int32 := (((0 ||| (nI a <<< (nI 24 &&& 31))) ||| (nI b <<< (nI 16 &&& 31))) ||| (nI c <<< (nI 8 &&& 31))) ||| (nI d <<< (nI 0 &&& 31))
theorem pk_24_24 : ∀ c, c < 128 → ((nI c <<< (nI 24 &&& 31)) >>> ((24 : Int32) &&& 31)).toInt8.toInt32.toInt8.toInt32 = nI c := by decide +kernel
theorem pk_24_16 : ∀ c, c < 128 → ((nI c <<< (nI 16 &&& 31)) >>> ((24 : Int32) &&& 31)).toInt8.toInt32.toInt8.toInt32 = 0 := by decide +kernel
theorem pk_24_8 : ∀ c, c < 128 → ((nI c <<< (nI 8 &&& 31)) >>> ((24 : Int32) &&& 31)).toInt8.toInt32.toInt8.toInt32 = 0 := by decide +kernel
theorem pk_24_0 : ∀ c, c < 128 → ((nI c <<< (nI 0 &&& 31)) >>> ((24 : Int32) &&& 31)).toInt8.toInt32.toInt8.toInt32 = 0 := by decide +kernel
theorem pk_16_24 : ∀ c, c < 128 → ((nI c <<< (nI 24 &&& 31)) >>> ((16 : Int32) &&& 31)).toInt8.toInt32.toInt8.toInt32 = 0 := by decide +kernel
theorem pk_16_16 : ∀ c, c < 128 → ((nI c <<< (nI 16 &&& 31)) >>> ((16 : Int32) &&& 31)).toInt8.toInt32.toInt8.toInt32 = nI c := by decide +kernel
theorem pk_16_8 : ∀ c, c < 128 → ((nI c <<< (nI 8 &&& 31)) >>> ((16 : Int32) &&& 31)).toInt8.toInt32.toInt8.toInt32 = 0 := by decide +kernel
theorem pk_16_0 : ∀ c, c < 128 → ((nI c <<< (nI 0 &&& 31)) >>> ((16 : Int32) &&& 31)).toInt8.toInt32.toInt8.toInt32 = 0 := by decide +kernel
theorem pk_8_24 : ∀ c, c < 128 → ((nI c <<< (nI 24 &&& 31)) >>> ((8 : Int32) &&& 31)).toInt8.toInt32.toInt8.toInt32 = 0 := by decide +kernel
theorem pk_8_16 : ∀ c, c < 128 → ((nI c <<< (nI 16 &&& 31)) >>> ((8 : Int32) &&& 31)).toInt8.toInt32.toInt8.toInt32 = 0 := by decide +kernel
theorem pk_8_8 : ∀ c, c < 128 → ((nI c <<< (nI 8 &&& 31)) >>> ((8 : Int32) &&& 31)).toInt8.toInt32.toInt8.toInt32 = nI c := by decide +kernel
theorem pk_8_0 : ∀ c, c < 128 → ((nI c <<< (nI 0 &&& 31)) >>> ((8 : Int32) &&& 31)).toInt8.toInt32.toInt8.toInt32 = 0 := by decide +kernel
theorem pk_0_24 : ∀ c, c < 128 → ((nI c <<< (nI 24 &&& 31)) >>> ((0 : Int32) &&& 31)).toInt8.toInt32.toInt8.toInt32 = 0 := by decide +kernel
theorem pk_0_16 : ∀ c, c < 128 → ((nI c <<< (nI 16 &&& 31)) >>> ((0 : Int32) &&& 31)).toInt8.toInt32.toInt8.toInt32 = 0 := by decide +kernel
theorem pk_0_8 : ∀ c, c < 128 → ((nI c <<< (nI 8 &&& 31)) >>> ((0 : Int32) &&& 31)).toInt8.toInt32.toInt8.toInt32 = 0 := by decide +kernel
theorem pk_0_0 : ∀ c, c < 128 → ((nI c <<< (nI 0 &&& 31)) >>> ((0 : Int32) &&& 31)).toInt8.toInt32.toInt8.toInt32 = nI c := by decide +kernel
theorem pk_z (k : Int32) : ((0 : Int32) >>> k).toInt8.toInt32.toInt8.toInt32 = 0 := by rw [Int32.zero_shiftRight]; rfl
theorem un_24 {a b c d : Nat} (ha : a < 128) (hb : b < 128) (hc : c < 128) (hd : d < 128) : vp_nar .byte ((pk4 a b c d >>> ((24 : Int32) &&& 31)).toInt8.toInt32) = nI a := by
  rw [vp_nar_byte]
  unfold pk4
  simp only [Int32.shiftRight_or, Int32.toInt8_or, Int8.toInt32_or]
  rw [pk_z, pk_24_24 a ha, pk_24_16 b hb, pk_24_8 c hc, pk_24_0 d hd]
  simp
theorem un_16 {a b c d : Nat} (ha : a < 128) (hb : b < 128) (hc : c < 128) (hd : d < 128) : vp_nar .byte ((pk4 a b c d >>> ((16 : Int32) &&& 31)).toInt8.toInt32) = nI b := by
  rw [vp_nar_byte]
  unfold pk4
  simp only [Int32.shiftRight_or, Int32.toInt8_or, Int8.toInt32_or]
  rw [pk_z, pk_16_24 a ha, pk_16_16 b hb, pk_16_8 c hc, pk_16_0 d hd]
  simp
theorem un_8 {a b c d : Nat} (ha : a < 128) (hb : b < 128) (hc : c < 128) (hd : d < 128) : vp_nar .byte ((pk4 a b c d >>> ((8 : Int32) &&& 31)).toInt8.toInt32) = nI c := by
  rw [vp_nar_byte]
  unfold pk4
  simp only [Int32.shiftRight_or, Int32.toInt8_or, Int8.toInt32_or]
  rw [pk_z, pk_8_24 a ha, pk_8_16 b hb, pk_8_8 c hc, pk_8_0 d hd]
  simp
theorem un_0 {a b c d : Nat} (ha : a < 128) (hb : b < 128) (hc : c < 128) (hd : d < 128) : vp_nar .byte ((pk4 a b c d >>> ((0 : Int32) &&& 31)).toInt8.toInt32) = nI d := by
  rw [vp_nar_byte]
  unfold pk4
  simp only [Int32.shiftRight_or, Int32.toInt8_or, Int8.toInt32_or]
  rw [pk_z, pk_0_24 a ha, pk_0_16 b hb, pk_0_8 c hc, pk_0_0 d hd]
  simp
/-- the row of five behind i letters -/
def r20 (f : Nat → Nat) : Nat → Nat → Int32
  | 0 => fun _ => 0
  | i + 1 => fun j => if j = i / 4 then r20 f i j ||| (nI (f i) <<< (nI (24 - 8 * (i % 4)) &&& 31)) else r20 f i j
theorem r20_0 (f : Nat → Nat) : r20 f 20 0 = pk4 (f 0) (f 1) (f 2) (f 3) := rfl
theorem r20_1 (f : Nat → Nat) : r20 f 20 1 = pk4 (f 4) (f 5) (f 6) (f 7) := rfl
theorem r20_2 (f : Nat → Nat) : r20 f 20 2 = pk4 (f 8) (f 9) (f 10) (f 11) := rfl
theorem r20_3 (f : Nat → Nat) : r20 f 20 3 = pk4 (f 12) (f 13) (f 14) (f 15) := rfl
theorem r20_4 (f : Nat → Nat) : r20 f 20 4 = pk4 (f 16) (f 17) (f 18) (f 19) := rfl
theorem ap_4 {ty : Nat} {T : Nat → Nat} (hT : ∀ j, T j < 128) {m : zM} (hX : tX ty T m) : tX (ty + 4) T (g_X8_putFour m ty (pk4 (T ty) (T (ty + 1)) (T (ty + 2)) (T (ty + 3)))) := by
  obtain ⟨h0, h1⟩ := hX
  unfold g_X8_putFour
  rw [un_24 (hT _) (hT _) (hT _) (hT _), un_16 (hT _) (hT _) (hT _) (hT _), un_8 (hT _) (hT _) (hT _) (hT _), un_0 (hT _) (hT _) (hT _) (hT _), h0, nI_1, nI_1, nI_1, nI_1]
  refine ⟨zU_s, fun j hj => ?_⟩
  rw [zU_ne (by decide), zU_c]
  by_cases e3 : j = ty + 3
  · rw [if_pos e3, e3]
  rw [if_neg e3, zU_ne (by decide), zU_c]
  by_cases e2 : j = ty + 2
  · rw [if_pos e2, e2]
  rw [if_neg e2, zU_ne (by decide), zU_c]
  by_cases e1 : j = ty + 1
  · rw [if_pos e1, e1]
  rw [if_neg e1, zU_ne (by decide), zU_c]
  by_cases e0 : j = ty
  · rw [if_pos e0, e0]
  rw [if_neg e0]
  exact h1 j (by omega)
theorem ap_5 {ty : Nat} {T : Nat → Nat} {M N : zM} (hX : tX ty T N) : tX ty T (zPl (zPs M 2 2 N) 2) := hX.of (congrFun (zPl_ps (by decide)) 0) (zPl_ps (by decide))
theorem ap_20 {ty : Nat} {T : Nat → Nat} (hT : ∀ j, T j < 128) {M : zM} (hX : tX ty T (zPl M 2)) (h6 : ty + 20 ≤ 600) {a b c d e : Int32} (ha : a = pk4 (T ty) (T (ty + 1)) (T (ty + 2)) (T (ty + 3))) (hb : b = pk4 (T (ty + 4)) (T (ty + 5)) (T (ty + 6)) (T (ty + 7))) (hc : c = pk4 (T (ty + 8)) (T (ty + 9)) (T (ty + 10)) (T (ty + 11))) (hd : d = pk4 (T (ty + 12)) (T (ty + 13)) (T (ty + 14)) (T (ty + 15))) (he : e = pk4 (T (ty + 16)) (T (ty + 17)) (T (ty + 18)) (T (ty + 19))) :
    tX (ty + 20) T (zPl (g_X9_append M ty a b c d e).2 2) ∧ ∀ o, 4 ≤ o → (g_X9_append M ty a b c d e).2 o = M o := by
  have h20 : M 2 0 + 20 ≤ 600 := by
    rw [show M 2 0 = nI ty from hX.1, show nI ty + 20 = nI (ty + 20) from nI_add ty 20]
    exact nI_le (b := 600) h6 (by decide)
  have e0 : (g_X9_append M ty a b c d e).2 = m_X9_append_5 M ty a b c d e := by
    unfold g_X9_append
    rw [if_pos h20]
  rw [e0]
  subst ha hb hc hd he
  generalize ha : pk4 (T ty) (T (ty + 1)) (T (ty + 2)) (T (ty + 3)) = a
  generalize hb : pk4 (T (ty + 4)) (T (ty + 5)) (T (ty + 6)) (T (ty + 7)) = b
  generalize hc : pk4 (T (ty + 8)) (T (ty + 9)) (T (ty + 10)) (T (ty + 11)) = c
  generalize hd : pk4 (T (ty + 12)) (T (ty + 13)) (T (ty + 14)) (T (ty + 15)) = d
  generalize he : pk4 (T (ty + 16)) (T (ty + 17)) (T (ty + 18)) (T (ty + 19)) = e
  have k1 : tX (ty + 4) T (zPl (m_X9_append_1 M ty a b c d e) 2) := ap_5 (by rw [← ha]; exact ap_4 hT hX)
  have k2 : tX (ty + 4 + 4) T (zPl (m_X9_append_2 M ty a b c d e) 2) := ap_5 (by rw [← hb]; exact ap_4 hT k1)
  have k3 : tX (ty + 4 + 4 + 4) T (zPl (m_X9_append_3 M ty a b c d e) 2) := ap_5 (by rw [← hc]; exact ap_4 hT k2)
  have k4 : tX (ty + 4 + 4 + 4 + 4) T (zPl (m_X9_append_4 M ty a b c d e) 2) := ap_5 (by rw [← hd]; exact ap_4 hT k3)
  have k5 : tX (ty + 4 + 4 + 4 + 4 + 4) T (zPl (m_X9_append_5 M ty a b c d e) 2) := ap_5 (by rw [← he]; exact ap_4 hT k4)
  refine ⟨k5, fun o ho => ?_⟩
  have o1 : m_X9_append_1 M ty a b c d e o = M o := zPs_out (by omega)
  have o2 : m_X9_append_2 M ty a b c d e o = M o := (zPs_out (by omega)).trans o1
  have o3 : m_X9_append_3 M ty a b c d e o = M o := (zPs_out (by omega)).trans o2
  have o4 : m_X9_append_4 M ty a b c d e o = M o := (zPs_out (by omega)).trans o3
  exact (zPs_out (by omega)).trans o4

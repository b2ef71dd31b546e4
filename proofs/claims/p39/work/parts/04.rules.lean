/-! THE WORDS that every method may lean on: the good ones of the tables -/
def zW : List Cond := lw_tbl.filter goodWord
theorem zW_good {w : Cond} (h : w ∈ zW) : (w.onTables && w.keeps) = true ∨ ∃ ty, w = .arrayClass ty := good_of_word (List.mem_filter.mp h).2
/-- the tables' words by their places: chunk * 1000 + place -/
def zSg0 {α : Type} : List α → Nat → Option α
  | [], _ => none
  | q :: _, 0 => some q
  | _ :: r, n + 1 => zSg0 r n
theorem zSg0_mem {α : Type} : ∀ {l : List α} {k : Nat} {q : α}, zSg0 l k = some q → q ∈ l
  | [], k, q, h => by cases h
  | x :: r, 0, q, h => by cases h; exact List.mem_cons_self
  | x :: r, k + 1, q, h => List.mem_cons_of_mem _ (zSg0_mem (l := r) h)
def zAt (w : Nat) : Option Cond := match w / 1000 with
  | 0 => zSg0 (k2_sels lw_privs) (w % 1000)
  | 1 => zSg0 tables_1_1 (w % 1000)
  | 2 => zSg0 tables_1_2 (w % 1000)
  | 3 => zSg0 tables_1_3 (w % 1000)
  | 4 => zSg0 tables_1_4 (w % 1000)
  | 5 => zSg0 tables_1_5 (w % 1000)
  | _ => none
theorem zAt_in {w : Nat} {x : Cond} (h : zAt w = some x) : x ∈ lw_tbl := by
  unfold zAt at h
  unfold lw_tbl tables_1
  simp only [List.mem_append]
  split at h
  · exact Or.inl (zSg0_mem h)
  · exact Or.inr (Or.inl (zSg0_mem h))
  · exact Or.inr (Or.inr (Or.inl (zSg0_mem h)))
  · exact Or.inr (Or.inr (Or.inr (Or.inl (zSg0_mem h))))
  · exact Or.inr (Or.inr (Or.inr (Or.inr (Or.inl (zSg0_mem h)))))
  · exact Or.inr (Or.inr (Or.inr (Or.inr (Or.inr (zSg0_mem h)))))
  · cases h
theorem zIn {w : Nat} {x : Cond} (h : zAt w = some x) (g : goodWord x = true) : x ∈ zW := List.mem_filter.mpr ⟨zAt_in h, g⟩
/-- a method's words -/
def zWs (Y : zY) : List Cond := .code Y.1 Y.2.1 Y.2.2.1 Y.2.2.2.1 :: zW
def zTys (cA : Nat → ClassId) : List (ClassId × FieldType) := [(cA 0, .int), (cA 1, .byte), (cA 2, .byte), (cA 3, .object "SealedBallots$Office"), (cA 4, .int), (cA 5, .int)]
/-- types of the fields -/
def zFt (a b : Nat) : FieldType := match vwCl[a]? with
  | some q => (parseFieldDescriptor (q.2.1 b).2.2.1).getD .int
  | none => .int
theorem zCl_in : ∀ (q : vw_C), q ∈ vwCl → ∀ w ∈ u_ws q.1 q.2.1 q.2.2, w ∈ zW := by decide +kernel
theorem zCl_ty : ∀ (a : Nat) (q : vw_C), vwCl[a]? = some q → ∀ k, k < q.2.2 → parseFieldDescriptor (q.2.1 k).2.2.1 = some (zFt a k) := by
  intro a q h k hk
  have h0 : a < 9 := (List.getElem?_eq_some_iff.mp h).1
  have : ∀ a, a < 9 → ∀ k, k < ((vwCl[a]?).map (fun q => q.2.2)).getD 0 → ((vwCl[a]?).bind fun q => parseFieldDescriptor (q.2.1 k).2.2.1) = some (zFt a k) := by decide +kernel
  have := this a h0 k (by rw [h]; exact hk)
  rw [h] at this
  exact this
theorem zCl_nm : ∀ (a : Nat) (q : vw_C), vwCl[a]? = some q → ∀ x, x < q.2.2 → ∀ y, y < q.2.2 → x ≠ y → (q.2.1 x).2.1 ≠ (q.2.1 y).2.1 := by
  intro a q h
  have h0 : q ∈ vwCl := List.mem_of_getElem? h
  have : ∀ q ∈ vwCl, ∀ x, x < q.2.2 → ∀ y, y < q.2.2 → x ≠ y → (q.2.1 x).2.1 ≠ (q.2.1 y).2.1 := by decide +kernel
  exact this q h0
/-! WHAT STANDS OUTSIDE THE WORLDS: statics, written rows, constants, texts -/
def zZs : List (String × String × String × Value) := [("SealedBallots", "FIRST_SETTINGS", "[I", .retAddr 101),
  ("SealedBallots", "LOWEST", "[I", .retAddr 102),
  ("SealedBallots", "HIGHEST", "[I", .retAddr 103),
  ("SealedBallots$1", "$SwitchMap$SealedBallots$Deed", "[I", .retAddr 104),
  ("SealedBallots", "DEEDS", "[LSealedBallots$Deed;", .retAddr 100),
  ("java/lang/String", "COMPACT_STRINGS", "Z", .int 1),
  ("java/lang/Integer", "DigitOnes", "[B", .retAddr 105),
  ("java/lang/Integer", "DigitTens", "[B", .retAddr 106)]
def zTs : List (FieldType × Nat × List Value) := [(.int, 101, [.int 2, .int 1, .int 1]),
  (.int, 102, [.int 1, .int 0, .int 0, .int 0, .int 0, .int 1, .int 0, .int 0]),
  (.int, 103, [.int 9, .int 1, .int 3, .int 999, .int 65535, .int 99, .int 999, .int 8]),
  (.int, 104, [.int 1, .int 2, .int 3, .int 4, .int 5, .int 6, .int 7, .int 8, .int 9, .int 10, .int 11, .int 12, .int 13, .int 14, .int 0]),
  (.object "SealedBallots$Deed", 100, [.retAddr 0, .retAddr 1, .retAddr 2, .retAddr 3, .retAddr 4, .retAddr 5, .retAddr 6, .retAddr 7, .retAddr 8, .retAddr 9, .retAddr 10, .retAddr 11, .retAddr 12, .retAddr 13, .retAddr 14]),
  (.byte, 300, [.int 108, .int 101, .int 97, .int 115, .int 116]),
  (.byte, 301, [.int 116, .int 105, .int 101, .int 115]),
  (.byte, 302, [.int 114, .int 101, .int 99, .int 111, .int 117, .int 110, .int 116, .int 115]),
  (.byte, 303, [.int 99, .int 97, .int 108, .int 108]),
  (.byte, 304, [.int 118, .int 111, .int 116, .int 101]),
  (.byte, 305, [.int 115, .int 101, .int 97, .int 108]),
  (.byte, 306, [.int 99, .int 108, .int 111, .int 115, .int 101]),
  (.byte, 307, [.int 98, .int 114, .int 101, .int 97, .int 107]),
  (.byte, 308, [.int 99, .int 111, .int 117, .int 110, .int 116]),
  (.byte, 309, [.int 114, .int 101, .int 99, .int 111, .int 117, .int 110, .int 116]),
  (.byte, 310, [.int 103, .int 105, .int 118, .int 101]),
  (.byte, 311, [.int 100, .int 111, .int 119, .int 110]),
  (.byte, 312, [.int 117, .int 112]),
  (.byte, 313, [.int 99, .int 117, .int 116]),
  (.byte, 314, [.int 106, .int 111, .int 105, .int 110]),
  (.byte, 315, [.int 111, .int 102, .int 102, .int 105, .int 99, .int 101, .int 32]),
  (.byte, 316, [.int 116, .int 104, .int 101, .int 114, .int 101, .int 32, .int 105, .int 115, .int 32, .int 110, .int 111, .int 32, .int 115, .int 117, .int 99, .int 104, .int 32, .int 114, .int 101, .int 112, .int 108, .int 105, .int 99, .int 97]),
  (.byte, 317, [.int 97, .int 110, .int 32, .int 97, .int 114, .int 103, .int 117, .int 109, .int 101, .int 110, .int 116, .int 32, .int 105, .int 115, .int 32, .int 111, .int 117, .int 116, .int 32, .int 111, .int 102, .int 32, .int 105, .int 116, .int 115, .int 32, .int 114, .int 97, .int 110, .int 103, .int 101]),
  (.byte, 318, [.int 111, .int 102, .int 102, .int 105, .int 99, .int 101]),
  (.byte, 319, [.int 114, .int 101, .int 112, .int 108, .int 105, .int 99, .int 97]),
  (.byte, 320, [.int 114, .int 101, .int 112, .int 108, .int 105, .int 99, .int 97, .int 32]),
  (.byte, 105, [.int 48, .int 49, .int 50, .int 51, .int 52, .int 53, .int 54, .int 55, .int 56, .int 57, .int 48, .int 49, .int 50, .int 51, .int 52, .int 53, .int 54, .int 55, .int 56, .int 57, .int 48, .int 49, .int 50, .int 51, .int 52, .int 53, .int 54, .int 55, .int 56, .int 57, .int 48, .int 49, .int 50, .int 51, .int 52, .int 53, .int 54, .int 55, .int 56, .int 57, .int 48, .int 49, .int 50, .int 51, .int 52, .int 53, .int 54, .int 55, .int 56, .int 57, .int 48, .int 49, .int 50, .int 51, .int 52, .int 53, .int 54, .int 55, .int 56, .int 57, .int 48, .int 49, .int 50, .int 51, .int 52, .int 53, .int 54, .int 55, .int 56, .int 57, .int 48, .int 49, .int 50, .int 51, .int 52, .int 53, .int 54, .int 55, .int 56, .int 57, .int 48, .int 49, .int 50, .int 51, .int 52, .int 53, .int 54, .int 55, .int 56, .int 57, .int 48, .int 49, .int 50, .int 51, .int 52, .int 53, .int 54, .int 55, .int 56, .int 57]),
  (.byte, 106, [.int 48, .int 48, .int 48, .int 48, .int 48, .int 48, .int 48, .int 48, .int 48, .int 48, .int 49, .int 49, .int 49, .int 49, .int 49, .int 49, .int 49, .int 49, .int 49, .int 49, .int 50, .int 50, .int 50, .int 50, .int 50, .int 50, .int 50, .int 50, .int 50, .int 50, .int 51, .int 51, .int 51, .int 51, .int 51, .int 51, .int 51, .int 51, .int 51, .int 51, .int 52, .int 52, .int 52, .int 52, .int 52, .int 52, .int 52, .int 52, .int 52, .int 52, .int 53, .int 53, .int 53, .int 53, .int 53, .int 53, .int 53, .int 53, .int 53, .int 53, .int 54, .int 54, .int 54, .int 54, .int 54, .int 54, .int 54, .int 54, .int 54, .int 54, .int 55, .int 55, .int 55, .int 55, .int 55, .int 55, .int 55, .int 55, .int 55, .int 55, .int 56, .int 56, .int 56, .int 56, .int 56, .int 56, .int 56, .int 56, .int 56, .int 56, .int 57, .int 57, .int 57, .int 57, .int 57, .int 57, .int 57, .int 57, .int 57, .int 57])]
def zOs : List (String × Nat) := [("SealedBallots$Deed", 0),
  ("SealedBallots$Deed", 1),
  ("SealedBallots$Deed", 2),
  ("SealedBallots$Deed", 3),
  ("SealedBallots$Deed", 4),
  ("SealedBallots$Deed", 5),
  ("SealedBallots$Deed", 6),
  ("SealedBallots$Deed", 7),
  ("SealedBallots$Deed", 8),
  ("SealedBallots$Deed", 9),
  ("SealedBallots$Deed", 10),
  ("SealedBallots$Deed", 11),
  ("SealedBallots$Deed", 12),
  ("SealedBallots$Deed", 13),
  ("SealedBallots$Deed", 14),
  ("java/lang/String", 200),
  ("java/lang/String", 201),
  ("java/lang/String", 202),
  ("java/lang/String", 203),
  ("java/lang/String", 204),
  ("java/lang/String", 205),
  ("java/lang/String", 206),
  ("java/lang/String", 207),
  ("java/lang/String", 208),
  ("java/lang/String", 209),
  ("java/lang/String", 210),
  ("java/lang/String", 211),
  ("java/lang/String", 212),
  ("java/lang/String", 213),
  ("java/lang/String", 214),
  ("java/lang/String", 215),
  ("java/lang/String", 216),
  ("java/lang/String", 217),
  ("java/lang/String", 218),
  ("java/lang/String", 219),
  ("java/lang/String", 220)]
def zFs : List (String × String × String × Value × Nat) := [("java/lang/Enum", "ordinal", "I", .int 0, 0),
  ("SealedBallots$Deed", "word", "Ljava/lang/String;", .retAddr 200, 0),
  ("SealedBallots$Deed", "firstKind", "I", .int 0, 0),
  ("SealedBallots$Deed", "secondKind", "I", .int (-1), 0),
  ("SealedBallots$Deed", "thirdKind", "I", .int (-1), 0),
  ("java/lang/Enum", "ordinal", "I", .int 1, 1),
  ("SealedBallots$Deed", "word", "Ljava/lang/String;", .retAddr 201, 1),
  ("SealedBallots$Deed", "firstKind", "I", .int 1, 1),
  ("SealedBallots$Deed", "secondKind", "I", .int (-1), 1),
  ("SealedBallots$Deed", "thirdKind", "I", .int (-1), 1),
  ("java/lang/Enum", "ordinal", "I", .int 2, 2),
  ("SealedBallots$Deed", "word", "Ljava/lang/String;", .retAddr 202, 2),
  ("SealedBallots$Deed", "firstKind", "I", .int 2, 2),
  ("SealedBallots$Deed", "secondKind", "I", .int (-1), 2),
  ("SealedBallots$Deed", "thirdKind", "I", .int (-1), 2),
  ("java/lang/Enum", "ordinal", "I", .int 3, 3),
  ("SealedBallots$Deed", "word", "Ljava/lang/String;", .retAddr 203, 3),
  ("SealedBallots$Deed", "firstKind", "I", .int 7, 3),
  ("SealedBallots$Deed", "secondKind", "I", .int (-1), 3),
  ("SealedBallots$Deed", "thirdKind", "I", .int (-1), 3),
  ("java/lang/Enum", "ordinal", "I", .int 4, 4),
  ("SealedBallots$Deed", "word", "Ljava/lang/String;", .retAddr 204, 4),
  ("SealedBallots$Deed", "firstKind", "I", .int 7, 4),
  ("SealedBallots$Deed", "secondKind", "I", .int 7, 4),
  ("SealedBallots$Deed", "thirdKind", "I", .int 3, 4),
  ("java/lang/Enum", "ordinal", "I", .int 5, 5),
  ("SealedBallots$Deed", "word", "Ljava/lang/String;", .retAddr 205, 5),
  ("SealedBallots$Deed", "firstKind", "I", .int 7, 5),
  ("SealedBallots$Deed", "secondKind", "I", .int 4, 5),
  ("SealedBallots$Deed", "thirdKind", "I", .int (-1), 5),
  ("java/lang/Enum", "ordinal", "I", .int 6, 6),
  ("SealedBallots$Deed", "word", "Ljava/lang/String;", .retAddr 206, 6),
  ("SealedBallots$Deed", "firstKind", "I", .int (-1), 6),
  ("SealedBallots$Deed", "secondKind", "I", .int (-1), 6),
  ("SealedBallots$Deed", "thirdKind", "I", .int (-1), 6),
  ("java/lang/Enum", "ordinal", "I", .int 7, 7),
  ("SealedBallots$Deed", "word", "Ljava/lang/String;", .retAddr 207, 7),
  ("SealedBallots$Deed", "firstKind", "I", .int 7, 7),
  ("SealedBallots$Deed", "secondKind", "I", .int 7, 7),
  ("SealedBallots$Deed", "thirdKind", "I", .int 3, 7),
  ("java/lang/Enum", "ordinal", "I", .int 8, 8),
  ("SealedBallots$Deed", "word", "Ljava/lang/String;", .retAddr 208, 8),
  ("SealedBallots$Deed", "firstKind", "I", .int (-1), 8),
  ("SealedBallots$Deed", "secondKind", "I", .int (-1), 8),
  ("SealedBallots$Deed", "thirdKind", "I", .int (-1), 8),
  ("java/lang/Enum", "ordinal", "I", .int 9, 9),
  ("SealedBallots$Deed", "word", "Ljava/lang/String;", .retAddr 209, 9),
  ("SealedBallots$Deed", "firstKind", "I", .int 7, 9),
  ("SealedBallots$Deed", "secondKind", "I", .int (-1), 9),
  ("SealedBallots$Deed", "thirdKind", "I", .int (-1), 9),
  ("java/lang/Enum", "ordinal", "I", .int 10, 10),
  ("SealedBallots$Deed", "word", "Ljava/lang/String;", .retAddr 210, 10),
  ("SealedBallots$Deed", "firstKind", "I", .int (-1), 10),
  ("SealedBallots$Deed", "secondKind", "I", .int (-1), 10),
  ("SealedBallots$Deed", "thirdKind", "I", .int (-1), 10),
  ("java/lang/Enum", "ordinal", "I", .int 11, 11),
  ("SealedBallots$Deed", "word", "Ljava/lang/String;", .retAddr 211, 11),
  ("SealedBallots$Deed", "firstKind", "I", .int 7, 11),
  ("SealedBallots$Deed", "secondKind", "I", .int (-1), 11),
  ("SealedBallots$Deed", "thirdKind", "I", .int (-1), 11),
  ("java/lang/Enum", "ordinal", "I", .int 12, 12),
  ("SealedBallots$Deed", "word", "Ljava/lang/String;", .retAddr 212, 12),
  ("SealedBallots$Deed", "firstKind", "I", .int 7, 12),
  ("SealedBallots$Deed", "secondKind", "I", .int (-1), 12),
  ("SealedBallots$Deed", "thirdKind", "I", .int (-1), 12),
  ("java/lang/Enum", "ordinal", "I", .int 13, 13),
  ("SealedBallots$Deed", "word", "Ljava/lang/String;", .retAddr 213, 13),
  ("SealedBallots$Deed", "firstKind", "I", .int 7, 13),
  ("SealedBallots$Deed", "secondKind", "I", .int 7, 13),
  ("SealedBallots$Deed", "thirdKind", "I", .int (-1), 13),
  ("java/lang/Enum", "ordinal", "I", .int 14, 14),
  ("SealedBallots$Deed", "word", "Ljava/lang/String;", .retAddr 214, 14),
  ("SealedBallots$Deed", "firstKind", "I", .int 7, 14),
  ("SealedBallots$Deed", "secondKind", "I", .int 7, 14),
  ("SealedBallots$Deed", "thirdKind", "I", .int (-1), 14),
  ("java/lang/String", "coder", "B", .int 0, 200),
  ("java/lang/String", "value", "[B", .retAddr 300, 200),
  ("java/lang/String", "coder", "B", .int 0, 201),
  ("java/lang/String", "value", "[B", .retAddr 301, 201),
  ("java/lang/String", "coder", "B", .int 0, 202),
  ("java/lang/String", "value", "[B", .retAddr 302, 202),
  ("java/lang/String", "coder", "B", .int 0, 203),
  ("java/lang/String", "value", "[B", .retAddr 303, 203),
  ("java/lang/String", "coder", "B", .int 0, 204),
  ("java/lang/String", "value", "[B", .retAddr 304, 204),
  ("java/lang/String", "coder", "B", .int 0, 205),
  ("java/lang/String", "value", "[B", .retAddr 305, 205),
  ("java/lang/String", "coder", "B", .int 0, 206),
  ("java/lang/String", "value", "[B", .retAddr 306, 206),
  ("java/lang/String", "coder", "B", .int 0, 207),
  ("java/lang/String", "value", "[B", .retAddr 307, 207),
  ("java/lang/String", "coder", "B", .int 0, 208),
  ("java/lang/String", "value", "[B", .retAddr 308, 208),
  ("java/lang/String", "coder", "B", .int 0, 209),
  ("java/lang/String", "value", "[B", .retAddr 309, 209),
  ("java/lang/String", "coder", "B", .int 0, 210),
  ("java/lang/String", "value", "[B", .retAddr 310, 210),
  ("java/lang/String", "coder", "B", .int 0, 211),
  ("java/lang/String", "value", "[B", .retAddr 311, 211),
  ("java/lang/String", "coder", "B", .int 0, 212),
  ("java/lang/String", "value", "[B", .retAddr 312, 212),
  ("java/lang/String", "coder", "B", .int 0, 213),
  ("java/lang/String", "value", "[B", .retAddr 313, 213),
  ("java/lang/String", "coder", "B", .int 0, 214),
  ("java/lang/String", "value", "[B", .retAddr 314, 214),
  ("java/lang/String", "coder", "B", .int 0, 215),
  ("java/lang/String", "value", "[B", .retAddr 315, 215),
  ("java/lang/String", "coder", "B", .int 0, 216),
  ("java/lang/String", "value", "[B", .retAddr 316, 216),
  ("java/lang/String", "coder", "B", .int 0, 217),
  ("java/lang/String", "value", "[B", .retAddr 317, 217),
  ("java/lang/String", "coder", "B", .int 0, 218),
  ("java/lang/String", "value", "[B", .retAddr 318, 218),
  ("java/lang/String", "coder", "B", .int 0, 219),
  ("java/lang/String", "value", "[B", .retAddr 319, 219),
  ("java/lang/String", "coder", "B", .int 0, 220),
  ("java/lang/String", "value", "[B", .retAddr 320, 220)]
def zRs : List (String × Nat × String × Nat) := [("SealedBallotsLaw", 77, "office ", 215),
  ("SealedBallots", 250, "there is no such replica", 216),
  ("SealedBallots", 258, "an argument is out of its range", 217),
  ("SealedBallots$Deed", 100, "vote", 204),
  ("SealedBallots$Deed", 103, "seal", 205),
  ("SealedBallots$Deed", 106, "close", 206),
  ("SealedBallots$Deed", 109, "break", 207),
  ("SealedBallots$Deed", 112, "count", 208),
  ("SealedBallots$Deed", 115, "recount", 209),
  ("SealedBallots$Deed", 118, "give", 210),
  ("SealedBallots$Deed", 121, "down", 211),
  ("SealedBallots$Deed", 124, "up", 212),
  ("SealedBallots$Deed", 127, "cut", 213),
  ("SealedBallots$Deed", 130, "join", 214),
  ("SealedBallots$Deed", 85, "least", 200),
  ("SealedBallots$Deed", 91, "ties", 201),
  ("SealedBallots$Deed", 94, "recounts", 202),
  ("SealedBallots$Deed", 97, "call", 203),
  ("SealedBallots$Opener", 60, "office", 218),
  ("SealedBallots$Opener", 66, "replica", 219),
  ("SealedBallotsLaw", 87, "replica ", 220)]
/-- words that hold on, though they aren't among the good ones -/
def zNk (w : Cond) : Bool := match w with
  | .fieldLinkNest _ _ _ _ _ _ => true
  | .methodLinkNest _ _ _ _ => true
  | .declares _ => true
  | .castable _ _ => true
  | .privateMethod _ => true
  | _ => false
def zNw : List Cond := lw_tbl.filter zNk
theorem zInN {w : Nat} {x : Cond} (h : zAt w = some x) (g : zNk x = true) : x ∈ zNw := List.mem_filter.mpr ⟨zAt_in h, g⟩
theorem va_Nw.warmP {x : MethodName} {s U : State} (hW : s.WarmedH U.vm) (hZ : va_Nw (.privateMethod x) s) : va_Nw (.privateMethod x) U := va_tabs rfl (rfl : (s.setVm U.vm).vm = U.vm) (by rw [Cond.privateMethod_setVm hW.alike]; exact hZ)
theorem zNw_warm {w : Cond} (h : w ∈ zNw) {s U : State} (hW : s.WarmedH U.vm) (hZ : va_Nw w s) : va_Nw w U := by
  have hk := (List.mem_filter.mp h).2
  cases w <;> first | exact hZ.warmF hW | exact hZ.warmM hW | exact hZ.warmD hW | exact hZ.warmC hW | exact hZ.warmP hW | cases hk
theorem zNw_same {w : Cond} (h : w ∈ zNw) {u U : State} (hv : u.vm = U.vm) (hZ : va_Nw w u) : va_Nw w U := by
  have hk := (List.mem_filter.mp h).2
  cases w <;> first | exact absurd hk Bool.false_ne_true | exact hZ.same rfl hv
/-- exceptions that a handler for another one doesn't take -/
def zNc : List (String × String) := []
/-- a static that is only carried: null, or a thing outside -/
def zQf (ex : Nat → Nat) (A : Nat → Prop) (U : State) (H : Heap) : Prop := va_Z "jdk/internal/util/Preconditions" "SIOOBE_FORMATTER" "Ljava/util/function/BiFunction;" .null A U H ∨ va_Z "jdk/internal/util/Preconditions" "SIOOBE_FORMATTER" "Ljava/util/function/BiFunction;" (.ref (ex 399)) A U H
theorem zQf.moved {ex : Nat → Nat} {A : Nat → Prop} {u U : State} {H : Heap} (hvm : u.vm.Alike U.vm) (h : zQf ex A u H) : zQf ex A U H := h.elim (fun h => Or.inl (va_Z.moved hvm h)) (fun h => Or.inr (va_Z.moved hvm h))
theorem zQf.kept {ex : Nat → Nat} {A : Nat → Prop} {U : State} {H H1 : Heap} (h : zQf ex A U H) (hq : ∀ a : Nat, a < H.size → ¬ A a → H1[a]? = H[a]?) : zQf ex A U H1 := h.elim (fun h => Or.inl (h.kept hq)) (fun h => Or.inr (h.kept hq))
theorem zQf.narrow {ex : Nat → Nat} {A B : Nat → Prop} {U : State} {H : Heap} (h : zQf ex A U H) (hAB : ∀ q, B q → A q) : zQf ex B U H := h.elim (fun h => Or.inl (h.narrow hAB)) (fun h => Or.inr (h.narrow hAB))
/-- the law's script: some ints, 260 at most, at 'ex 998' -/
def zScr (ex : Nat → Nat) (A : Nat → Prop) (U : State) (H : Heap) : Prop := ∃ (n : Nat) (f : Nat → Int32), n ≤ 260 ∧ va_T .int (ex 998) n (fun j => .int (f j)) A U H
theorem zScr.moved {ex : Nat → Nat} {A : Nat → Prop} {u U : State} {H : Heap} (hvm : u.vm.Alike U.vm) (h : zScr ex A u H) : zScr ex A U H := by
  obtain ⟨n, f, h1, h2⟩ := h
  exact ⟨n, f, h1, va_T.moved hvm h2⟩
theorem zScr.kept {ex : Nat → Nat} {A : Nat → Prop} {U : State} {H H1 : Heap} (h : zScr ex A U H) (hq : ∀ a : Nat, a < H.size → ¬ A a → H1[a]? = H[a]?) : zScr ex A U H1 := by
  obtain ⟨n, f, h1, h2⟩ := h
  exact ⟨n, f, h1, h2.kept hq⟩
theorem zScr.narrow {ex : Nat → Nat} {A B : Nat → Prop} {U : State} {H : Heap} (h : zScr ex A U H) (hAB : ∀ q, B q → A q) : zScr ex B U H := by
  obtain ⟨n, f, h1, h2⟩ := h
  exact ⟨n, f, h1, h2.narrow hAB⟩
/-- what stands outside the worlds, untouched: statics, written rows, objects, their fields, texts, the two statics that a Throwable carries -/
def zSt (ex : Nat → Nat) (A : Nat → Prop) (U : State) (H : Heap) : Prop :=
  (∀ q ∈ zZs, va_Z q.1 q.2.1 q.2.2.1 (zTr ex ex q.2.2.2) A U H) ∧ (∀ q ∈ zTs, va_T q.1 (ex q.2.1) q.2.2.length (fun j => zTr ex ex (q.2.2.getD j .null)) A U H) ∧
  (∀ q ∈ zOs, va_O q.1 (ex q.2) A U H) ∧ (∀ q ∈ zFs, va_OF q.1 q.2.1 q.2.2.1 (zTr ex ex q.2.2.2.1) (ex q.2.2.2.2) A U H) ∧ (∀ q ∈ zRs, vk_R q.1 q.2.1 q.2.2.1 (ex q.2.2.2) U) ∧
  vx_Zq Bundle.tN "UNASSIGNED_STACK" Bundle.steD A U H ∧ vx_Zq Bundle.tN "SUPPRESSED_SENTINEL" Bundle.listD A U H ∧ (∀ w ∈ zNw, va_Nw w U) ∧ (∀ q ∈ zNc, va_Nc q.1 q.2 U) ∧ va_AO "SealedBallots$Office" U ∧ zScr ex A U H ∧ zQf ex A U H
theorem zSt.warm {ex : Nat → Nat} {A : Nat → Prop} {s U : State} {H : Heap} (hW : s.WarmedH U.vm) (h : zSt ex A s H) : zSt ex A U H := by
  obtain ⟨h1, h2, h3, h4, h5, h6, h7, h8, h9, h10, h11, h12⟩ := h
  have hv := hW.alike
  exact ⟨fun q hq => va_Z.moved hv (h1 q hq), fun q hq => va_T.moved hv (h2 q hq), fun q hq => va_O.moved hv (h3 q hq), fun q hq => va_OF.moved hv (h4 q hq), fun q hq => (h5 q hq).warm hW, h6.moved hv, h7.moved hv, fun w hw => zNw_warm hw hW (h8 w hw), fun q hq => (h9 q hq).moved hv, h10.moved hv, h11.moved hv, h12.moved hv⟩
theorem zSt.same {ex : Nat → Nat} {A : Nat → Prop} {u U : State} {H : Heap} (hv : U.vm = u.vm) (h : zSt ex A u H) : zSt ex A U H := by
  obtain ⟨h1, h2, h3, h4, h5, h6, h7, h8, h9, h10, h11, h12⟩ := h
  have hv2 : u.vm.Alike U.vm := by rw [hv]; exact Vm.Alike.refl u.vm
  exact ⟨fun q hq => va_Z.moved hv2 (h1 q hq), fun q hq => va_T.moved hv2 (h2 q hq), fun q hq => va_O.moved hv2 (h3 q hq), fun q hq => va_OF.moved hv2 (h4 q hq), fun q hq => (h5 q hq).same hv, h6.moved hv2, h7.moved hv2, fun w hw => zNw_same hw hv.symm (h8 w hw), fun q hq => (h9 q hq).moved hv2, h10.moved hv2, h11.moved hv2, h12.moved hv2⟩
theorem zSt.kept {ex : Nat → Nat} {A : Nat → Prop} {U : State} {H H1 : Heap} (h : zSt ex A U H) (hq : ∀ a : Nat, a < H.size → ¬ A a → H1[a]? = H[a]?) : zSt ex A U H1 := by
  obtain ⟨h1, h2, h3, h4, h5, h6, h7, h8, h9, h10, h11, h12⟩ := h
  exact ⟨fun q hk => (h1 q hk).kept hq, fun q hk => (h2 q hk).kept hq, fun q hk => (h3 q hk).kept hq, fun q hk => (h4 q hk).kept hq, h5, h6.kept hq, h7.kept hq, h8, h9, h10, h11.kept hq, h12.kept hq⟩
theorem zSt.narrow {ex : Nat → Nat} {A B : Nat → Prop} {U : State} {H : Heap} (h : zSt ex A U H) (hAB : ∀ q, B q → A q) : zSt ex B U H := by
  obtain ⟨h1, h2, h3, h4, h5, h6, h7, h8, h9, h10, h11, h12⟩ := h
  exact ⟨fun q hk => (h1 q hk).narrow hAB, fun q hk => (h2 q hk).narrow hAB, fun q hk => (h3 q hk).narrow hAB, fun q hk => (h4 q hk).narrow hAB, h5, h6.narrow hAB, h7.narrow hAB, h8, h9, h10, h11.narrow hAB, h12.narrow hAB⟩
/-! WHERE A WALK STANDS -/
/-- the machine at a method's body -/
def zEv (Y : zY) (p : Program) (l : Launch) (R : Room) (s : State) (m : MethodId) (args : Array Value) (meth : Method) (c : Code) (D : va_G) (cA : Nat → ClassId) (ex : Nat → Nat) (A : Nat → Prop) : Prop :=
  p.tables.exec = Jvm.exec ∧ c.code = Y.2.1 ∧ c.maxLocals = Y.2.2.1 ∧ s.vm.findClass Y.1.cls = some m.cls ∧ (∀ w ∈ zW, w.before args s = true) ∧ va_K D vwCl (zTys cA) s ∧ (∀ q, s.heap.size ≤ q → A q) ∧ zSt ex A s s.heap ∧
  l.flags = flags0 ∧ meth.locks = false ∧ meth.sig.returnType = Y.2.2.2.1 ∧ (Y.1.name = "<init>" → meth.name = "<init>") ∧ Y.2.2.2.2.1 ≤ R.frames ∧ Y.2.2.2.2.2 ≤ R.locals
/-- from a pure state on the machine comes to an end with Q -/
def zG (Y : zY) (p : Program) (l : Launch) (e : Jvm.Env) (R : Room) (s : State) (m : MethodId) (args : Array Value) (below : List Frame) (meth : Method) (c : Code) (D : va_G) (cA : Nat → ClassId) (ex : Nat → Nat) (A : Nat → Prop) (Q : State → Prop) (cells slots : Nat) (as : Nat → Nat) (S : zS) : Prop :=
  ∀ (H : Heap) (locs : List Loc) (lsR : Array Slot), va_P D vwCl (zWd cA as ex S.2.2.2.2 0 S.2.2.2.1) H → va_D A (zWd cA as ex S.2.2.2.2 0 S.2.2.2.1) → va_S A s.heap H locs → lv_has lsR Y.2.2.1 (zLv as ex 0 S.2.1) →
    W p l e R s m args below meth c H locs cells slots Q (F0 m S.1 lsR (S.2.2.1.map (zTr as ex)))
/-- the addresses of the n cells that were there are kept, and so is what is no cell's -/
def zAg (n n' : Nat) (as as' : Nat → Nat) : Prop := n ≤ n' ∧ ∀ k, k < n ∨ n' ≤ k → as' k = as k
/-- from S the machine comes to one of the states Z, and makes k cells of n places at most -/
def zT (Y : zY) (k n : Nat) (Z : zS → Prop) (S : zS) : Prop :=
  ∀ (p : Program) (l : Launch) (e : Jvm.Env) (R : Room) (s : State) (m : MethodId) (args : Array Value) (below : List Frame) (meth : Method) (c : Code) (D : va_G) (cA : Nat → ClassId) (ex : Nat → Nat) (A : Nat → Prop), zEv Y p l R s m args meth c D cA ex A →
    ∀ (Q : State → Prop) (cells slots : Nat) (as : Nat → Nat), cells + k ≤ R.cells → slots + n ≤ R.slots →
      (∀ (S' : zS) (as' : Nat → Nat), zAg S.2.2.2.1.length S'.2.2.2.1.length as as' → Z S' → zG Y p l e R s m args below meth c D cA ex A Q (cells + k) (slots + n) as' S') →
      zG Y p l e R s m args below meth c D cA ex A Q cells slots as S
theorem zT.here {Y : zY} {Z : zS → Prop} {S : zS} (h : Z S) : zT Y 0 0 Z S := fun _ _ _ _ _ _ _ _ _ _ _ _ _ _ _ _ _ _ as _ _ kk => kk S as ⟨Nat.le_refl _, fun _ _ => rfl⟩ h
theorem zT.seq {Y : zY} {k n k' n' : Nat} {Z Z' : zS → Prop} {S : zS} (h : zT Y k n Z S) (h' : ∀ S', Z S' → zT Y k' n' Z' S') : zT Y (k + k') (n + n') Z' S := by
  intro p l e R s m args below meth c D cA ex A E Q cells slots as g1 g2 kk
  refine h p l e R s m args below meth c D cA ex A E Q cells slots as (by omega) (by omega) fun S' as' ha hz => ?_
  refine h' S' hz p l e R s m args below meth c D cA ex A E Q (cells + k) (slots + n) as' (by omega) (by omega) fun S2 as2 hb hz2 => ?_
  rw [Nat.add_assoc, Nat.add_assoc]
  exact kk S2 as2 ⟨Nat.le_trans ha.1 hb.1, fun q hq => by
    rcases hq with hq | hq
    · rw [hb.2 q (Or.inl (Nat.lt_of_lt_of_le hq ha.1)), ha.2 q (Or.inl hq)]
    · rw [hb.2 q (Or.inr hq), ha.2 q (Or.inr (Nat.le_trans hb.1 hq))]⟩ hz2
/-- a step that makes nothing -/
theorem zT.step {Y : zY} {k n : Nat} {Z : zS → Prop} {S S1 : zS} (hl : S1.2.2.2.1.length = S.2.2.2.1.length)
    (h : ∀ (p : Program) (l : Launch) (e : Jvm.Env) (R : Room) (s : State) (m : MethodId) (args : Array Value) (below : List Frame) (meth : Method) (c : Code) (D : va_G) (cA : Nat → ClassId) (ex : Nat → Nat) (A : Nat → Prop), zEv Y p l R s m args meth c D cA ex A →
      ∀ (Q : State → Prop) (cells slots : Nat) (as : Nat → Nat), cells ≤ R.cells → slots ≤ R.slots → zG Y p l e R s m args below meth c D cA ex A Q cells slots as S1 → zG Y p l e R s m args below meth c D cA ex A Q cells slots as S)
    (k1 : zT Y k n Z S1) : zT Y k n Z S := by
  intro p l e R s m args below meth c D cA ex A E Q cells slots as g1 g2 kk
  refine h p l e R s m args below meth c D cA ex A E Q cells slots as (by omega) (by omega) (k1 p l e R s m args below meth c D cA ex A E Q cells slots as g1 g2 fun S' as' ha hz => kk S' as' ?_ hz)
  rw [hl] at ha
  exact ha

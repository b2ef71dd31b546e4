/-! AT THE ENTRY: what stands outside the worlds, out of what is given -/
def flatA : Jvm.Cond → List Jvm.Cond → List Jvm.Cond
  | .and a b, r => flatA a (flatA b r)
  | c, r => c :: r
theorem flatA_b {args : Array Value} {s : State} (T : Jvm.Cond) : ∀ r : List Jvm.Cond, T.before args s = true → (∀ w ∈ r, w.before args s = true) → ∀ w ∈ flatA T r, w.before args s = true := by
  induction T with
  | and a b iha ihb =>
    intro r h hr w hw
    rw [Cond.before_and, Bool.and_eq_true] at h
    exact iha _ h.1 (ihb r h.2 hr) w hw
  | _ =>
    intro r h hr w hw
    rcases List.mem_cons.mp hw with e | e
    · rw [e]
      exact h
    · exact hr w e
noncomputable def zG9 : List Jvm.Cond := flatA (Jvm.Cond.and given_1 narrow_1) []
def zDn : List String := ["SET_LEAST", "SET_TIES", "SET_RECOUNTS", "CALL", "VOTE", "PUT_SEAL", "CLOSE", "BREAK", "COUNT", "RECOUNT", "GIVE", "DOWN", "UP", "CUT", "JOIN"]
def zSo : List (String × Nat) := [("SealedBallots$Deed", 85), ("SealedBallots$Deed", 91), ("SealedBallots$Deed", 94), ("SealedBallots$Deed", 97), ("SealedBallots$Deed", 100), ("SealedBallots$Deed", 103), ("SealedBallots$Deed", 106), ("SealedBallots$Deed", 109), ("SealedBallots$Deed", 112), ("SealedBallots$Deed", 115), ("SealedBallots$Deed", 118), ("SealedBallots$Deed", 121), ("SealedBallots$Deed", 124), ("SealedBallots$Deed", 127), ("SealedBallots$Deed", 130), ("SealedBallotsLaw", 77), ("SealedBallots", 250), ("SealedBallots", 258), ("SealedBallots$Opener", 60), ("SealedBallots$Opener", 66), ("SealedBallotsLaw", 87)]
def zStr (j : Nat) : Jvm.Term := .string (zSo.getD j ("", 0)).1 (zSo.getD j ("", 0)).2
def zTm (i : Nat) : Jvm.Term :=
  if i < 15 then .static "SealedBallots$Deed" (zDn.getD i "") "LSealedBallots$Deed;"
  else if i = 100 then .static "SealedBallots" "DEEDS" "[LSealedBallots$Deed;"
  else if i = 101 then .static "SealedBallots" "FIRST_SETTINGS" "[I"
  else if i = 102 then .static "SealedBallots" "LOWEST" "[I"
  else if i = 103 then .static "SealedBallots" "HIGHEST" "[I"
  else if i = 104 then .static "SealedBallots$1" "$SwitchMap$SealedBallots$Deed" "[I"
  else if i = 105 then .static "java/lang/Integer" "DigitOnes" "[B"
  else if i = 106 then .static "java/lang/Integer" "DigitTens" "[B"
  else if i < 221 then zStr (i - 200)
  else if i < 321 then .field (zStr (i - 300)) "java/lang/String" "value" "[B"
  else if i = 399 then .static "jdk/internal/util/Preconditions" "SIOOBE_FORMATTER" "Ljava/util/function/BiFunction;"
  else .arg 0
def zVt (v : Value) : Jvm.Term := match v with
  | .int x => .int x
  | .retAddr i => zTm i
  | _ => .arg 0
def iA9 : List Nat := [5, 224, 235, 266, 247, 504, 513, 521, 533, 541, 549, 557, 566, 575, 584, 595, 603, 611, 617, 624, 432, 476, 397, 455, 465, 443, 18, 121]
def iL9 : List Nat := [6, 225, 236, 267, 248, 505, 514, 522, 534, 542, 550, 558, 567, 576, 585, 596, 604, 612, 618, 625, 433, 477, 398, 456, 466, 444, 19, 122]
def iE9 : List (List Nat) := [[7, 8, 9], [226, 227, 228, 229, 230, 231, 232, 233], [237, 238, 239, 240, 241, 242, 243, 244], [268, 269, 270, 271, 272, 273, 274, 275, 276, 277, 278, 279, 280, 281, 282], [250, 251, 252, 253, 254, 255, 256, 257, 258, 259, 260, 261, 262, 263, 264], [506, 507, 508, 509, 510], [515, 516, 517, 518], [523, 524, 525, 526, 527, 528, 529, 530], [535, 536, 537, 538], [543, 544, 545, 546], [551, 552, 553, 554], [559, 560, 561, 562, 563], [568, 569, 570, 571, 572], [577, 578, 579, 580, 581], [586, 587, 588, 589, 590, 591, 592], [597, 598, 599, 600], [605, 606, 607, 608], [613, 614], [619, 620, 621], [626, 627, 628, 629], [434, 435, 436, 437, 438, 439, 440], [478, 479, 480, 481, 482, 483, 484, 485, 486, 487, 488, 489, 490, 491, 492, 493, 494, 495, 496, 497, 498, 499, 500, 501], [399, 400, 401, 402, 403, 404, 405, 406, 407, 408, 409, 410, 411, 412, 413, 414, 415, 416, 417, 418, 419, 420, 421, 422, 423, 424, 425, 426, 427, 428, 429], [457, 458, 459, 460, 461, 462], [467, 468, 469, 470, 471, 472, 473], [445, 446, 447, 448, 449, 450, 451, 452], [20, 21, 22, 23, 24, 25, 26, 27, 28, 29, 30, 31, 32, 33, 34, 35, 36, 37, 38, 39, 40, 41, 42, 43, 44, 45, 46, 47, 48, 49, 50, 51, 52, 53, 54, 55, 56, 57, 58, 59, 60, 61, 62, 63, 64, 65, 66, 67, 68, 69, 70, 71, 72, 73, 74, 75, 76, 77, 78, 79, 80, 81, 82, 83, 84, 85, 86, 87, 88, 89, 90, 91, 92, 93, 94, 95, 96, 97, 98, 99, 100, 101, 102, 103, 104, 105, 106, 107, 108, 109, 110, 111, 112, 113, 114, 115, 116, 117, 118, 119], [123, 124, 125, 126, 127, 128, 129, 130, 131, 132, 133, 134, 135, 136, 137, 138, 139, 140, 141, 142, 143, 144, 145, 146, 147, 148, 149, 150, 151, 152, 153, 154, 155, 156, 157, 158, 159, 160, 161, 162, 163, 164, 165, 166, 167, 168, 169, 170, 171, 172, 173, 174, 175, 176, 177, 178, 179, 180, 181, 182, 183, 184, 185, 186, 187, 188, 189, 190, 191, 192, 193, 194, 195, 196, 197, 198, 199, 200, 201, 202, 203, 204, 205, 206, 207, 208, 209, 210, 211, 212, 213, 214, 215, 216, 217, 218, 219, 220, 221, 222]]
def iO9 : List Nat := [283, 289, 295, 301, 307, 313, 319, 325, 331, 337, 343, 349, 355, 361, 367, 502, 511, 519, 531, 539, 547, 555, 564, 573, 582, 593, 601, 609, 615, 622, 430, 474, 395, 453, 463, 441]
def iF9 : List Nat := [284, 285, 286, 287, 288, 290, 291, 292, 293, 294, 296, 297, 298, 299, 300, 302, 303, 304, 305, 306, 308, 309, 310, 311, 312, 314, 315, 316, 317, 318, 320, 321, 322, 323, 324, 326, 327, 328, 329, 330, 332, 333, 334, 335, 336, 338, 339, 340, 341, 342, 344, 345, 346, 347, 348, 350, 351, 352, 353, 354, 356, 357, 358, 359, 360, 362, 363, 364, 365, 366, 368, 369, 370, 371, 372, 503, 0, 512, 0, 520, 0, 532, 0, 540, 0, 548, 0, 556, 0, 565, 0, 574, 0, 583, 0, 594, 0, 602, 0, 610, 0, 616, 0, 623, 0, 431, 0, 475, 0, 396, 0, 454, 0, 464, 0, 442, 0]
def iR9 : List Nat := [0, 0, 0, 0, 0, 0, 0, 0, 0, 0, 0, 0, 0, 0, 0, 0, 0, 0, 0, 0, 0]
abbrev zT9 : Type := FieldType × Nat × List Value
def dT9 : zT9 := (.int, 0, [])
theorem g_T : ∀ k, k < 28 → zG9[iA9.getD k 0]? = some (Jvm.Cond.arrayOf (zTm (zTs.getD k dT9).2.1) (zTs.getD k dT9).1) ∧ zG9[iL9.getD k 0]? = some (Jvm.Cond.eq (.length (zTm (zTs.getD k dT9).2.1)) (.int (Int32.ofNat (zTs.getD k dT9).2.2.length))) ∧ (zTs.getD k dT9).2.2.length < 200 ∧ ∀ j, j < (zTs.getD k dT9).2.2.length → zG9[(iE9.getD k []).getD j 0]? = some (Jvm.Cond.eq (.elem (zTm (zTs.getD k dT9).2.1) (.int (Int32.ofNat j))) (zVt ((zTs.getD k dT9).2.2.getD j .null))) := by decide +kernel
theorem g_O : ∀ k, k < 36 → zG9[iO9.getD k 0]? = some (Jvm.Cond.exactly (zTm (zOs.getD k ("", 0)).2) (zOs.getD k ("", 0)).1) := by decide +kernel
abbrev dF9 : String × String × String × Value × Nat := ("", "", "", .null, 0)
abbrev dR9 : String × Nat × String × Nat := ("", 0, "", 0)
theorem g_R : ∀ k, k < 21 → zTm (zRs.getD k dR9).2.2.2 = .string (zRs.getD k dR9).1 (zRs.getD k dR9).2.1 ∨ zG9[iR9.getD k 0]? = some (Jvm.Cond.eq (zTm (zRs.getD k dR9).2.2.2) (.string (zRs.getD k dR9).1 (zRs.getD k dR9).2.1)) ∨ zG9[iR9.getD k 0]? = some (Jvm.Cond.eq (.string (zRs.getD k dR9).1 (zRs.getD k dR9).2.1) (zTm (zRs.getD k dR9).2.2.2)) := by decide +kernel
def iS9 : List Nat := [2199, 4210, 2147, 5197, 5198, 5199, 5200, 5201, 5202, 5203, 5204, 5205, 5206, 5207, 5193, 5194, 5195, 5196, 3222, 4005, 3117]
theorem g_S : ∀ k, k < 21 → zAt (iS9.getD k 0) = some (Jvm.Cond.stringRef (zRs.getD k dR9).1 (zRs.getD k dR9).2.1 (zRs.getD k dR9).2.2.1) := by decide +kernel

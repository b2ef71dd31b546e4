/-! AT THE ENTRY: what stands outside the worlds, out of what is given -/
def flatA : Jvm.Cond → List Jvm.Cond → List Jvm.Cond
  | .and a b, r => flatA a (flatA b r)
  | c, r => c :: r
theorem flatA_b {args : Array Value} {s : State} (T : Jvm.Cond) : ∀ r : List Jvm.Cond, T.before args s = true → (∀ w ∈ r, w.before args s = true) → ∀ w ∈ flatA T r, w.before args s = true := by
  induction T with
  | and a b iha ihb =>
    intro r h hr w hw
    rw [Cond.before_and, Bool.and_eq_true] at h
    exact iha _ h.1 (ihb r h.2 hr) w hw
  | _ =>
    intro r h hr w hw
    rcases List.mem_cons.mp hw with e | e
    · rw [e]
      exact h
    · exact hr w e
noncomputable def zG9 : List Jvm.Cond := flatA (Jvm.Cond.and given_1 narrow_1) []
def zDn : List String := ["SET_LEAST", "SET_TIES", "SET_RECOUNTS", "CALL", "VOTE", "PUT_SEAL", "CLOSE", "BREAK", "COUNT", "RECOUNT", "GIVE", "DOWN", "UP", "CUT", "JOIN"]
def zSo : List (String × Nat) := [("SealedBallots$Deed", 85), ("SealedBallots$Deed", 91), ("SealedBallots$Deed", 94), ("SealedBallots$Deed", 97), ("SealedBallots$Deed", 100), ("SealedBallots$Deed", 103), ("SealedBallots$Deed", 106), ("SealedBallots$Deed", 109), ("SealedBallots$Deed", 112), ("SealedBallots$Deed", 115), ("SealedBallots$Deed", 118), ("SealedBallots$Deed", 121), ("SealedBallots$Deed", 124), ("SealedBallots$Deed", 127), ("SealedBallots$Deed", 130), ("SealedBallots", 138), ("SealedBallots", 250), ("SealedBallots", 258), ("SealedBallots$Opener", 60), ("SealedBallots$Opener", 66)]
def zStr (j : Nat) : Jvm.Term := .string (zSo.getD j ("", 0)).1 (zSo.getD j ("", 0)).2
def zTm (i : Nat) : Jvm.Term :=
  if i < 15 then .static "SealedBallots$Deed" (zDn.getD i "") "LSealedBallots$Deed;"
  else if i = 100 then .static "SealedBallots" "DEEDS" "[LSealedBallots$Deed;"
  else if i = 101 then .static "SealedBallots" "FIRST_SETTINGS" "[I"
  else if i = 102 then .static "SealedBallots" "LOWEST" "[I"
  else if i = 103 then .static "SealedBallots" "HIGHEST" "[I"
  else if i = 104 then .static "SealedBallots$1" "$SwitchMap$SealedBallots$Deed" "[I"
  else if i < 220 then zStr (i - 200)
  else if i < 320 then .field (zStr (i - 300)) "java/lang/String" "value" "[B"
  else if i = 399 then .static "jdk/internal/util/Preconditions" "SIOOBE_FORMATTER" "Ljava/util/function/BiFunction;"
  else .arg 0
def zVt (v : Value) : Jvm.Term := match v with
  | .int x => .int x
  | .retAddr i => zTm i
  | _ => .arg 0
def iA9 : List Nat := [5, 16, 27, 58, 39, 571, 581, 590, 603, 612, 621, 630, 640, 650, 660, 672, 681, 690, 697, 705, 394, 331, 359, 310, 320]
def iL9 : List Nat := [6, 17, 28, 59, 40, 572, 582, 591, 604, 613, 622, 631, 641, 651, 661, 673, 682, 691, 698, 706, 395, 332, 360, 311, 321]
def iE9 : List (List Nat) := [[7, 8, 9], [18, 19, 20, 21, 22, 23, 24, 25], [29, 30, 31, 32, 33, 34, 35, 36], [60, 61, 62, 63, 64, 65, 66, 67, 68, 69, 70, 71, 72, 73, 74], [42, 43, 44, 45, 46, 47, 48, 49, 50, 51, 52, 53, 54, 55, 56], [573, 574, 575, 576, 577], [583, 584, 585, 586], [592, 593, 594, 595, 596, 597, 598, 599], [605, 606, 607, 608], [614, 615, 616, 617], [623, 624, 625, 626], [632, 633, 634, 635, 636], [642, 643, 644, 645, 646], [652, 653, 654, 655, 656], [662, 663, 664, 665, 666, 667, 668], [674, 675, 676, 677], [683, 684, 685, 686], [692, 693], [699, 700, 701], [707, 708, 709, 710], [396, 397, 398, 399, 400, 401, 402, 403, 404, 405, 406, 407, 408, 409, 410, 411, 412, 413, 414, 415, 416, 417], [333, 334, 335, 336, 337, 338, 339, 340, 341, 342, 343, 344, 345, 346, 347, 348, 349, 350, 351, 352, 353, 354, 355, 356], [361, 362, 363, 364, 365, 366, 367, 368, 369, 370, 371, 372, 373, 374, 375, 376, 377, 378, 379, 380, 381, 382, 383, 384, 385, 386, 387, 388, 389, 390, 391], [312, 313, 314, 315, 316, 317], [322, 323, 324, 325, 326, 327, 328]]
def iO9 : List Nat := [77, 83, 90, 98, 107, 117, 128, 140, 153, 167, 182, 198, 215, 233, 252, 569, 579, 588, 601, 610, 619, 628, 638, 648, 658, 670, 679, 688, 695, 703, 392, 329, 357, 308, 318]
def iF9 : List Nat := [78, 79, 80, 81, 82, 84, 85, 86, 87, 88, 91, 92, 93, 94, 95, 99, 100, 101, 102, 103, 108, 109, 110, 111, 112, 118, 119, 120, 121, 122, 129, 130, 131, 132, 133, 141, 142, 143, 144, 145, 154, 155, 156, 157, 158, 168, 169, 170, 171, 172, 183, 184, 185, 186, 187, 199, 200, 201, 202, 203, 216, 217, 218, 219, 220, 234, 235, 236, 237, 238, 253, 254, 255, 256, 257, 570, 0, 580, 0, 589, 0, 602, 0, 611, 0, 620, 0, 629, 0, 639, 0, 649, 0, 659, 0, 671, 0, 680, 0, 689, 0, 696, 0, 704, 0, 393, 0, 330, 0, 358, 0, 309, 0, 319, 0]
def iR9 : List Nat := [0, 0, 0, 0, 0, 0, 0, 0, 0, 0, 0, 0, 0, 0, 0, 0, 0, 0, 0, 0, 578, 587, 600, 609, 618, 627, 637, 647, 657, 669, 678, 687, 694, 702, 711, 428, 440]
abbrev zT9 : Type := FieldType × Nat × List Value
def dT9 : zT9 := (.int, 0, [])
theorem g_T : ∀ k, k < 25 → zG9[iA9.getD k 0]? = some (Jvm.Cond.arrayOf (zTm (zTs.getD k dT9).2.1) (zTs.getD k dT9).1) ∧ zG9[iL9.getD k 0]? = some (Jvm.Cond.eq (.length (zTm (zTs.getD k dT9).2.1)) (.int (Int32.ofNat (zTs.getD k dT9).2.2.length))) ∧ (zTs.getD k dT9).2.2.length < 100 ∧ ∀ j, j < (zTs.getD k dT9).2.2.length → zG9[(iE9.getD k []).getD j 0]? = some (Jvm.Cond.eq (.elem (zTm (zTs.getD k dT9).2.1) (.int (Int32.ofNat j))) (zVt ((zTs.getD k dT9).2.2.getD j .null))) := by decide +kernel
theorem g_O : ∀ k, k < 35 → zG9[iO9.getD k 0]? = some (Jvm.Cond.exactly (zTm (zOs.getD k ("", 0)).2) (zOs.getD k ("", 0)).1) := by decide +kernel
abbrev dF9 : String × String × String × Value × Nat := ("", "", "", .null, 0)
abbrev dR9 : String × Nat × String × Nat := ("", 0, "", 0)
theorem g_R : ∀ k, k < 37 → zTm (zRs.getD k dR9).2.2.2 = .string (zRs.getD k dR9).1 (zRs.getD k dR9).2.1 ∨ zG9[iR9.getD k 0]? = some (Jvm.Cond.eq (zTm (zRs.getD k dR9).2.2.2) (.string (zRs.getD k dR9).1 (zRs.getD k dR9).2.1)) ∨ zG9[iR9.getD k 0]? = some (Jvm.Cond.eq (.string (zRs.getD k dR9).1 (zRs.getD k dR9).2.1) (zTm (zRs.getD k dR9).2.2.2)) := by decide +kernel
def iS9 : List Nat := [4191, 4052, 4099, 7166, 7167, 7168, 7169, 7170, 7171, 7172, 7173, 7174, 7175, 7176, 7162, 7163, 7164, 7165, 2126, 2180, 6209, 6210, 6211, 6212, 6213, 6214, 6215, 6216, 6217, 6218, 6219, 6220, 6221, 6222, 6223, 6173, 6184]
theorem g_S : ∀ k, k < 37 → zAt (iS9.getD k 0) = some (Jvm.Cond.stringRef (zRs.getD k dR9).1 (zRs.getD k dR9).2.1 (zRs.getD k dR9).2.2.1) := by decide +kernel

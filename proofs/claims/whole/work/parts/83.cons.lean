/-! THE CONSTANTS AT THE START, out of the statement's premises and tables -/
noncomputable def nwL : List Cond := flatC (Jvm.Cond.and given_1 narrow_1)
/-- words at their places in a list -/
def nwz (l : List Cond) : List Cond → List Nat → Bool
  | [], _ => true
  | _ :: _, [] => false
  | w :: ws, i :: ix => (match xnth l i with
    | some w' => decide (w' = w)
    | none => false) && nwz l ws ix
theorem nwz_P {l : List Cond} : ∀ {ws : List Cond} {ix : List Nat}, nwz l ws ix = true → ∀ w ∈ ws, w ∈ l
  | [], _, _, w, hw => absurd hw List.not_mem_nil
  | _ :: _, [], h, _, _ => by cases h
  | w0 :: ws, i :: ix, h, w, hw => by
    have h : ((match xnth l i with
      | some w' => decide (w' = w0)
      | none => false) && nwz l ws ix) = true := h
    rw [Bool.and_eq_true] at h
    rcases List.mem_cons.mp hw with e | e
    · have h1 := h.1
      cases hq : xnth l i with
      | none => rw [hq] at h1; cases h1
      | some w' =>
        rw [hq] at h1
        have h1 : decide (w' = w0) = true := h1
        rw [e, ← of_decide_eq_true h1]
        exact xnth_mem hq
    · exact nwz_P h.2 w e
/-- words at their places in the tables -/
def ywz : List Cond → List (Nat × Nat) → Bool
  | [], _ => true
  | _ :: _, [] => false
  | w :: ws, i :: ix => (match ywd i.1 i.2 with
    | some w' => decide (w' = w)
    | none => false) && ywz ws ix
theorem ywz_P : ∀ {ws : List Cond} {ix : List (Nat × Nat)}, ywz ws ix = true → ∀ w ∈ ws, w ∈ ySel ++ lw_tbl
  | [], _, _, w, hw => absurd hw List.not_mem_nil
  | _ :: _, [], h, _, _ => by cases h
  | w0 :: ws, i :: ix, h, w, hw => by
    have h : ((match ywd i.1 i.2 with
      | some w' => decide (w' = w0)
      | none => false) && ywz ws ix) = true := h
    rw [Bool.and_eq_true] at h
    rcases List.mem_cons.mp hw with e | e
    · have h1 := h.1
      cases hq : ywd i.1 i.2 with
      | none => rw [hq] at h1; cases h1
      | some w' =>
        rw [hq] at h1
        have h1 : decide (w' = w0) = true := h1
        rw [e, ← of_decide_eq_true h1]
        exact ywd_in hq
    · exact ywz_P h.2 w e
theorem yAll_hts {args : Array Value} {s : State} (h : ∀ w ∈ lw_tbl, w.before args s = true) : ∀ w ∈ ySel ++ lw_tbl, w.before args s = true := by
  intro w hw
  rcases List.mem_append.mp hw with hw | hw
  · obtain ⟨q, hq, rfl⟩ := List.mem_map.mp hw
    obtain ⟨h1, h2⟩ := ySel_in q hq
    have hne : (yPm q).cls ≠ "java/lang/invoke/MethodHandle" ∧ (yPm q).cls ≠ "java/lang/invoke/VarHandle" := by
      show ("java/lang/AbstractStringBuilder" : String) ≠ _ ∧ ("java/lang/AbstractStringBuilder" : String) ≠ _
      decide
    exact y_selP hne (h _ (List.mem_append_right _ ySel_0)) rfl (h _ (List.mem_append_right _ h1)) (h _ (List.mem_append_right _ h2))
  · exact h w hw
def kNm : List String := ["LET", "PRICE", "LOSS", "RETIRE", "FEAST", "MIX", "HEAT", "HOUSE", "WORKS", "POOL", "TO", "BY", "WITH", "FOR", "IF", "THEN", "ELSE", "MIN", "MAX", "OR", "AND", "NOT", "WASHES", "AGE", "LIFE", "WORTH", "GRAMS", "SORT", "CLASS", "DAYS", "MISSES", "DAY", "NUMBER", "NAME", "SUM", "PROD", "MINUS", "COMPARE"]
def kStr : List (String × Nat) := [("LinenPool$Kind", 151), ("LinenPool$Kind", 157), ("LinenPool$Kind", 160), ("LinenPool$Kind", 163), ("LinenPool$Kind", 166), ("LinenPool$Kind", 169), ("LinenPool$Kind", 172), ("LinenPool$Kind", 175), ("LinenPool$Kind", 178), ("LinenPool$Kind", 181), ("LinenPool$Kind", 184), ("LinenPool$Kind", 187), ("LinenPool$Kind", 190), ("LinenPool$Kind", 193), ("LinenPool$Kind", 196), ("LinenPool$Kind", 199), ("LinenPool$Kind", 202), ("LinenPool$Kind", 205), ("LinenPool$Kind", 208), ("LinenPool$Kind", 211), ("LinenPool$Kind", 214), ("LinenPool$Kind", 217), ("LinenPool$Kind", 220), ("LinenPool$Kind", 223), ("LinenPool$Kind", 226), ("LinenPool$Kind", 229), ("LinenPool$Kind", 232), ("LinenPool$Kind", 235), ("LinenPool$Kind", 238), ("LinenPool$Kind", 241), ("LinenPool$Kind", 244), ("LinenPool$Kind", 247), ("LinenPool$Kind", 250), ("LinenPool$Reader", 116)]
def tmSt (i : Nat) : Term := .string (kStr.getD i ("", 0)).1 (kStr.getD i ("", 0)).2
/-- where a constant is found -/
def tmA (a : Nat) : Term := cond (Nat.ble a 1) (.arg 0) (cond (Nat.ble a 39) (.static "LinenPool$Kind" (kNm.getD (a - 2) "") "LLinenPool$Kind;") (cond (Nat.beq a 40) (.static "LinenPool" "KINDS" "[LLinenPool$Kind;") (cond (Nat.beq a 41) (.static "LinenPool$1" "$SwitchMap$LinenPool$Kind" "[I") (cond (Nat.beq a 140) (.static "java/lang/Integer" "DigitOnes" "[B") (cond (Nat.beq a 141) (.static "java/lang/Integer" "DigitTens" "[B") (cond (Nat.beq (a % 2) 0) (tmSt ((a - 44) / 2)) (.field (tmSt ((a - 45) / 2)) "java/lang/String" "value" "[B")))))))
noncomputable def kW (i : Nat) : Int := (xct xE0 (2 + i) 1).getD 0
noncomputable def kL (i : Nat) : Int := (xct xE0 (2 + i) 2).getD 0
noncomputable def zK (i : Nat) : List Cond := [.exactly (tmA (2 + i)) "LinenPool$Kind", .eq (.field (tmA (2 + i)) "java/lang/Enum" "ordinal" "I") (.int (Int32.ofInt (i : Int))), .eq (.field (tmA (2 + i)) "LinenPool$Kind" "word" "Ljava/lang/String;") (tmA (kW i).toNat), .eq (.field (tmA (2 + i)) "LinenPool$Kind" "slot" "I") (.int (Int32.ofInt (kL i)))]
def zS (i : Nat) : List Cond := [.exactly (tmA (44 + 2 * i)) "java/lang/String", .eq (.field (tmA (44 + 2 * i)) "java/lang/String" "coder" "B") (.int (Int32.ofInt 0))]
def zAr : List Nat := [40, 41, 140, 141] ++ (List.range 34).map fun i => 45 + 2 * i
def zE (t : Nat) (v : Int) : Term := cond (Nat.beq t 5) (tmA v.toNat) (.int (Int32.ofInt (xna t v)))
noncomputable def zA (a t n : Nat) : List Cond := .arrayOf (tmA a) (yTy.getD t .int) :: .eq (.length (tmA a)) (.int (Int32.ofNat n)) :: (List.range n).map fun j => .eq (.elem (tmA a) (.int (Int32.ofNat j))) (zE t ((xct xE0 a j).getD 0))
noncomputable def zAq (a : Nat) : List Cond := match xnth xFTc a with
  | some q => zA a (q.1 - 100) q.2
  | none => []
def zX : List Cond := [.eq (.static "java/lang/String" "COMPACT_STRINGS" "Z") (.int 1), .isRef (.static "jdk/internal/util/Preconditions" "SIOOBE_FORMATTER" "Ljava/util/function/BiFunction;"), .eq (.string "LinenPool$Node" 15) (.string "LinenPool$Kind" 250)]
set_option maxRecDepth 100000 in
theorem zK_ok : nwz nwL ((List.range 38).flatMap zK) [97, 98, 99, 100, 439, 440, 441, 442, 443, 444, 445, 446, 447, 448, 449, 450, 129, 130, 131, 132, 125, 126, 127, 128, 4, 5, 6, 7, 101, 102, 103, 104, 105, 106, 107, 108, 109, 110, 111, 112, 113, 114, 115, 116, 133, 134, 135, 136, 117, 118, 119, 120, 121, 122, 123, 124, 137, 138, 139, 140, 185, 186, 187, 188, 189, 190, 191, 192, 153, 154, 155, 156, 157, 158, 159, 160, 181, 182, 183, 184, 177, 178, 179, 180, 141, 142, 143, 144, 419, 420, 421, 422, 423, 424, 425, 426, 403, 404, 405, 406, 407, 408, 409, 410, 411, 412, 413, 414, 415, 416, 417, 418, 427, 428, 429, 430, 431, 432, 433, 434, 435, 436, 437, 438, 399, 400, 401, 402, 145, 146, 147, 148, 161, 162, 163, 164, 169, 170, 171, 172, 165, 166, 167, 168, 149, 150, 151, 152, 173, 174, 175, 176] = true := by decide +kernel
set_option maxRecDepth 100000 in
theorem zS_ok : nwz nwL ((List.range 34).flatMap zS) [509, 510, 730, 731, 739, 740, 747, 748, 570, 571, 563, 564, 501, 502, 516, 517, 525, 526, 534, 535, 542, 543, 579, 580, 548, 549, 556, 557, 585, 586, 630, 631, 638, 639, 603, 604, 610, 611, 624, 625, 617, 618, 591, 592, 687, 688, 697, 698, 653, 654, 661, 662, 670, 671, 679, 680, 704, 705, 712, 713, 720, 721, 646, 647, 598, 599, 479, 480] = true := by decide +kernel
set_option maxRecDepth 100000 in
theorem zA_ok : nwz nwL (zAr.flatMap zAq) [15, 16, 18, 19, 20, 21, 22, 23, 24, 25, 26, 27, 28, 29, 30, 31, 32, 33, 34, 35, 36, 37, 38, 39, 40, 41, 42, 43, 44, 45, 46, 47, 48, 49, 50, 51, 52, 53, 54, 55, 57, 58, 59, 60, 61, 62, 63, 64, 65, 66, 67, 68, 69, 70, 71, 72, 73, 74, 75, 76, 77, 78, 79, 80, 81, 82, 83, 84, 85, 86, 87, 88, 89, 90, 91, 92, 93, 94, 95, 96, 194, 195, 196, 197, 198, 199, 200, 201, 202, 203, 204, 205, 206, 207, 208, 209, 210, 211, 212, 213, 214, 215, 216, 217, 218, 219, 220, 221, 222, 223, 224, 225, 226, 227, 228, 229, 230, 231, 232, 233, 234, 235, 236, 237, 238, 239, 240, 241, 242, 243, 244, 245, 246, 247, 248, 249, 250, 251, 252, 253, 254, 255, 256, 257, 258, 259, 260, 261, 262, 263, 264, 265, 266, 267, 268, 269, 270, 271, 272, 273, 274, 275, 276, 277, 278, 279, 280, 281, 282, 283, 284, 285, 286, 287, 288, 289, 290, 291, 292, 293, 294, 295, 297, 298, 299, 300, 301, 302, 303, 304, 305, 306, 307, 308, 309, 310, 311, 312, 313, 314, 315, 316, 317, 318, 319, 320, 321, 322, 323, 324, 325, 326, 327, 328, 329, 330, 331, 332, 333, 334, 335, 336, 337, 338, 339, 340, 341, 342, 343, 344, 345, 346, 347, 348, 349, 350, 351, 352, 353, 354, 355, 356, 357, 358, 359, 360, 361, 362, 363, 364, 365, 366, 367, 368, 369, 370, 371, 372, 373, 374, 375, 376, 377, 378, 379, 380, 381, 382, 383, 384, 385, 386, 387, 388, 389, 390, 391, 392, 393, 394, 395, 396, 397, 398, 511, 512, 513, 514, 515, 732, 733, 734, 735, 736, 737, 738, 741, 742, 743, 744, 745, 746, 749, 750, 751, 752, 753, 754, 755, 756, 572, 573, 574, 575, 576, 577, 578, 565, 566, 567, 568, 569, 503, 504, 505, 506, 507, 508, 518, 519, 520, 521, 522, 523, 524, 527, 528, 529, 530, 531, 532, 533, 536, 537, 538, 539, 540, 541, 544, 545, 546, 547, 581, 582, 583, 584, 550, 551, 552, 553, 554, 555, 558, 559, 560, 561, 562, 587, 588, 589, 590, 632, 633, 634, 635, 636, 637, 640, 641, 642, 643, 644, 645, 605, 606, 607, 608, 609, 612, 613, 614, 615, 616, 626, 627, 628, 629, 619, 620, 621, 622, 623, 593, 594, 595, 596, 597, 689, 690, 691, 692, 693, 694, 695, 696, 699, 700, 701, 702, 703, 655, 656, 657, 658, 659, 660, 663, 664, 665, 666, 667, 668, 669, 672, 673, 674, 675, 676, 677, 678, 681, 682, 683, 684, 685, 686, 706, 707, 708, 709, 710, 711, 714, 715, 716, 717, 718, 719, 722, 723, 724, 725, 726, 727, 728, 729, 648, 649, 650, 651, 652, 600, 601, 481, 482, 483, 484, 485, 486, 487, 488, 489, 490, 491, 492, 493, 494, 495, 496] = true := by decide +kernel
set_option maxRecDepth 100000 in
theorem zX_ok : nwz nwL zX [8, 9, 602] = true := by decide +kernel
/-- what the rows of constants are -/
noncomputable def zrow (a t n : Nat) : Bool := (List.range n).all fun j => (match xct xE0 a j with
  | some v => cond (Nat.beq t 5) (decide (0 ≤ v) && (Nat.ble 2 v.toNat && Nat.ble v.toNat 39)) (decide (-2147483648 ≤ v) && decide (v < 2147483648))
  | none => false)
noncomputable def zcl (a : Nat) : Bool := match xnth xFTc a with
  | some q => cond (Nat.blt q.1 100)
      ((Nat.beq q.1 0 && Nat.beq q.2 4 && Nat.ble 44 a && Nat.ble a 110 && Nat.beq (a % 2) 0) || (Nat.beq q.1 50 && Nat.beq q.2 3 && Nat.ble 2 a && Nat.ble a 39))
      (Nat.beq q.1 999 || ((Nat.beq q.1 100 || Nat.beq q.1 102 || Nat.beq q.1 105) && Nat.blt q.2 2147483648 && decide (a ∈ zAr) && zrow a (q.1 - 100) q.2))
  | none => true
set_option maxRecDepth 100000 in
theorem zcl_ok : ∀ a, a < 200 → zcl a = true := by decide +kernel
set_option maxRecDepth 100000 in
theorem zs_ok : ∀ i, i < 34 → xnth xCTc (44 + 2 * i) = some [some ((45 + 2 * i : Nat) : Int), some 0, none, none] ∧ tmA (45 + 2 * i) = .field (tmA (44 + 2 * i)) "java/lang/String" "value" "[B" ∧ (45 + 2 * i ∈ zAr ∧ (xnth xFTc (45 + 2 * i)).map Prod.fst = some 102) := by decide +kernel
set_option maxRecDepth 100000 in
theorem zk_ok : ∀ i, i < 38 → xnth xCTc (2 + i) = some [some (i : Int), some (kW i), some (kL i)] ∧ (0 ≤ kW i ∧ 44 ≤ (kW i).toNat ∧ (kW i).toNat ≤ 110 ∧ (kW i).toNat % 2 = 0) ∧ (-2147483648 ≤ kL i ∧ kL i < 2147483648) := by decide +kernel
set_option maxRecDepth 100000 in
theorem zt_ok : ∀ q ∈ ySt, (q.2.2.2.1 = 2 ∧ 0 < q.2.2.2.2 ∧ tmA q.2.2.2.2.toNat = .static q.1 q.2.1 q.2.2.1 ∧ q.2.2.2.2.toNat ∈ (List.range 38).map (fun i => 2 + i) ++ [40, 41, 140, 141]) ∨ q = ("java/lang/String", "COMPACT_STRINGS", "Z", ((0, 1) : xAV)) ∨ q = ("jdk/internal/util/Preconditions", "SIOOBE_FORMATTER", "Ljava/util/function/BiFunction;", ((3, 0) : xAV)) := by decide +kernel
def stW : List Cond := ySt.flatMap fun q => [.laysStatic q.1 q.2.1 q.2.2.1, .initialized q.1]
def nmW : List Cond := yNm.map fun q => .methodLinkNest q.1 q.2.1 q.2.2.1 q.2.2.2
def nfW : List Cond := yNf.map fun q => .fieldLinkNest q.1 q.2.1 (ySq q.2.2.2).1 (ySq q.2.2.2).2.1 (ySq q.2.2.2).2.2.1 q.2.2.1
def nxW : List Cond := [.arrayOver (.object "LinenPool$Kind"), .arrayOver (.object "LinenPool$Terms"), .arrayOver (.array .int), .stringRef "LinenPool$Node" 15 "", .stringRef "LinenPool$Reader" 116 "=;+-*/%(),[]<>", .arrayClass .int, .arrayClass .long, .arrayClass .byte, .arrayClass .char, .arrayClass .boolean, .castable "[B" "java/lang/Cloneable"]
set_option maxRecDepth 100000 in
theorem stW_ok : ywz stW [(4, 99), (0, 13), (6, 215), (0, 13), (7, 12), (0, 13), (7, 42), (0, 13), (5, 54), (0, 13), (5, 51), (0, 13), (2, 201), (0, 13), (5, 27), (0, 13), (5, 29), (0, 13), (5, 31), (0, 13), (5, 33), (0, 13), (5, 56), (0, 13), (5, 43), (0, 13), (5, 45), (0, 13), (5, 66), (0, 13), (5, 154), (0, 13), (5, 156), (0, 13), (5, 123), (0, 13), (5, 125), (0, 13), (5, 152), (0, 13), (5, 150), (0, 13), (5, 88), (0, 13), (6, 129), (0, 13), (6, 132), (0, 13), (6, 121), (0, 13), (6, 123), (0, 13), (6, 125), (0, 13), (6, 127), (0, 13), (6, 138), (0, 13), (6, 140), (0, 13), (6, 143), (0, 13), (6, 115), (0, 13), (5, 115), (0, 13), (5, 138), (0, 13), (5, 146), (0, 13), (5, 144), (0, 13), (5, 121), (0, 13), (5, 148), (0, 13), (3, 224), (0, 1), (4, 79), (0, 21), (5, 239), (0, 27), (6, 1), (0, 27), (3, 150), (0, 15), (3, 189), (0, 18)] = true := by decide +kernel
set_option maxRecDepth 100000 in
theorem nmW_ok : ywz nmW [(0, 39), (0, 82), (0, 122), (1, 148), (1, 182), (2, 58), (2, 75), (2, 84), (2, 155), (3, 23), (5, 161), (6, 97), (6, 230), (7, 167)] = true := by decide +kernel
set_option maxRecDepth 100000 in
theorem nfW_ok : ywz nfW [(3, 223)] = true := by decide +kernel
set_option maxRecDepth 100000 in
theorem nxW_ok : ywz nxW [(1, 187), (1, 31), (1, 33), (4, 32), (3, 136), (0, 79), (1, 71), (4, 77), (1, 236), (9, 122), (4, 162)] = true := by decide +kernel
set_option maxRecDepth 100000 in
theorem inW_ok : ywz (vwCl.map fun q => .instantiable q.1 q.2.2) [(4, 206), (4, 101), (0, 121), (0, 195), (0, 81), (1, 25), (1, 73), (4, 27), (1, 181), (0, 38), (1, 147), (6, 51), (0, 30), (7, 215)] = true := by decide +kernel
set_option maxRecDepth 100000 in
theorem lyW_ok : yin (vwCl.flatMap fun q => u_ws q.1 q.2.1 q.2.2) [(5, 9), (5, 11), (5, 13), (5, 15), (4, 121), (4, 123), (4, 125), (4, 127), (0, 161), (0, 163), (0, 165), (0, 167), (0, 169), (0, 171), (0, 173), (0, 175), (0, 177), (0, 179), (0, 181), (0, 183), (0, 185), (0, 187), (0, 189), (0, 191), (0, 227), (0, 229), (0, 231), (0, 233), (0, 235), (0, 237), (0, 239), (1, 1), (1, 3), (1, 5), (1, 7), (1, 9), (1, 11), (1, 13), (1, 15), (1, 17), (1, 19), (1, 21), (0, 101), (0, 103), (0, 105), (0, 107), (0, 109), (0, 111), (0, 113), (0, 115), (0, 117), (1, 48), (1, 50), (1, 52), (1, 54), (1, 56), (1, 58), (1, 60), (1, 62), (1, 64), (1, 66), (1, 68), (1, 105), (1, 107), (1, 109), (1, 111), (1, 113), (1, 115), (1, 117), (1, 119), (1, 121), (1, 123), (1, 125), (1, 127), (1, 129), (1, 131), (1, 133), (1, 135), (1, 137), (1, 139), (1, 141), (1, 143), (4, 60), (4, 62), (4, 64), (4, 66), (4, 68), (4, 70), (4, 72), (4, 74), (1, 205), (1, 207), (1, 209), (1, 211), (1, 213), (1, 215), (1, 217), (1, 219), (1, 221), (1, 223), (1, 225), (1, 227), (1, 229), (1, 231), (1, 233), (0, 60), (0, 62), (0, 64), (0, 66), (0, 68), (0, 70), (0, 72), (0, 74), (0, 76), (1, 165), (1, 167), (1, 169), (1, 171), (1, 173), (1, 175), (1, 177), (6, 64), (6, 66), (6, 68), (6, 70), (6, 72), (2, 8), (2, 10), (2, 12), (2, 14), (2, 16), (2, 18), (2, 20), (2, 22), (2, 24), (2, 26), (2, 28), (8, 107), (8, 109), (8, 111), (8, 113), (8, 115), (8, 117), (8, 119), (8, 121), (8, 123), (8, 125), (8, 127), (8, 129), (8, 131), (8, 133), (8, 135), (8, 137), (8, 139), (8, 141), (8, 143), (8, 145), (8, 147), (8, 149), (8, 151), (8, 153), (8, 155), (8, 157), (8, 159), (8, 161), (8, 163), (8, 165), (8, 167), (8, 169), (8, 171), (8, 173), (8, 175), (8, 177), (8, 179), (8, 181), (8, 183), (8, 185), (8, 187), (8, 189), (8, 191), (8, 193), (8, 195), (8, 197), (8, 199), (8, 201), (8, 203), (8, 205), (8, 207), (8, 209), (8, 211), (8, 213), (8, 215), (8, 217), (8, 219), (8, 221), (8, 223), (8, 225), (8, 227), (8, 229), (8, 231), (8, 233), (8, 235), (8, 237), (8, 239), (9, 1), (9, 3), (9, 5), (9, 7), (9, 9), (9, 11), (9, 13), (9, 15), (9, 17), (9, 19), (9, 21), (9, 23), (9, 25), (9, 27), (9, 29), (9, 31), (9, 33), (9, 35), (9, 37), (9, 39), (9, 41), (9, 43), (9, 45), (9, 47), (9, 49), (9, 51), (9, 53), (9, 55), (9, 57), (9, 59), (9, 61), (9, 63), (9, 65), (9, 67), (9, 69), (9, 71), (9, 73), (9, 75), (9, 77), (9, 79), (9, 81), (9, 83), (9, 85), (9, 87), (9, 89), (9, 91), (9, 93), (9, 95), (9, 97), (9, 99), (9, 101), (9, 103), (9, 105), (9, 107), (9, 109), (9, 111), (9, 113), (9, 115), (9, 117), (9, 119)] = true := by decide +kernel

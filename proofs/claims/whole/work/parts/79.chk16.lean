/-! entries checked -/
set_option maxRecDepth 100000 in
def yv384 : List ((Nat × Nat × Nat) × List (Nat × Nat)) := [((0, 18, 0), [(4, 205), (4, 206), (0, 15)]), ((0, 0, 0), []), ((0, 0, 0), []), ((2, 137, 0), [(4, 207), (4, 208), (0, 15)]), ((0, 0, 0), [])]
set_option maxRecDepth 100000 in
theorem yt384 : (ychk xFk yM 4 226 384 (yM 384) 0 itiJB_toString yv384 && itiJB_toString.all (fun r => !Nat.beq r.1 32 || Nat.blt r.2.1 423)) = true := by decide +kernel
set_option maxRecDepth 100000 in
def yv385 : List ((Nat × Nat × Nat) × List (Nat × Nat)) := [((0, 0, 0), []), ((2, 0, 0), []), ((0, 0, 0), []), ((0, 0, 0), []), ((0, 0, 0), []), ((0, 0, 0), []), ((0, 0, 0), [])]
set_option maxRecDepth 100000 in
theorem yt385 : (ychk xFk yM 4 226 385 (yM 385) 0 itiJL_canEncode1 yv385 && itiJL_canEncode1.all (fun r => !Nat.beq r.1 32 || Nat.blt r.2.1 423)) = true := by decide +kernel
set_option maxRecDepth 100000 in
def yv386 : List ((Nat × Nat × Nat) × List (Nat × Nat)) := [((0, 0, 0), []), ((0, 0, 0), []), ((0, 0, 0), []), ((2, 0, 0), []), ((0, 0, 0), []), ((0, 0, 0), []), ((0, 0, 0), []), ((0, 0, 0), []), ((0, 0, 0), [])]
set_option maxRecDepth 100000 in
theorem yt386 : (ychk xFk yM 4 226 386 (yM 386) 0 itiJL_canEncode2 yv386 && itiJL_canEncode2.all (fun r => !Nat.beq r.1 32 || Nat.blt r.2.1 423)) = true := by decide +kernel
set_option maxRecDepth 100000 in
def yv387 : List ((Nat × Nat × Nat) × List (Nat × Nat)) := [((0, 0, 0), []), ((0, 0, 0), []), ((0, 0, 0), []), ((1, 9, 0), [(3, 237), (3, 238), (0, 15)]), ((0, 0, 0), []), ((0, 0, 0), []), ((0, 0, 0), []), ((2, 0, 0), []), ((0, 0, 0), []), ((0, 0, 0), []), ((0, 0, 0), [])]
set_option maxRecDepth 100000 in
theorem yt387 : (ychk xFk yM 4 226 387 (yM 387) 0 itiJL_charAt yv387 && itiJL_charAt.all (fun r => !Nat.beq r.1 32 || Nat.blt r.2.1 423)) = true := by decide +kernel
set_option maxRecDepth 100000 in
def yv388 : List ((Nat × Nat × Nat) × List (Nat × Nat)) := [((0, 0, 0), []), ((1, 88, 0), [(3, 162), (3, 163), (0, 16)]), ((0, 0, 0), []), ((0, 0, 0), []), ((0, 0, 0), []), ((0, 0, 0), []), ((0, 0, 0), []), ((0, 92, 0), [(3, 165), (3, 69), (0, 14), (3, 70)]), ((0, 0, 0), []), ((0, 0, 0), []), ((0, 0, 0), []), ((0, 0, 0), []), ((0, 38, 0), [(3, 166), (3, 25), (0, 14), (3, 26)]), ((0, 0, 0), []), ((0, 0, 0), []), ((0, 0, 0), []), ((0, 0, 0), []), ((0, 0, 0), []), ((0, 0, 0), []), ((0, 0, 0), []), ((0, 0, 0), []), ((0, 0, 0), []), ((0, 0, 0), []), ((1, 95, 0), [(3, 167), (3, 168), (0, 16)]), ((0, 0, 0), [])]
set_option maxRecDepth 100000 in
theorem yt388 : (ychk xFk yM 4 226 388 (yM 388) 0 itiJL_indexOf yv388 && itiJL_indexOf.all (fun r => !Nat.beq r.1 32 || Nat.blt r.2.1 423)) = true := by decide +kernel
set_option maxRecDepth 100000 in
def yv389 : List ((Nat × Nat × Nat) × List (Nat × Nat)) := [((0, 0, 0), []), ((0, 0, 0), []), ((1, 0, 0), []), ((0, 0, 0), []), ((1, 0, 0), []), ((1, 0, 0), []), ((0, 0, 0), []), ((0, 0, 0), []), ((0, 0, 0), []), ((1, 0, 0), []), ((0, 0, 0), []), ((1, 0, 0), []), ((0, 0, 0), []), ((1, 0, 0), []), ((0, 0, 0), []), ((0, 0, 0), []), ((0, 0, 0), []), ((0, 0, 0), []), ((0, 0, 0), [])]
set_option maxRecDepth 100000 in
theorem yt389 : (ychk xFk yM 4 226 389 (yM 389) 0 itiJL_indexOfChar yv389 && itiJL_indexOfChar.all (fun r => !Nat.beq r.1 32 || Nat.blt r.2.1 423)) = true := by decide +kernel
set_option maxRecDepth 100000 in
def yv390 : List ((Nat × Nat × Nat) × List (Nat × Nat)) := [((0, 0, 0), []), ((0, 0, 0), []), ((0, 0, 0), []), ((0, 0, 0), []), ((1, 0, 0), []), ((1, 240, 0), [(4, 183), (4, 184), (0, 17)]), ((0, 0, 0), [])]
set_option maxRecDepth 100000 in
theorem yt390 : (ychk xFk yM 4 226 390 (yM 390) 0 itiJL_inflate yv390 && itiJL_inflate.all (fun r => !Nat.beq r.1 32 || Nat.blt r.2.1 423)) = true := by decide +kernel
set_option maxRecDepth 100000 in
def yv391 : List ((Nat × Nat × Nat) × List (Nat × Nat)) := [((0, 0, 0), []), ((0, 0, 0), []), ((1, 67, 0), [(4, 6), (4, 7), (0, 17)]), ((0, 0, 0), []), ((0, 0, 0), []), ((1, 71, 0), [(3, 196), (3, 197), (0, 17)]), ((0, 0, 0), [])]
set_option maxRecDepth 100000 in
theorem yt391 : (ychk xFk yM 4 226 391 (yM 391) 0 itiJU_charAt yv391 && itiJU_charAt.all (fun r => !Nat.beq r.1 32 || Nat.blt r.2.1 423)) = true := by decide +kernel
set_option maxRecDepth 100000 in
def yv392 : List ((Nat × Nat × Nat) × List (Nat × Nat)) := [((0, 0, 0), []), ((0, 0, 0), []), ((0, 0, 0), []), ((1, 48, 0), [(3, 182), (3, 183), (0, 17)]), ((1, 241, 0), [(3, 185), (3, 186), (0, 15)]), ((0, 0, 0), [])]
set_option maxRecDepth 100000 in
theorem yt392 : (ychk xFk yM 4 226 392 (yM 392) 0 itiJU_checkBoundsBeginEnd yv392 && itiJU_checkBoundsBeginEnd.all (fun r => !Nat.beq r.1 32 || Nat.blt r.2.1 423)) = true := by decide +kernel
set_option maxRecDepth 100000 in
def yv393 : List ((Nat × Nat × Nat) × List (Nat × Nat)) := [((0, 0, 0), []), ((0, 0, 0), []), ((0, 0, 0), []), ((1, 48, 0), [(3, 182), (3, 183), (0, 17)]), ((1, 419, 0), [(4, 189), (4, 190), (0, 15)]), ((0, 0, 0), []), ((0, 0, 0), [])]
set_option maxRecDepth 100000 in
theorem yt393 : (ychk xFk yM 4 226 393 (yM 393) 0 itiJU_checkBoundsOffCount yv393 && itiJU_checkBoundsOffCount.all (fun r => !Nat.beq r.1 32 || Nat.blt r.2.1 423)) = true := by decide +kernel
set_option maxRecDepth 100000 in
def yv394 : List ((Nat × Nat × Nat) × List (Nat × Nat)) := [((0, 0, 0), []), ((0, 0, 0), []), ((1, 48, 0), [(3, 182), (3, 183), (0, 17)]), ((1, 414, 0), [(4, 9), (3, 238), (0, 15)]), ((0, 0, 0), [])]
set_option maxRecDepth 100000 in
theorem yt394 : (ychk xFk yM 4 226 394 (yM 394) 0 itiJU_checkIndex yv394 && itiJU_checkIndex.all (fun r => !Nat.beq r.1 32 || Nat.blt r.2.1 423)) = true := by decide +kernel
set_option maxRecDepth 100000 in
def yv395 : List ((Nat × Nat × Nat) × List (Nat × Nat)) := [((0, 0, 0), []), ((0, 0, 0), []), ((0, 0, 0), []), ((0, 0, 0), []), ((1, 0, 0), []), ((0, 0, 0), []), ((0, 0, 0), []), ((0, 0, 0), [])]
set_option maxRecDepth 100000 in
theorem yt395 : (ychk xFk yM 4 226 395 (yM 395) 0 itiJU_coderFromArrayLen yv395 && itiJU_coderFromArrayLen.all (fun r => !Nat.beq r.1 32 || Nat.blt r.2.1 423)) = true := by decide +kernel
set_option maxRecDepth 100000 in
def yv396 : List ((Nat × Nat × Nat) × List (Nat × Nat)) := [((0, 0, 0), []), ((0, 0, 0), [(4, 77)]), ((0, 0, 0), []), ((0, 0, 0), []), ((0, 0, 0), []), ((0, 0, 0), []), ((0, 0, 0), []), ((0, 0, 0), []), ((1, 123, 0), [(5, 0), (5, 1), (0, 17)]), ((1, 0, 0), []), ((1, 0, 0), []), ((0, 0, 0), []), ((0, 0, 0), []), ((0, 0, 0), []), ((0, 0, 0), []), ((0, 0, 0), []), ((0, 0, 0), []), ((0, 0, 0), []), ((0, 0, 0), []), ((0, 0, 0), []), ((1, 11, 0), [(4, 113), (4, 114), (0, 17)]), ((1, 126, 0), [(5, 3), (4, 229), (0, 6)]), ((1, 0, 0), []), ((1, 0, 0), []), ((1, 0, 0), []), ((1, 71, 0), [(3, 196), (3, 197), (0, 17)]), ((2, 0, 0), []), ((0, 0, 0), []), ((1, 0, 0), []), ((0, 0, 0), []), ((0, 0, 0), []), ((0, 0, 0), []), ((0, 0, 0), []), ((1, 123, 0), [(5, 0), (5, 1), (0, 17)]), ((0, 0, 0), []), ((0, 0, 0), []), ((1, 0, 0), []), ((0, 0, 0), []), ((0, 0, 0), []), ((0, 0, 0), [])]
set_option maxRecDepth 100000 in
theorem yt396 : (ychk xFk yM 4 226 396 (yM 396) 0 itiJU_compress1 yv396 && itiJU_compress1.all (fun r => !Nat.beq r.1 32 || Nat.blt r.2.1 423)) = true := by decide +kernel
set_option maxRecDepth 100000 in
def yv397 : List ((Nat × Nat × Nat) × List (Nat × Nat)) := [((0, 0, 0), []), ((1, 0, 0), []), ((0, 0, 0), []), ((1, 173, 0), [(4, 186), (4, 187), (0, 17)]), ((0, 0, 0), []), ((1, 0, 0), []), ((1, 0, 0), []), ((1, 0, 0), []), ((0, 0, 0), []), ((0, 0, 0), []), ((0, 0, 0), []), ((1, 71, 0), [(3, 196), (3, 197), (0, 17)]), ((1, 0, 0), []), ((1, 0, 0), []), ((2, 0, 0), []), ((0, 0, 0), []), ((1, 0, 0), []), ((0, 0, 0), []), ((0, 0, 0), []), ((0, 0, 0), []), ((1, 0, 0), []), ((0, 0, 0), []), ((0, 0, 0), []), ((0, 0, 0), []), ((0, 0, 0), []), ((0, 0, 0), []), ((0, 0, 0), []), ((1, 0, 0), []), ((0, 0, 0), [])]
set_option maxRecDepth 100000 in
theorem yt397 : (ychk xFk yM 4 226 397 (yM 397) 0 itiJU_compress2 yv397 && itiJU_compress2.all (fun r => !Nat.beq r.1 32 || Nat.blt r.2.1 423)) = true := by decide +kernel
set_option maxRecDepth 100000 in
def yv398 : List ((Nat × Nat × Nat) × List (Nat × Nat)) := [((0, 0, 0), []), ((0, 0, 0), []), ((0, 0, 0), []), ((0, 0, 0), []), ((0, 0, 0), []), ((1, 48, 0), [(3, 182), (3, 183), (0, 17)]), ((0, 0, 0), []), ((0, 0, 0), []), ((0, 0, 0), []), ((0, 0, 0), []), ((0, 0, 0), []), ((0, 0, 0), []), ((0, 0, 0), []), ((0, 0, 0), []), ((0, 0, 0), []), ((0, 0, 0), []), ((2, 0, 0), []), ((0, 0, 0), []), ((0, 0, 0), []), ((0, 0, 0), []), ((0, 0, 0), []), ((0, 0, 0), []), ((2, 0, 0), []), ((0, 0, 0), []), ((0, 0, 0), []), ((0, 0, 0), []), ((0, 0, 0), []), ((0, 0, 0), [])]
set_option maxRecDepth 100000 in
theorem yt398 : (ychk xFk yM 4 226 398 (yM 398) 0 itiJU_getChar yv398 && itiJU_getChar.all (fun r => !Nat.beq r.1 32 || Nat.blt r.2.1 423)) = true := by decide +kernel
set_option maxRecDepth 100000 in
def yv399 : List ((Nat × Nat × Nat) × List (Nat × Nat)) := [((0, 0, 0), []), ((0, 0, 0), []), ((0, 0, 0), []), ((1, 96, 0), [(3, 179), (3, 180), (0, 17)]), ((0, 0, 0), []), ((0, 0, 0), []), ((0, 0, 0), []), ((1, 393, 0), [(6, 5), (6, 6), (0, 17)]), ((1, 0, 0), []), ((0, 0, 0), []), ((0, 0, 0), []), ((1, 0, 0), []), ((0, 0, 0), []), ((0, 0, 0), []), ((1, 0, 0), []), ((0, 0, 0), [])]
set_option maxRecDepth 100000 in
theorem yt399 : (ychk xFk yM 4 226 399 (yM 399) 0 itiJU_getChars1 yv399 && itiJU_getChars1.all (fun r => !Nat.beq r.1 32 || Nat.blt r.2.1 423)) = true := by decide +kernel
set_option maxRecDepth 100000 in
def yv400 : List ((Nat × Nat × Nat) × List (Nat × Nat)) := [((0, 0, 0), []), ((1, 0, 0), []), ((0, 0, 0), []), ((0, 0, 0), []), ((0, 0, 0), []), ((0, 0, 0), []), ((0, 0, 0), []), ((1, 0, 0), []), ((1, 0, 0), []), ((0, 0, 0), []), ((0, 0, 0), []), ((0, 0, 0), []), ((0, 0, 0), []), ((0, 0, 0), []), ((1, 0, 0), []), ((0, 0, 0), []), ((0, 0, 0), []), ((1, 0, 0), []), ((0, 0, 0), []), ((0, 0, 0), []), ((0, 0, 0), []), ((1, 0, 0), []), ((0, 0, 0), []), ((0, 0, 0), []), ((0, 0, 0), []), ((1, 0, 0), []), ((0, 0, 0), []), ((0, 0, 0), []), ((0, 0, 0), []), ((0, 0, 0), []), ((1, 0, 0), []), ((1, 403, 40), [(6, 8)]), ((1, 0, 0), []), ((0, 0, 0), []), ((1, 111, 0), [(4, 195), (4, 196), (0, 17)]), ((0, 0, 0), []), ((0, 0, 0), []), ((1, 0, 0), []), ((1, 407, 41), [(6, 9)]), ((1, 0, 0), []), ((0, 0, 0), []), ((1, 111, 0), [(4, 195), (4, 196), (0, 17)]), ((0, 0, 0), []), ((0, 0, 0), []), ((0, 0, 0), []), ((1, 0, 0), []), ((1, 403, 40), [(6, 8)]), ((0, 0, 0), []), ((0, 0, 0), []), ((0, 0, 0), []), ((1, 111, 0), [(4, 195), (4, 196), (0, 17)]), ((0, 0, 0), []), ((1, 0, 0), []), ((0, 0, 0), []), ((0, 0, 0), []), ((0, 0, 0), []), ((1, 0, 0), []), ((1, 407, 41), [(6, 9)]), ((0, 0, 0), []), ((0, 0, 0), []), ((0, 0, 0), []), ((1, 111, 0), [(4, 195), (4, 196), (0, 17)]), ((1, 0, 0), []), ((0, 0, 0), []), ((0, 0, 0), []), ((0, 0, 0), []), ((1, 0, 0), []), ((1, 0, 0), []), ((1, 111, 0), [(4, 195), (4, 196), (0, 17)]), ((1, 0, 0), []), ((0, 0, 0), [])]
set_option maxRecDepth 100000 in
theorem yt400 : (ychk xFk yM 4 226 400 (yM 400) 0 itiJU_getChars2 yv400 && itiJU_getChars2.all (fun r => !Nat.beq r.1 32 || Nat.blt r.2.1 423)) = true := by decide +kernel
set_option maxRecDepth 100000 in
def yv401 : List ((Nat × Nat × Nat) × List (Nat × Nat)) := [((0, 0, 0), []), ((0, 0, 0), []), ((0, 224, 0), [(3, 173), (3, 69), (0, 14), (3, 70)]), ((0, 0, 0), []), ((0, 0, 0), []), ((0, 0, 0), []), ((0, 0, 0), []), ((0, 0, 0), []), ((0, 0, 0), []), ((0, 183, 0), [(3, 174), (3, 25), (0, 14), (3, 26)]), ((0, 0, 0), []), ((0, 0, 0), []), ((0, 0, 0), []), ((0, 0, 0), []), ((0, 0, 0), []), ((0, 0, 0), []), ((0, 0, 0), []), ((3, 227, 0), [(3, 175)]), ((0, 0, 0), []), ((0, 0, 0), []), ((0, 0, 0), []), ((0, 0, 0), []), ((0, 0, 0), []), ((1, 228, 0), [(3, 176), (3, 177), (0, 17)]), ((0, 0, 0), []), ((0, 0, 0), []), ((0, 0, 0), []), ((0, 0, 0), []), ((0, 0, 0), []), ((1, 232, 0), [(3, 205), (3, 206), (0, 17)]), ((0, 0, 0), [])]
set_option maxRecDepth 100000 in
theorem yt401 : (ychk xFk yM 4 226 401 (yM 401) 0 itiJU_indexOf yv401 && itiJU_indexOf.all (fun r => !Nat.beq r.1 32 || Nat.blt r.2.1 423)) = true := by decide +kernel
set_option maxRecDepth 100000 in
def yv402 : List ((Nat × Nat × Nat) × List (Nat × Nat)) := [((0, 0, 0), []), ((0, 0, 0), []), ((0, 0, 0), []), ((1, 96, 0), [(3, 179), (3, 180), (0, 17)]), ((0, 0, 0), []), ((0, 0, 0), []), ((0, 0, 0), []), ((0, 0, 0), []), ((1, 244, 0), [(3, 193), (3, 194), (0, 17)]), ((0, 0, 0), [])]
set_option maxRecDepth 100000 in
theorem yt402 : (ychk xFk yM 4 226 402 (yM 402) 0 itiJU_indexOfChar yv402 && itiJU_indexOfChar.all (fun r => !Nat.beq r.1 32 || Nat.blt r.2.1 423)) = true := by decide +kernel
set_option maxRecDepth 100000 in
def yv403 : List ((Nat × Nat × Nat) × List (Nat × Nat)) := [((0, 0, 0), []), ((1, 0, 0), []), ((1, 0, 0), []), ((0, 0, 0), []), ((0, 0, 0), []), ((0, 0, 0), []), ((1, 0, 0), []), ((1, 71, 0), [(3, 196), (3, 197), (0, 17)]), ((0, 0, 0), []), ((0, 0, 0), []), ((1, 0, 0), []), ((0, 0, 0), []), ((0, 0, 0), []), ((0, 0, 0), []), ((0, 0, 0), []), ((0, 0, 0), [])]
set_option maxRecDepth 100000 in
theorem yt403 : (ychk xFk yM 4 226 403 (yM 403) 0 itiJU_indexOfCharUnsafe yv403 && itiJU_indexOfCharUnsafe.all (fun r => !Nat.beq r.1 32 || Nat.blt r.2.1 423)) = true := by decide +kernel
set_option maxRecDepth 100000 in
def yv404 : List ((Nat × Nat × Nat) × List (Nat × Nat)) := [((0, 0, 0), []), ((1, 164, 0), [(3, 208), (3, 209), (0, 19)]), ((0, 0, 0), []), ((0, 0, 0), []), ((1, 157, 0), [(3, 211), (3, 212), (0, 19)]), ((1, 0, 0), []), ((0, 0, 0), []), ((1, 161, 0), [(3, 215), (3, 216), (0, 19)]), ((1, 0, 0), []), ((0, 0, 0), []), ((0, 0, 0), []), ((0, 0, 0), []), ((1, 96, 0), [(3, 179), (3, 180), (0, 17)]), ((0, 0, 0), []), ((1, 0, 0), []), ((1, 0, 0), []), ((0, 0, 0), []), ((0, 0, 0), []), ((0, 0, 0), []), ((0, 0, 0), []), ((0, 0, 0), []), ((1, 0, 0), []), ((1, 71, 0), [(3, 196), (3, 197), (0, 17)]), ((1, 0, 0), []), ((0, 0, 0), []), ((0, 0, 0), []), ((1, 0, 0), []), ((0, 0, 0), []), ((0, 0, 0), []), ((1, 71, 0), [(3, 196), (3, 197), (0, 17)]), ((1, 0, 0), []), ((0, 0, 0), []), ((1, 0, 0), []), ((0, 0, 0), []), ((0, 0, 0), []), ((0, 0, 0), []), ((0, 0, 0), []), ((0, 0, 0), [])]
set_option maxRecDepth 100000 in
theorem yt404 : (ychk xFk yM 4 226 404 (yM 404) 0 itiJU_indexOfSupplementary yv404 && itiJU_indexOfSupplementary.all (fun r => !Nat.beq r.1 32 || Nat.blt r.2.1 423)) = true := by decide +kernel
set_option maxRecDepth 100000 in
def yv405 : List ((Nat × Nat × Nat) × List (Nat × Nat)) := [((0, 0, 0), []), ((1, 0, 0), []), ((0, 0, 0), []), ((1, 173, 0), [(4, 186), (4, 187), (0, 17)]), ((0, 0, 0), []), ((1, 0, 0), []), ((1, 0, 0), []), ((1, 0, 0), []), ((0, 0, 0), []), ((0, 0, 0), []), ((0, 0, 0), []), ((0, 0, 0), []), ((0, 0, 0), []), ((0, 0, 0), []), ((0, 0, 0), []), ((0, 0, 0), []), ((2, 0, 0), []), ((0, 0, 0), []), ((1, 111, 0), [(4, 195), (4, 196), (0, 17)]), ((0, 0, 0), []), ((0, 0, 0), []), ((0, 0, 0), [])]
set_option maxRecDepth 100000 in
theorem yt405 : (ychk xFk yM 4 226 405 (yM 405) 0 itiJU_inflate yv405 && itiJU_inflate.all (fun r => !Nat.beq r.1 32 || Nat.blt r.2.1 423)) = true := by decide +kernel
set_option maxRecDepth 100000 in
def yv406 : List ((Nat × Nat × Nat) × List (Nat × Nat)) := [((0, 0, 0), []), ((0, 0, 0), []), ((0, 0, 0), []), ((0, 0, 0), []), ((0, 0, 0), [])]
set_option maxRecDepth 100000 in
theorem yt406 : (ychk xFk yM 4 226 406 (yM 406) 0 itiJU_length yv406 && itiJU_length.all (fun r => !Nat.beq r.1 32 || Nat.blt r.2.1 423)) = true := by decide +kernel
set_option maxRecDepth 100000 in
def yv407 : List ((Nat × Nat × Nat) × List (Nat × Nat)) := [((0, 0, 0), []), ((1, 11, 0), [(4, 113), (4, 114), (0, 17)]), ((0, 0, 0), [(4, 77)]), ((0, 0, 0), [])]
set_option maxRecDepth 100000 in
theorem yt407 : (ychk xFk yM 4 226 407 (yM 407) 0 itiJU_newBytesFor yv407 && itiJU_newBytesFor.all (fun r => !Nat.beq r.1 32 || Nat.blt r.2.1 423)) = true := by decide +kernel

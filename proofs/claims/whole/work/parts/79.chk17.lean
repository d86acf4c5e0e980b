/-! entries checked -/
set_option maxRecDepth 100000 in
def yv408 : List ((Nat × Nat × Nat) × List (Nat × Nat)) := [((0, 0, 0), []), ((0, 0, 0), []), ((0, 0, 0), []), ((0, 0, 0), []), ((3, 20, 0), [(4, 116)]), ((0, 0, 0), []), ((0, 0, 0), []), ((0, 0, 0), []), ((0, 0, 0), []), ((3, 20, 0), [(4, 116)]), ((0, 0, 0), []), ((0, 0, 0), []), ((0, 0, 0), []), ((0, 0, 0), [])]
set_option maxRecDepth 100000 in
theorem yt408 : (ychk xFk yM 4 226 408 (yM 408) 0 itiJU_newBytesLength yv408 && itiJU_newBytesLength.all (fun r => !Nat.beq r.1 32 || Nat.blt r.2.1 423)) = true := by decide +kernel
set_option maxRecDepth 100000 in
def yv409 : List ((Nat × Nat × Nat) × List (Nat × Nat)) := [((0, 0, 0), []), ((0, 0, 0), []), ((0, 0, 0), []), ((0, 0, 0), []), ((0, 0, 0), []), ((1, 48, 0), [(3, 182), (3, 183), (0, 17)]), ((0, 0, 0), []), ((0, 0, 0), []), ((0, 0, 0), []), ((0, 0, 0), []), ((0, 0, 0), []), ((0, 0, 0), []), ((0, 0, 0), []), ((0, 0, 0), []), ((0, 0, 0), []), ((0, 0, 0), []), ((0, 0, 0), []), ((0, 0, 0), []), ((0, 0, 0), []), ((0, 0, 0), []), ((0, 0, 0), []), ((0, 0, 0), []), ((0, 0, 0), []), ((0, 0, 0), []), ((0, 0, 0), []), ((0, 0, 0), [])]
set_option maxRecDepth 100000 in
theorem yt409 : (ychk xFk yM 4 226 409 (yM 409) 0 itiJU_putChar yv409 && itiJU_putChar.all (fun r => !Nat.beq r.1 32 || Nat.blt r.2.1 423)) = true := by decide +kernel
set_option maxRecDepth 100000 in
def yv410 : List ((Nat × Nat × Nat) × List (Nat × Nat)) := [((0, 0, 0), []), ((0, 0, 0), []), ((1, 67, 0), [(4, 6), (4, 7), (0, 17)]), ((0, 0, 0), []), ((0, 0, 0), []), ((0, 0, 0), []), ((1, 111, 0), [(4, 195), (4, 196), (0, 17)]), ((0, 0, 0), [])]
set_option maxRecDepth 100000 in
theorem yt410 : (ychk xFk yM 4 226 410 (yM 410) 0 itiJU_putCharSB yv410 && itiJU_putCharSB.all (fun r => !Nat.beq r.1 32 || Nat.blt r.2.1 423)) = true := by decide +kernel
set_option maxRecDepth 100000 in
def yv411 : List ((Nat × Nat × Nat) × List (Nat × Nat)) := [((0, 0, 0), []), ((0, 0, 0), []), ((0, 0, 0), []), ((1, 0, 0), []), ((0, 0, 0), []), ((1, 0, 0), []), ((0, 0, 0), []), ((1, 96, 0), [(3, 179), (3, 180), (0, 17)]), ((0, 0, 0), []), ((0, 0, 0), []), ((0, 0, 0), []), ((0, 0, 0), []), ((1, 111, 0), [(4, 195), (4, 196), (0, 17)]), ((0, 0, 0), []), ((0, 0, 0), []), ((0, 0, 0), []), ((0, 0, 0), []), ((1, 111, 0), [(4, 195), (4, 196), (0, 17)]), ((0, 0, 0), []), ((0, 0, 0), []), ((0, 0, 0), []), ((1, 0, 0), []), ((1, 111, 0), [(4, 195), (4, 196), (0, 17)]), ((0, 0, 0), []), ((0, 0, 0), []), ((0, 0, 0), []), ((1, 0, 0), []), ((1, 111, 0), [(4, 195), (4, 196), (0, 17)]), ((0, 0, 0), []), ((0, 0, 0), []), ((1, 0, 0), []), ((0, 0, 0), []), ((0, 0, 0), []), ((1, 0, 0), []), ((0, 0, 0), [])]
set_option maxRecDepth 100000 in
theorem yt411 : (ychk xFk yM 4 226 411 (yM 411) 0 itiJU_putCharsAt yv411 && itiJU_putCharsAt.all (fun r => !Nat.beq r.1 32 || Nat.blt r.2.1 423)) = true := by decide +kernel
set_option maxRecDepth 100000 in
def yv412 : List ((Nat × Nat × Nat) × List (Nat × Nat)) := [((0, 0, 0), []), ((0, 0, 0), []), ((0, 0, 0), []), ((0, 0, 0), []), ((0, 0, 0), []), ((0, 0, 0), []), ((0, 0, 0), []), ((0, 0, 0), [])]
set_option maxRecDepth 100000 in
theorem yt412 : (ychk xFk yM 4 226 412 (yM 412) 0 itiJR_checkLength yv412 && itiJR_checkLength.all (fun r => !Nat.beq r.1 32 || Nat.blt r.2.1 423)) = true := by decide +kernel
set_option maxRecDepth 100000 in
def yv413 : List ((Nat × Nat × Nat) × List (Nat × Nat)) := [((0, 0, 0), []), ((0, 0, 0), []), ((0, 0, 0), []), ((0, 0, 0), []), ((0, 0, 0), []), ((0, 310, 311), [(4, 157), (4, 158), (4, 159), (4, 160), (4, 161), (4, 163)]), ((0, 0, 0), []), ((0, 0, 0), []), ((0, 0, 0), [(4, 77)]), ((0, 0, 0), []), ((0, 0, 0), []), ((0, 0, 0), []), ((0, 0, 0), []), ((0, 0, 0), []), ((0, 0, 0), []), ((0, 0, 0), []), ((0, 0, 0), []), ((0, 304, 0), [(4, 164), (3, 25), (0, 14), (3, 26)]), ((0, 150, 0), [(4, 165), (4, 167), (4, 166), (0, 25)]), ((0, 0, 0), []), ((0, 0, 0), [])]
set_option maxRecDepth 100000 in
theorem yt413 : (ychk xFk yM 4 226 413 (yM 413) 0 itiJR_copyOf yv413 && itiJR_copyOf.all (fun r => !Nat.beq r.1 32 || Nat.blt r.2.1 423)) = true := by decide +kernel
set_option maxRecDepth 100000 in
def yv414 : List ((Nat × Nat × Nat) × List (Nat × Nat)) := [((0, 0, 0), []), ((0, 0, 0), []), ((0, 0, 0), []), ((0, 0, 0), []), ((0, 0, 0), []), ((0, 0, 0), []), ((0, 0, 0), []), ((0, 0, 0), []), ((0, 0, 0), []), ((1, 339, 0), [(4, 231), (4, 232), (0, 6)]), ((0, 0, 0), []), ((0, 0, 0), []), ((0, 310, 311), [(4, 157), (4, 158), (4, 159), (4, 160), (4, 161), (4, 163)]), ((0, 0, 0), [])]
set_option maxRecDepth 100000 in
theorem yt414 : (ychk xFk yM 4 226 414 (yM 414) 0 itiJR_copyOfRange yv414 && itiJR_copyOfRange.all (fun r => !Nat.beq r.1 32 || Nat.blt r.2.1 423)) = true := by decide +kernel
set_option maxRecDepth 100000 in
def yv415 : List ((Nat × Nat × Nat) × List (Nat × Nat)) := [((0, 0, 0), []), ((0, 0, 0), []), ((1, 343, 0), [(4, 234), (4, 235), (0, 6)]), ((0, 0, 0), []), ((0, 0, 0), []), ((0, 0, 0), []), ((0, 0, 0), []), ((0, 0, 0), []), ((0, 0, 0), [(4, 77)]), ((1, 0, 0), []), ((0, 0, 0), []), ((0, 0, 0), []), ((1, 0, 0), []), ((0, 0, 0), []), ((0, 0, 0), []), ((0, 0, 0), []), ((0, 0, 0), []), ((0, 0, 0), []), ((0, 0, 0), []), ((0, 304, 0), [(4, 164), (3, 25), (0, 14), (3, 26)]), ((0, 150, 0), [(4, 165), (4, 167), (4, 166), (0, 25)]), ((1, 0, 0), []), ((0, 0, 0), [])]
set_option maxRecDepth 100000 in
theorem yt415 : (ychk xFk yM 4 226 415 (yM 415) 0 itiJR_copyOfRangeByte yv415 && itiJR_copyOfRangeByte.all (fun r => !Nat.beq r.1 32 || Nat.blt r.2.1 423)) = true := by decide +kernel
set_option maxRecDepth 100000 in
def yv416 : List ((Nat × Nat × Nat) × List (Nat × Nat)) := [((0, 0, 0), []), ((0, 0, 0), []), ((0, 0, 0), []), ((0, 0, 0), []), ((0, 0, 0), []), ((0, 0, 0), []), ((0, 0, 0), []), ((0, 0, 0), []), ((0, 0, 0), []), ((0, 0, 0), []), ((0, 0, 0), []), ((0, 0, 0), []), ((0, 0, 0), []), ((0, 0, 0), []), ((0, 0, 0), [])]
set_option maxRecDepth 100000 in
theorem yt416 : (ychk xFk yM 4 226 416 (yM 416) 0 itiJR_fill1 yv416 && itiJR_fill1.all (fun r => !Nat.beq r.1 32 || Nat.blt r.2.1 423)) = true := by decide +kernel
set_option maxRecDepth 100000 in
def yv417 : List ((Nat × Nat × Nat) × List (Nat × Nat)) := [((0, 0, 0), []), ((0, 0, 0), []), ((0, 0, 0), []), ((0, 0, 0), []), ((1, 0, 0), []), ((0, 0, 0), []), ((1, 0, 0), []), ((0, 0, 0), []), ((0, 0, 0), []), ((0, 0, 0), []), ((0, 0, 0), []), ((0, 0, 0), []), ((0, 0, 0), []), ((0, 0, 0), []), ((0, 0, 0), [])]
set_option maxRecDepth 100000 in
theorem yt417 : (ychk xFk yM 4 226 417 (yM 417) 0 itiJR_fill2 yv417 && itiJR_fill2.all (fun r => !Nat.beq r.1 32 || Nat.blt r.2.1 423)) = true := by decide +kernel
set_option maxRecDepth 100000 in
def yv418 : List ((Nat × Nat × Nat) × List (Nat × Nat)) := [((0, 0, 0), []), ((0, 0, 0), []), ((0, 0, 0), []), ((0, 0, 0), []), ((0, 0, 0), []), ((0, 0, 0), []), ((0, 0, 0), []), ((0, 0, 0), []), ((0, 0, 0), []), ((0, 0, 0), []), ((0, 0, 0), []), ((3, 200, 0), [(4, 149)]), ((0, 0, 0), []), ((3, 200, 0), [(4, 149)]), ((0, 0, 0), []), ((0, 0, 0), []), ((0, 0, 0), [])]
set_option maxRecDepth 100000 in
theorem yt418 : (ychk xFk yM 4 226 418 (yM 418) 0 itiJX_hugeLength yv418 && itiJX_hugeLength.all (fun r => !Nat.beq r.1 32 || Nat.blt r.2.1 423)) = true := by decide +kernel
set_option maxRecDepth 100000 in
def yv419 : List ((Nat × Nat × Nat) × List (Nat × Nat)) := [((0, 0, 0), []), ((0, 0, 0), []), ((0, 0, 0), []), ((0, 194, 0), [(4, 148), (3, 69), (0, 14), (3, 70)]), ((0, 0, 0), []), ((0, 0, 0), []), ((0, 0, 0), []), ((0, 0, 0), []), ((0, 0, 0), []), ((0, 0, 0), []), ((3, 200, 0), [(4, 149)]), ((0, 0, 0), []), ((0, 0, 0), []), ((0, 0, 0), []), ((0, 0, 0), []), ((0, 0, 0), []), ((1, 201, 0), [(4, 150), (4, 151), (0, 24)]), ((0, 0, 0), [])]
set_option maxRecDepth 100000 in
theorem yt419 : (ychk xFk yM 4 226 419 (yM 419) 0 itiJX_newLength yv419 && itiJX_newLength.all (fun r => !Nat.beq r.1 32 || Nat.blt r.2.1 423)) = true := by decide +kernel
set_option maxRecDepth 100000 in
def yv420 : List ((Nat × Nat × Nat) × List (Nat × Nat)) := [((0, 0, 0), []), ((0, 0, 0), []), ((0, 0, 0), []), ((0, 0, 0), []), ((0, 0, 0), []), ((0, 0, 0), []), ((0, 0, 0), []), ((0, 0, 0), []), ((0, 0, 0), []), ((0, 0, 0), []), ((0, 0, 0), []), ((0, 0, 0), []), ((0, 0, 0), []), ((0, 0, 0), []), ((0, 0, 0), []), ((0, 0, 0), []), ((0, 0, 0), [])]
set_option maxRecDepth 100000 in
theorem yt420 : (ychk xFk yM 4 226 420 (yM 420) 0 itiJP_checkFromIndexSize yv420 && itiJP_checkFromIndexSize.all (fun r => !Nat.beq r.1 32 || Nat.blt r.2.1 423)) = true := by decide +kernel
set_option maxRecDepth 100000 in
def yv421 : List ((Nat × Nat × Nat) × List (Nat × Nat)) := [((0, 0, 0), []), ((0, 0, 0), []), ((0, 0, 0), []), ((0, 0, 0), []), ((0, 0, 0), []), ((0, 0, 0), []), ((0, 0, 0), []), ((0, 0, 0), []), ((0, 0, 0), []), ((0, 0, 0), []), ((0, 0, 0), []), ((0, 0, 0), []), ((0, 0, 0), []), ((0, 0, 0), [])]
set_option maxRecDepth 100000 in
theorem yt421 : (ychk xFk yM 4 226 421 (yM 421) 0 itiJP_checkFromToIndex yv421 && itiJP_checkFromToIndex.all (fun r => !Nat.beq r.1 32 || Nat.blt r.2.1 423)) = true := by decide +kernel
set_option maxRecDepth 100000 in
def yv422 : List ((Nat × Nat × Nat) × List (Nat × Nat)) := [((0, 0, 0), []), ((0, 0, 0), []), ((0, 0, 0), []), ((0, 0, 0), []), ((0, 0, 0), []), ((0, 0, 0), []), ((0, 0, 0), []), ((0, 0, 0), []), ((0, 0, 0), []), ((0, 0, 0), [])]
set_option maxRecDepth 100000 in
theorem yt422 : (ychk xFk yM 4 226 422 (yM 422) 0 itiJP_checkIndex yv422 && itiJP_checkIndex.all (fun r => !Nat.beq r.1 32 || Nat.blt r.2.1 423)) = true := by decide +kernel

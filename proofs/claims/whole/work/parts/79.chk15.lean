/-! entries checked -/
set_option maxRecDepth 100000 in
def yv360 : List ((Nat × Nat × Nat) × List (Nat × Nat)) := [((0, 0, 0), []), ((0, 0, 0), []), ((0, 0, 0), []), ((0, 0, 0), []), ((0, 0, 0), []), ((0, 0, 0), []), ((0, 0, 0), [])]
set_option maxRecDepth 100000 in
theorem yt360 : (ychk xFk yM 4 226 360 (yM 360) 0 itiJM_abs1 yv360 && itiJM_abs1.all (fun r => !Nat.beq r.1 32 || Nat.blt r.2.1 423)) = true := by decide +kernel
set_option maxRecDepth 100000 in
def yv361 : List ((Nat × Nat × Nat) × List (Nat × Nat)) := [((0, 0, 0), []), ((0, 0, 0), []), ((0, 0, 0), []), ((0, 0, 0), []), ((0, 0, 0), []), ((0, 0, 0), []), ((0, 0, 0), [])]
set_option maxRecDepth 100000 in
theorem yt361 : (ychk xFk yM 4 226 361 (yM 361) 0 itiJM_abs2 yv361 && itiJM_abs2.all (fun r => !Nat.beq r.1 32 || Nat.blt r.2.1 423)) = true := by decide +kernel
set_option maxRecDepth 100000 in
def yv362 : List ((Nat × Nat × Nat) × List (Nat × Nat)) := [((0, 0, 0), []), ((0, 0, 0), []), ((0, 0, 0), []), ((0, 0, 0), []), ((0, 0, 0), []), ((0, 0, 0), []), ((0, 0, 0), [])]
set_option maxRecDepth 100000 in
theorem yt362 : (ychk xFk yM 4 226 362 (yM 362) 0 itiJM_max1 yv362 && itiJM_max1.all (fun r => !Nat.beq r.1 32 || Nat.blt r.2.1 423)) = true := by decide +kernel
set_option maxRecDepth 100000 in
def yv363 : List ((Nat × Nat × Nat) × List (Nat × Nat)) := [((0, 0, 0), []), ((0, 0, 0), []), ((0, 0, 0), []), ((0, 0, 0), []), ((0, 0, 0), []), ((0, 0, 0), []), ((0, 0, 0), [])]
set_option maxRecDepth 100000 in
theorem yt363 : (ychk xFk yM 4 226 363 (yM 363) 0 itiJM_max2 yv363 && itiJM_max2.all (fun r => !Nat.beq r.1 32 || Nat.blt r.2.1 423)) = true := by decide +kernel
set_option maxRecDepth 100000 in
def yv364 : List ((Nat × Nat × Nat) × List (Nat × Nat)) := [((0, 0, 0), []), ((0, 0, 0), []), ((0, 0, 0), []), ((0, 0, 0), []), ((0, 0, 0), []), ((0, 0, 0), []), ((0, 0, 0), [])]
set_option maxRecDepth 100000 in
theorem yt364 : (ychk xFk yM 4 226 364 (yM 364) 0 itiJM_min1 yv364 && itiJM_min1.all (fun r => !Nat.beq r.1 32 || Nat.blt r.2.1 423)) = true := by decide +kernel
set_option maxRecDepth 100000 in
def yv365 : List ((Nat × Nat × Nat) × List (Nat × Nat)) := [((0, 0, 0), []), ((0, 0, 0), []), ((0, 0, 0), []), ((0, 0, 0), []), ((0, 0, 0), []), ((0, 0, 0), []), ((0, 0, 0), [])]
set_option maxRecDepth 100000 in
theorem yt365 : (ychk xFk yM 4 226 365 (yM 365) 0 itiJM_min2 yv365 && itiJM_min2.all (fun r => !Nat.beq r.1 32 || Nat.blt r.2.1 423)) = true := by decide +kernel
set_option maxRecDepth 100000 in
def yv366 : List ((Nat × Nat × Nat) × List (Nat × Nat)) := [((0, 0, 0), []), ((0, 1, 0), [(4, 213), (0, 35), (0, 36)]), ((0, 0, 0), []), ((3, 552, 0), [(4, 214), (4, 216), (4, 217), (4, 215), (0, 22)]), ((0, 0, 0), []), ((0, 0, 0), []), ((4, 549, 0), [(4, 219), (4, 221), (4, 220), (4, 222), (4, 223), (0, 23)]), ((1, 0, 0), []), ((0, 0, 0), []), ((3, 1047, 0), [(4, 227), (4, 170), (4, 171), (4, 169), (0, 22)]), ((0, 0, 0), []), ((0, 0, 0), []), ((0, 0, 0), []), ((0, 15, 0), [(5, 8)]), ((0, 0, 0), []), ((0, 0, 0), []), ((0, 0, 0), []), ((1, 0, 0), []), ((1, 54, 0), [(4, 228), (4, 229), (0, 6)]), ((0, 9, 0), [(5, 7)]), ((0, 0, 0), []), ((4, 38, 42), [(3, 149)]), ((0, 0, 0), []), ((0, 0, 0), []), ((0, 1048, 0), [(4, 119)]), ((0, 0, 0), []), ((0, 0, 0), []), ((0, 0, 0), []), ((0, 0, 0), []), ((1, 0, 0), []), ((1, 1051, 0), [(4, 237), (4, 238), (0, 17)]), ((0, 9, 0), [(5, 7)]), ((0, 0, 0), []), ((0, 0, 0), []), ((0, 9, 0), [(5, 7)]), ((1, 0, 0), []), ((1, 47, 0), [(5, 4), (5, 5), (0, 17)]), ((0, 15, 0), [(5, 8)]), ((0, 0, 0), []), ((0, 0, 0), []), ((0, 0, 0), []), ((0, 15, 0), [(5, 8)]), ((0, 0, 0), []), ((0, 0, 0), []), ((0, 0, 0), []), ((1, 0, 0), []), ((0, 0, 0), []), ((0, 0, 0), []), ((1, 54, 0), [(4, 228), (4, 229), (0, 6)]), ((0, 9, 0), [(5, 7)]), ((0, 0, 0), [])]
set_option maxRecDepth 100000 in
theorem yt366 : (ychk xFk yM 4 226 366 (yM 366) 0 itiJS_init1 yv366 && itiJS_init1.all (fun r => !Nat.beq r.1 32 || Nat.blt r.2.1 423)) = true := by decide +kernel
set_option maxRecDepth 100000 in
def yv367 : List ((Nat × Nat × Nat) × List (Nat × Nat)) := [((0, 0, 0), []), ((0, 0, 0), []), ((0, 0, 0), []), ((2, 489, 0), [(4, 210), (4, 211), (0, 15)]), ((0, 0, 0), [])]
set_option maxRecDepth 100000 in
theorem yt367 : (ychk xFk yM 4 226 367 (yM 367) 0 itiJS_init2 yv367 && itiJS_init2.all (fun r => !Nat.beq r.1 32 || Nat.blt r.2.1 423)) = true := by decide +kernel
set_option maxRecDepth 100000 in
def yv368 : List ((Nat × Nat × Nat) × List (Nat × Nat)) := [((0, 0, 0), []), ((0, 492, 0), [(3, 145), (3, 146), (3, 147), (0, 15)]), ((0, 0, 0), []), ((0, 0, 0), []), ((0, 9, 0), [(5, 7)]), ((0, 0, 0), []), ((1, 495, 0), [(3, 234), (3, 235), (0, 16)]), ((0, 0, 0), []), ((0, 0, 0), []), ((0, 9, 0), [(5, 7)]), ((0, 0, 0), []), ((1, 498, 0), [(4, 3), (4, 4), (0, 17)]), ((0, 0, 0), [])]
set_option maxRecDepth 100000 in
theorem yt368 : (ychk xFk yM 4 226 368 (yM 368) 0 itiJS_charAt yv368 && itiJS_charAt.all (fun r => !Nat.beq r.1 32 || Nat.blt r.2.1 423)) = true := by decide +kernel
set_option maxRecDepth 100000 in
def yv369 : List ((Nat × Nat × Nat) × List (Nat × Nat)) := [((0, 0, 0), []), ((0, 0, 0), []), ((0, 0, 0), []), ((0, 1053, 43), [(3, 188)]), ((1, 1062, 0), [(3, 190), (3, 191), (0, 18)]), ((0, 0, 0), []), ((0, 0, 0), [])]
set_option maxRecDepth 100000 in
theorem yt369 : (ychk xFk yM 4 226 369 (yM 369) 0 itiJS_checkBoundsBeginEnd yv369 && itiJS_checkBoundsBeginEnd.all (fun r => !Nat.beq r.1 32 || Nat.blt r.2.1 423)) = true := by decide +kernel
set_option maxRecDepth 100000 in
def yv370 : List ((Nat × Nat × Nat) × List (Nat × Nat)) := [((0, 0, 0), []), ((0, 0, 0), []), ((0, 0, 0), []), ((0, 1053, 43), [(3, 188)]), ((1, 1065, 0), [(4, 192), (4, 193), (0, 18)]), ((0, 0, 0), [])]
set_option maxRecDepth 100000 in
theorem yt370 : (ychk xFk yM 4 226 370 (yM 370) 0 itiJS_checkBoundsOffCount yv370 && itiJS_checkBoundsOffCount.all (fun r => !Nat.beq r.1 32 || Nat.blt r.2.1 423)) = true := by decide +kernel
set_option maxRecDepth 100000 in
def yv371 : List ((Nat × Nat × Nat) × List (Nat × Nat)) := [((0, 0, 0), []), ((0, 0, 0), []), ((0, 1053, 43), [(3, 188)]), ((1, 1059, 0), [(4, 0), (4, 1), (0, 18)]), ((0, 0, 0), []), ((0, 0, 0), [])]
set_option maxRecDepth 100000 in
theorem yt371 : (ychk xFk yM 4 226 371 (yM 371) 0 itiJS_checkIndex yv371 && itiJS_checkIndex.all (fun r => !Nat.beq r.1 32 || Nat.blt r.2.1 423)) = true := by decide +kernel
set_option maxRecDepth 100000 in
def yv372 : List ((Nat × Nat × Nat) × List (Nat × Nat)) := [((4, 38, 42), [(3, 149)]), ((0, 0, 0), []), ((0, 0, 0), []), ((0, 15, 0), [(5, 8)]), ((0, 0, 0), []), ((0, 0, 0), []), ((0, 0, 0), [])]
set_option maxRecDepth 100000 in
theorem yt372 : (ychk xFk yM 4 226 372 (yM 372) 0 itiJS_coder yv372 && itiJS_coder.all (fun r => !Nat.beq r.1 32 || Nat.blt r.2.1 423)) = true := by decide +kernel
set_option maxRecDepth 100000 in
def yv373 : List ((Nat × Nat × Nat) × List (Nat × Nat)) := [((0, 0, 0), []), ((0, 335, 0), [(3, 155), (3, 156), (3, 157), (0, 15)]), ((0, 0, 0), []), ((0, 0, 0), []), ((0, 0, 0), []), ((0, 9, 0), [(5, 7)]), ((0, 0, 0), []), ((0, 0, 0), []), ((0, 0, 0), []), ((0, 0, 0), []), ((0, 0, 0), []), ((0, 0, 0), []), ((0, 9, 0), [(5, 7)]), ((0, 0, 0), []), ((0, 212, 0), [(5, 218), (4, 167), (4, 166), (0, 25)]), ((0, 0, 0), []), ((0, 0, 0), []), ((0, 9, 0), [(5, 7)]), ((0, 0, 0), []), ((0, 0, 0), []), ((0, 0, 0), []), ((0, 0, 0), []), ((0, 9, 0), [(5, 7)]), ((0, 0, 0), []), ((1, 106, 0), [(5, 219), (4, 181), (0, 16)]), ((0, 0, 0), [])]
set_option maxRecDepth 100000 in
theorem yt373 : (ychk xFk yM 4 226 373 (yM 373) 0 itiJS_getBytes yv373 && itiJS_getBytes.all (fun r => !Nat.beq r.1 32 || Nat.blt r.2.1 423)) = true := by decide +kernel
set_option maxRecDepth 100000 in
def yv374 : List ((Nat × Nat × Nat) × List (Nat × Nat)) := [((0, 0, 0), []), ((0, 0, 0), []), ((0, 0, 0), []), ((0, 633, 0), [(3, 141), (3, 142), (3, 143), (0, 15)]), ((0, 0, 0), [])]
set_option maxRecDepth 100000 in
theorem yt374 : (ychk xFk yM 4 226 374 (yM 374) 0 itiJS_indexOf1 yv374 && itiJS_indexOf1.all (fun r => !Nat.beq r.1 32 || Nat.blt r.2.1 423)) = true := by decide +kernel
set_option maxRecDepth 100000 in
def yv375 : List ((Nat × Nat × Nat) × List (Nat × Nat)) := [((0, 0, 0), []), ((0, 492, 0), [(3, 145), (3, 146), (3, 147), (0, 15)]), ((0, 0, 0), []), ((0, 0, 0), []), ((0, 9, 0), [(5, 7)]), ((0, 0, 0), []), ((0, 0, 0), []), ((0, 0, 0), []), ((0, 505, 0), [(3, 151), (3, 152), (3, 153), (0, 15)]), ((1, 637, 0), [(3, 159), (3, 160), (0, 16)]), ((0, 0, 0), []), ((0, 0, 0), []), ((0, 9, 0), [(5, 7)]), ((0, 0, 0), []), ((0, 0, 0), []), ((0, 0, 0), []), ((0, 505, 0), [(3, 151), (3, 152), (3, 153), (0, 15)]), ((1, 640, 0), [(3, 170), (3, 171), (0, 17)]), ((0, 0, 0), [])]
set_option maxRecDepth 100000 in
theorem yt375 : (ychk xFk yM 4 226 375 (yM 375) 0 itiJS_indexOf2 yv375 && itiJS_indexOf2.all (fun r => !Nat.beq r.1 32 || Nat.blt r.2.1 423)) = true := by decide +kernel
set_option maxRecDepth 100000 in
def yv376 : List ((Nat × Nat × Nat) × List (Nat × Nat)) := [((4, 38, 42), [(3, 149)]), ((0, 0, 0), []), ((0, 0, 0), []), ((0, 15, 0), [(5, 8)]), ((0, 0, 0), []), ((0, 0, 0), []), ((0, 0, 0), []), ((0, 0, 0), []), ((0, 0, 0), [])]
set_option maxRecDepth 100000 in
theorem yt376 : (ychk xFk yM 4 226 376 (yM 376) 0 itiJS_isLatin1 yv376 && itiJS_isLatin1.all (fun r => !Nat.beq r.1 32 || Nat.blt r.2.1 423)) = true := by decide +kernel
set_option maxRecDepth 100000 in
def yv377 : List ((Nat × Nat × Nat) × List (Nat × Nat)) := [((0, 0, 0), []), ((0, 9, 0), [(5, 7)]), ((0, 0, 0), []), ((0, 0, 0), []), ((0, 335, 0), [(3, 155), (3, 156), (3, 157), (0, 15)]), ((0, 0, 0), []), ((0, 0, 0), [])]
set_option maxRecDepth 100000 in
theorem yt377 : (ychk xFk yM 4 226 377 (yM 377) 0 itiJS_length yv377 && itiJS_length.all (fun r => !Nat.beq r.1 32 || Nat.blt r.2.1 423)) = true := by decide +kernel
set_option maxRecDepth 100000 in
def yv378 : List ((Nat × Nat × Nat) × List (Nat × Nat)) := [((0, 0, 0), []), ((1, 0, 0), []), ((2, 1, 0), [(4, 105), (4, 106), (0, 22)]), ((0, 0, 0), [])]
set_option maxRecDepth 100000 in
theorem yt378 : (ychk xFk yM 4 226 378 (yM 378) 0 itiJB_init yv378 && itiJB_init.all (fun r => !Nat.beq r.1 32 || Nat.blt r.2.1 423)) = true := by decide +kernel
set_option maxRecDepth 100000 in
def yv379 : List ((Nat × Nat × Nat) × List (Nat × Nat)) := [((0, 0, 0), []), ((0, 0, 0), []), ((5, 50, 0), [(4, 134), (11, 176), (4, 129), (4, 135), (0, 22)]), ((0, 0, 0), []), ((0, 0, 0), []), ((0, 0, 0), [])]
set_option maxRecDepth 100000 in
theorem yt379 : (ychk xFk yM 4 226 379 (yM 379) 0 itiJB_append1 yv379 && itiJB_append1.all (fun r => !Nat.beq r.1 32 || Nat.blt r.2.1 423)) = true := by decide +kernel
set_option maxRecDepth 100000 in
def yv380 : List ((Nat × Nat × Nat) × List (Nat × Nat)) := [((0, 0, 0), []), ((0, 0, 0), []), ((5, 53, 0), [(5, 229), (11, 186), (4, 129), (5, 230), (0, 22)]), ((0, 0, 0), []), ((0, 0, 0), []), ((0, 0, 0), [])]
set_option maxRecDepth 100000 in
theorem yt380 : (ychk xFk yM 4 226 380 (yM 380) 0 itiJB_append2 yv380 && itiJB_append2.all (fun r => !Nat.beq r.1 32 || Nat.blt r.2.1 423)) = true := by decide +kernel
set_option maxRecDepth 100000 in
def yv381 : List ((Nat × Nat × Nat) × List (Nat × Nat)) := [((0, 0, 0), []), ((0, 0, 0), []), ((5, 29, 0), [(5, 194), (11, 182), (4, 129), (5, 195), (0, 22)]), ((0, 0, 0), []), ((0, 0, 0), []), ((0, 0, 0), [])]
set_option maxRecDepth 100000 in
theorem yt381 : (ychk xFk yM 4 226 381 (yM 381) 0 itiJB_append3 yv381 && itiJB_append3.all (fun r => !Nat.beq r.1 32 || Nat.blt r.2.1 423)) = true := by decide +kernel
set_option maxRecDepth 100000 in
def yv382 : List ((Nat × Nat × Nat) × List (Nat × Nat)) := [((0, 0, 0), []), ((0, 0, 0), []), ((5, 329, 0), [(5, 181), (11, 181), (4, 129), (5, 182), (0, 22)]), ((0, 0, 0), [])]
set_option maxRecDepth 100000 in
theorem yt382 : (ychk xFk yM 4 226 382 (yM 382) 0 itiJB_charAt yv382 && itiJB_charAt.all (fun r => !Nat.beq r.1 32 || Nat.blt r.2.1 423)) = true := by decide +kernel
set_option maxRecDepth 100000 in
def yv383 : List ((Nat × Nat × Nat) × List (Nat × Nat)) := [((0, 0, 0), []), ((5, 343, 0), [(4, 225), (4, 221), (4, 129), (4, 220), (0, 22)]), ((0, 0, 0), [])]
set_option maxRecDepth 100000 in
theorem yt383 : (ychk xFk yM 4 226 383 (yM 383) 0 itiJB_length yv383 && itiJB_length.all (fun r => !Nat.beq r.1 32 || Nat.blt r.2.1 423)) = true := by decide +kernel

/-! equations, written by a program (wip/whole/gen) -/
set_option maxRecDepth 20000 in
theorem qM_writesSign_0 (a1 : Int) (σ : xS) : X iM_writesSign 0 [(2, 305), (0, a1)] [] σ =
  if xin (σ.1 305 92) 1400 then some ((9, 0), (xs (xs (xs σ 370 (σ.1 305 92).toNat (xna 2 (xna 2 a1))) 305 92 (xw ((σ.1 305 92) + 1))) 305 93 0))
  else none :=
  xev_eq (E := xE1) (F := xFk) (P := xPg) (inl := []) (stop := []) 19 iM_writesSign 0 [(2, 305), (0, a1)] [] σ
set_option maxRecDepth 20000 in
theorem qM_writesWord_0 (a1 : Int) (σ : xS) : X iM_writesWord 0 [(2, 305), (1, a1), (8, 0), (9, 0), (9, 0)] [] σ =
  if (xna 4 (σ.1 305 93)) = 0 then X iM_writesWord 6 [(2, 305), (1, a1), (8, 0), (1, 1), (8, 0)] [] (xs σ 305 93 1)
  else if xin (σ.1 305 92) 1400 then X iM_writesWord 6 [(2, 305), (1, a1), (8, 0), (1, 1), (8, 0)] [] (xs (xs (xs (xs σ 370 (σ.1 305 92).toNat 32) 305 92 (xw ((σ.1 305 92) + 1))) 305 93 0) 305 93 1)
  else none :=
  xev_eq (E := xE1) (F := xFk) (P := xPg) (inl := [95, 96]) (stop := [6, 25]) 33 iM_writesWord 0 [(2, 305), (1, a1), (8, 0), (9, 0), (9, 0)] [] σ
set_option maxRecDepth 20000 in
theorem qM_writesWord_6 (v1 v3 : Int) (σ : xS) : X iM_writesWord 6 [(2, 305), (1, v1), (8, 0), (1, v3), (8, 0)] [] σ =
  if v3 = 0 then none
  else if (xW (Int.tdiv v1 v3)) < 27 then X iM_writesWord 25 [(2, 305), (1, v1), (8, 0), (1, v3), (8, 0)] [] σ
  else X iM_writesWord 6 [(2, 305), (1, v1), (8, 0), (1, (xW (v3 * 27))), (8, 0)] [] σ :=
  xev_eq (E := xE1) (F := xFk) (P := xPg) (inl := [95, 96]) (stop := [6, 25]) 12 iM_writesWord 6 [(2, 305), (1, v1), (8, 0), (1, v3), (8, 0)] [] σ
set_option maxRecDepth 20000 in
theorem qM_writesWord_25 (v1 v3 : Int) (σ : xS) : X iM_writesWord 25 [(2, 305), (1, v1), (8, 0), (1, v3), (8, 0)] [] σ =
  if 0 < v3 then (if v3 = 0 then none
    else if xin (σ.1 305 92) 1400 then X iM_writesWord 25 [(2, 305), (1, v1), (8, 0), (1, (xW (Int.tdiv v3 27))), (8, 0)] [] (xs (xs σ 370 (σ.1 305 92).toNat (xna 2 (xna 2 (xw (96 + (xw (Int.tmod (xW (Int.tdiv v1 v3)) 27))))))) 305 92 (xw ((σ.1 305 92) + 1)))
    else none)
  else some ((9, 0), σ) :=
  xev_eq (E := xE1) (F := xFk) (P := xPg) (inl := [95, 96]) (stop := [6, 25]) 30 iM_writesWord 25 [(2, 305), (1, v1), (8, 0), (1, v3), (8, 0)] [] σ
set_option maxRecDepth 20000 in
theorem qM_writesNumber_0 (a1 : Int) (σ : xS) : X iM_writesNumber 0 [(2, 305), (1, a1), (8, 0), (9, 0), (9, 0)] [] σ =
  if (xna 4 (σ.1 305 93)) = 0 then X iM_writesNumber 6 [(2, 305), (1, a1), (8, 0), (1, 1), (8, 0)] [] (xs σ 305 93 1)
  else if xin (σ.1 305 92) 1400 then X iM_writesNumber 6 [(2, 305), (1, a1), (8, 0), (1, 1), (8, 0)] [] (xs (xs (xs (xs σ 370 (σ.1 305 92).toNat 32) 305 92 (xw ((σ.1 305 92) + 1))) 305 93 0) 305 93 1)
  else none :=
  xev_eq (E := xE1) (F := xFk) (P := xPg) (inl := [95, 96]) (stop := [6, 25]) 33 iM_writesNumber 0 [(2, 305), (1, a1), (8, 0), (9, 0), (9, 0)] [] σ
set_option maxRecDepth 20000 in
theorem qM_writesNumber_6 (v1 v3 : Int) (σ : xS) : X iM_writesNumber 6 [(2, 305), (1, v1), (8, 0), (1, v3), (8, 0)] [] σ =
  if v3 = 0 then none
  else if (xW (Int.tdiv v1 v3)) < 10 then X iM_writesNumber 25 [(2, 305), (1, v1), (8, 0), (1, v3), (8, 0)] [] σ
  else X iM_writesNumber 6 [(2, 305), (1, v1), (8, 0), (1, (xW (v3 * 10))), (8, 0)] [] σ :=
  xev_eq (E := xE1) (F := xFk) (P := xPg) (inl := [95, 96]) (stop := [6, 25]) 12 iM_writesNumber 6 [(2, 305), (1, v1), (8, 0), (1, v3), (8, 0)] [] σ
set_option maxRecDepth 20000 in
theorem qM_writesNumber_25 (v1 v3 : Int) (σ : xS) : X iM_writesNumber 25 [(2, 305), (1, v1), (8, 0), (1, v3), (8, 0)] [] σ =
  if 0 < v3 then (if v3 = 0 then none
    else if xin (σ.1 305 92) 1400 then X iM_writesNumber 25 [(2, 305), (1, v1), (8, 0), (1, (xW (Int.tdiv v3 10))), (8, 0)] [] (xs (xs σ 370 (σ.1 305 92).toNat (xna 2 (xna 2 (xw (48 + (xw (Int.tmod (xW (Int.tdiv v1 v3)) 10))))))) 305 92 (xw ((σ.1 305 92) + 1)))
    else none)
  else some ((9, 0), σ) :=
  xev_eq (E := xE1) (F := xFk) (P := xPg) (inl := [95, 96]) (stop := [6, 25]) 30 iM_writesNumber 25 [(2, 305), (1, v1), (8, 0), (1, v3), (8, 0)] [] σ
set_option maxRecDepth 20000 in
theorem qM_writesOp_0 (a1 : Int) (σ : xS) : X iM_writesOp 0 [(2, 305), (0, a1)] [] σ =
  if a1 = 2 then (if xin (σ.1 305 92) 1400 then X iM_writesOp 139 [(2, 305), (0, a1)] [] (xs (xs (xs σ 370 (σ.1 305 92).toNat 43) 305 92 (xw ((σ.1 305 92) + 1))) 305 93 0)
    else none)
  else if a1 = 3 then (if xin (σ.1 305 92) 1400 then X iM_writesOp 139 [(2, 305), (0, a1)] [] (xs (xs (xs σ 370 (σ.1 305 92).toNat 45) 305 92 (xw ((σ.1 305 92) + 1))) 305 93 0)
    else none)
  else if a1 = 4 then (if xin (σ.1 305 92) 1400 then X iM_writesOp 139 [(2, 305), (0, a1)] [] (xs (xs (xs σ 370 (σ.1 305 92).toNat 42) 305 92 (xw ((σ.1 305 92) + 1))) 305 93 0)
    else none)
  else if a1 = 5 then (if xin (σ.1 305 92) 1400 then X iM_writesOp 139 [(2, 305), (0, a1)] [] (xs (xs (xs σ 370 (σ.1 305 92).toNat 47) 305 92 (xw ((σ.1 305 92) + 1))) 305 93 0)
    else none)
  else if a1 = 6 then (if xin (σ.1 305 92) 1400 then X iM_writesOp 139 [(2, 305), (0, a1)] [] (xs (xs (xs σ 370 (σ.1 305 92).toNat 37) 305 92 (xw ((σ.1 305 92) + 1))) 305 93 0)
    else none)
  else if a1 = 11 then (if xin (σ.1 305 92) 1400 then X iM_writesOp 139 [(2, 305), (0, a1)] [] (xs (xs (xs σ 370 (σ.1 305 92).toNat 60) 305 92 (xw ((σ.1 305 92) + 1))) 305 93 0)
    else none)
  else if a1 = 12 then (if xin (σ.1 305 92) 1400 then X iM_writesOp 139 [(2, 305), (0, a1)] [] (xs (xs (xs σ 370 (σ.1 305 92).toNat 62) 305 92 (xw ((σ.1 305 92) + 1))) 305 93 0)
    else none)
  else if a1 = 13 then (if xin (σ.1 305 92) 1400 then X iM_writesOp 139 [(2, 305), (0, a1)] [] (xs (xs (xs σ 370 (σ.1 305 92).toNat 61) 305 92 (xw ((σ.1 305 92) + 1))) 305 93 0)
    else none)
  else if a1 = 15 then ((X iM_writesWord 0 [(2, 305), (1, 1111), (8, 0), (9, 0), (9, 0)] [] σ).bind fun q1 => X iM_writesOp 129 [(2, 305), (0, a1)] [] q1.2)
  else (X iM_writesWord 0 [(2, 305), (1, 423), (8, 0), (9, 0), (9, 0)] [] σ).bind fun q2 => X iM_writesOp 139 [(2, 305), (0, a1)] [] q2.2 :=
  xev_eq (E := xE1) (F := xFk) (P := xPg) (inl := [95]) (stop := [129, 139]) 47 iM_writesOp 0 [(2, 305), (0, a1)] [] σ
set_option maxRecDepth 20000 in
theorem qM_writesOp_129 (vw0 vw1 : xAV) (σ : xS) : X iM_writesOp 129 [vw0, vw1] [] σ =
  X iM_writesOp 139 [vw0, vw1] [] σ :=
  xev_eq (E := xE1) (F := xFk) (P := xPg) (inl := [95]) (stop := [129, 139]) 3 iM_writesOp 129 [vw0, vw1] [] σ
set_option maxRecDepth 20000 in
theorem qM_writesOp_139 (vw0 vw1 : xAV) (σ : xS) : X iM_writesOp 139 [vw0, vw1] [] σ =
  some ((9, 0), σ) :=
  xev_eq (E := xE1) (F := xFk) (P := xPg) (inl := [95]) (stop := [129, 139]) 3 iM_writesOp 139 [vw0, vw1] [] σ
set_option maxRecDepth 20000 in
theorem qM_writesNode_0 (a1 a2 : Int) (σ : xS) : X iM_writesNode 0 [(2, 305), (0, a1), (0, a2), (9, 0), (9, 0), (9, 0)] [] σ =
  (X iM_begins 0 [(2, 305), (0, a2), (0, 0)] [] (xs σ 305 98 0)).bind fun q1 => X iM_writesNode 11 [(2, 305), (0, a1), (0, a2), (9, 0), (9, 0), (9, 0)] [] q1.2 :=
  xev_eq (E := xE1) (F := xFk) (P := xPg) (inl := [95]) (stop := [11, 81, 97, 102, 124, 127, 132, 149, 181, 210, 213, 221, 238, 261, 271, 309, 360, 374, 400, 412, 432, 444, 464, 476, 484, 535, 538, 557, 586, 589, 597]) 9 iM_writesNode 0 [(2, 305), (0, a1), (0, a2), (9, 0), (9, 0), (9, 0)] [] σ
set_option maxRecDepth 20000 in
theorem qM_writesNode_11 (v1 : Int) (vw2 vw3 vw4 vw5 : xAV) (σ : xS) : X iM_writesNode 11 [(2, 305), (0, v1), vw2, vw3, vw4, vw5] [] σ =
  if 0 < (σ.1 305 98) then (if xin (xw ((σ.1 305 98) - 1)) 500 then (if xin (σ.1 371 (xw ((σ.1 305 98) - 1)).toNat) 3300 then (if xin (xw ((σ.1 305 98) - 1)) 500 then (if (σ.1 372 (xw ((σ.1 305 98) - 1)).toNat) = 0 then (if xin (xw ((σ.1 305 98) - 1)) 500 then (if 0 < (σ.1 373 (xw ((σ.1 305 98) - 1)).toNat) then (if xin (xw ((σ.1 305 98) - 1)) 500 then (if (σ.1 373 (xw ((σ.1 305 98) - 1)).toNat) = 1 then (if xin (σ.1 305 92) 1400 then X iM_writesNode 81 [(2, 305), (0, v1), (xkl vw2), (0, (xw ((σ.1 305 98) - 1))), (0, (σ.1 371 (xw ((σ.1 305 98) - 1)).toNat)), (0, (σ.1 351 (σ.1 371 (xw ((σ.1 305 98) - 1)).toNat).toNat))] [] (xs (xs (xs σ 370 (σ.1 305 92).toNat 40) 305 92 (xw ((σ.1 305 92) + 1))) 305 93 0)
                    else none)
                  else if xin (σ.1 305 92) 1400 then X iM_writesNode 81 [(2, 305), (0, v1), (xkl vw2), (0, (xw ((σ.1 305 98) - 1))), (0, (σ.1 371 (xw ((σ.1 305 98) - 1)).toNat)), (0, (σ.1 351 (σ.1 371 (xw ((σ.1 305 98) - 1)).toNat).toNat))] [] (xs (xs (xs σ 370 (σ.1 305 92).toNat 91) 305 92 (xw ((σ.1 305 92) + 1))) 305 93 0)
                  else none)
                else none)
              else X iM_writesNode 81 [(2, 305), (0, v1), (xkl vw2), (0, (xw ((σ.1 305 98) - 1))), (0, (σ.1 371 (xw ((σ.1 305 98) - 1)).toNat)), (0, (σ.1 351 (σ.1 371 (xw ((σ.1 305 98) - 1)).toNat).toNat))] [] σ)
            else none)
          else X iM_writesNode 81 [(2, 305), (0, v1), (xkl vw2), (0, (xw ((σ.1 305 98) - 1))), (0, (σ.1 371 (xw ((σ.1 305 98) - 1)).toNat)), (0, (σ.1 351 (σ.1 371 (xw ((σ.1 305 98) - 1)).toNat).toNat))] [] σ)
        else none)
      else none)
    else none)
  else some ((9, 0), σ) :=
  xev_eq (E := xE1) (F := xFk) (P := xPg) (inl := [95]) (stop := [11, 81, 97, 102, 124, 127, 132, 149, 181, 210, 213, 221, 238, 261, 271, 309, 360, 374, 400, 412, 432, 444, 464, 476, 484, 535, 538, 557, 586, 589, 597]) 57 iM_writesNode 11 [(2, 305), (0, v1), vw2, vw3, vw4, vw5] [] σ
set_option maxRecDepth 20000 in
theorem qM_writesNode_81 (v1 v3 v4 v5 : Int) (vw2 : xAV) (σ : xS) : X iM_writesNode 81 [(2, 305), (0, v1), vw2, (0, v3), (0, v4), (0, v5)] [] σ =
  if v5 = 0 then (if xin v4 3300 then ((X iM_writesNumber 0 [(2, 305), (1, (σ.1 356 v4.toNat)), (8, 0), (9, 0), (9, 0)] [] σ).bind fun q1 => X iM_writesNode 97 [(2, 305), (0, v1), vw2, (0, v3), (0, v4), (0, v5)] [] q1.2)
    else none)
  else if v5 = 1 then (if xin v4 3300 then ((X iM_wordAt 0 [(2, 305), (0, v1), (0, (σ.1 352 v4.toNat))] [] σ).bind fun q2 => X iM_writesNode 124 [(2, 305), (0, v1), vw2, (0, v3), (0, v4), (0, v5)] [q2.1, (2, 305)] q2.2)
    else none)
  else if v5 = 7 then X iM_writesNode 149 [(2, 305), (0, v1), vw2, (0, v3), (0, v4), (0, v5)] [] σ
  else if v5 = 14 then X iM_writesNode 149 [(2, 305), (0, v1), vw2, (0, v3), (0, v4), (0, v5)] [] σ
  else if v5 = 8 then X iM_writesNode 238 [(2, 305), (0, v1), vw2, (0, v3), (0, v4), (0, v5)] [] σ
  else if v5 = 9 then X iM_writesNode 238 [(2, 305), (0, v1), vw2, (0, v3), (0, v4), (0, v5)] [] σ
  else if v5 = 10 then (if xin v3 500 then (if (σ.1 372 v3.toNat) = 0 then ((X iM_writesWord 0 [(2, 305), (1, 249), (8, 0), (9, 0), (9, 0)] [] σ).bind fun q3 => X iM_writesNode 400 [(2, 305), (0, v1), vw2, (0, v3), (0, v4), (0, v5)] [] q3.2)
      else if xin v3 500 then (if (σ.1 372 v3.toNat) = 1 then ((X iM_writesWord 0 [(2, 305), (1, 399641), (8, 0), (9, 0), (9, 0)] [] σ).bind fun q4 => X iM_writesNode 432 [(2, 305), (0, v1), vw2, (0, v3), (0, v4), (0, v5)] [] q4.2)
        else if xin v3 500 then (if (σ.1 372 v3.toNat) = 2 then ((X iM_writesWord 0 [(2, 305), (1, 107681), (8, 0), (9, 0), (9, 0)] [] σ).bind fun q5 => X iM_writesNode 464 [(2, 305), (0, v1), vw2, (0, v3), (0, v4), (0, v5)] [] q5.2)
          else (X iM_closes 0 [(2, 305), (0, v3)] [] σ).bind fun q6 => X iM_writesNode 484 [(2, 305), (0, v1), vw2, (0, v3), (0, v4), (0, v5)] [] q6.2)
        else none)
      else none)
    else none)
  else if xin v3 500 then (if (σ.1 372 v3.toNat) = 0 then (if xin v3 500 then (if xin v4 3300 then (if xin v4 3300 then ((X iM_around 0 [(2, 305), (0, v5), (0, (σ.1 352 v4.toNat)), (0, 0), (9, 0)] [] (xs σ 372 v3.toNat 1)).bind fun q7 => X iM_writesNode 535 [(2, 305), (0, v1), vw2, (0, v3), (0, v4), (0, v5)] [q7.1, (0, (σ.1 352 v4.toNat)), (2, 305)] q7.2)
          else none)
        else none)
      else none)
    else if xin v3 500 then (if (σ.1 372 v3.toNat) = 1 then ((X iM_writesOp 0 [(2, 305), (0, v5)] [] σ).bind fun q8 => X iM_writesNode 557 [(2, 305), (0, v1), vw2, (0, v3), (0, v4), (0, v5)] [] q8.2)
      else (X iM_closes 0 [(2, 305), (0, v3)] [] σ).bind fun q9 => X iM_writesNode 597 [(2, 305), (0, v1), vw2, (0, v3), (0, v4), (0, v5)] [] q9.2)
    else none)
  else none :=
  xev_eq (E := xE1) (F := xFk) (P := xPg) (inl := [95]) (stop := [11, 81, 97, 102, 124, 127, 132, 149, 181, 210, 213, 221, 238, 261, 271, 309, 360, 374, 400, 412, 432, 444, 464, 476, 484, 535, 538, 557, 586, 589, 597]) 45 iM_writesNode 81 [(2, 305), (0, v1), vw2, (0, v3), (0, v4), (0, v5)] [] σ
set_option maxRecDepth 20000 in
theorem qM_writesNode_97 (v1 v3 : Int) (vw2 vw4 vw5 : xAV) (σ : xS) : X iM_writesNode 97 [(2, 305), (0, v1), vw2, (0, v3), vw4, vw5] [] σ =
  (X iM_closes 0 [(2, 305), (0, v3)] [] σ).bind fun q1 => X iM_writesNode 102 [(2, 305), (0, v1), vw2, (0, v3), vw4, vw5] [] q1.2 :=
  xev_eq (E := xE1) (F := xFk) (P := xPg) (inl := [95]) (stop := [11, 81, 97, 102, 124, 127, 132, 149, 181, 210, 213, 221, 238, 261, 271, 309, 360, 374, 400, 412, 432, 444, 464, 476, 484, 535, 538, 557, 586, 589, 597]) 5 iM_writesNode 97 [(2, 305), (0, v1), vw2, (0, v3), vw4, vw5] [] σ
set_option maxRecDepth 20000 in
theorem qM_writesNode_102 (v1 : Int) (vw2 vw3 vw4 vw5 : xAV) (σ : xS) : X iM_writesNode 102 [(2, 305), (0, v1), vw2, vw3, vw4, vw5] [] σ =
  X iM_writesNode 597 [(2, 305), (0, v1), vw2, vw3, vw4, vw5] [] σ :=
  xev_eq (E := xE1) (F := xFk) (P := xPg) (inl := [95]) (stop := [11, 81, 97, 102, 124, 127, 132, 149, 181, 210, 213, 221, 238, 261, 271, 309, 360, 374, 400, 412, 432, 444, 464, 476, 484, 535, 538, 557, 586, 589, 597]) 3 iM_writesNode 102 [(2, 305), (0, v1), vw2, vw3, vw4, vw5] [] σ
set_option maxRecDepth 20000 in
theorem qM_writesNode_124 (v1 v3 t0 : Int) (vw2 vw4 vw5 : xAV) (σ : xS) : X iM_writesNode 124 [(2, 305), (0, v1), vw2, (0, v3), vw4, vw5] [(1, t0), (2, 305)] σ =
  (X iM_writesWord 0 [(2, 305), (1, t0), (8, 0), (9, 0), (9, 0)] [] σ).bind fun q1 => X iM_writesNode 127 [(2, 305), (0, v1), vw2, (0, v3), vw4, vw5] [] q1.2 :=
  xev_eq (E := xE1) (F := xFk) (P := xPg) (inl := [95]) (stop := [11, 81, 97, 102, 124, 127, 132, 149, 181, 210, 213, 221, 238, 261, 271, 309, 360, 374, 400, 412, 432, 444, 464, 476, 484, 535, 538, 557, 586, 589, 597]) 3 iM_writesNode 124 [(2, 305), (0, v1), vw2, (0, v3), vw4, vw5] [(1, t0), (2, 305)] σ
set_option maxRecDepth 20000 in
theorem qM_writesNode_127 (v1 v3 : Int) (vw2 vw4 vw5 : xAV) (σ : xS) : X iM_writesNode 127 [(2, 305), (0, v1), vw2, (0, v3), vw4, vw5] [] σ =
  (X iM_closes 0 [(2, 305), (0, v3)] [] σ).bind fun q1 => X iM_writesNode 132 [(2, 305), (0, v1), vw2, (0, v3), vw4, vw5] [] q1.2 :=
  xev_eq (E := xE1) (F := xFk) (P := xPg) (inl := [95]) (stop := [11, 81, 97, 102, 124, 127, 132, 149, 181, 210, 213, 221, 238, 261, 271, 309, 360, 374, 400, 412, 432, 444, 464, 476, 484, 535, 538, 557, 586, 589, 597]) 5 iM_writesNode 127 [(2, 305), (0, v1), vw2, (0, v3), vw4, vw5] [] σ
set_option maxRecDepth 20000 in
theorem qM_writesNode_132 (v1 : Int) (vw2 vw3 vw4 vw5 : xAV) (σ : xS) : X iM_writesNode 132 [(2, 305), (0, v1), vw2, vw3, vw4, vw5] [] σ =
  X iM_writesNode 597 [(2, 305), (0, v1), vw2, vw3, vw4, vw5] [] σ :=
  xev_eq (E := xE1) (F := xFk) (P := xPg) (inl := [95]) (stop := [11, 81, 97, 102, 124, 127, 132, 149, 181, 210, 213, 221, 238, 261, 271, 309, 360, 374, 400, 412, 432, 444, 464, 476, 484, 535, 538, 557, 586, 589, 597]) 3 iM_writesNode 132 [(2, 305), (0, v1), vw2, vw3, vw4, vw5] [] σ
set_option maxRecDepth 20000 in
theorem qM_writesNode_149 (v1 v3 v4 v5 : Int) (vw2 : xAV) (σ : xS) : X iM_writesNode 149 [(2, 305), (0, v1), vw2, (0, v3), (0, v4), (0, v5)] [] σ =
  if xin v3 500 then (if (σ.1 372 v3.toNat) = 0 then (if v5 = 7 then (if xin (σ.1 305 92) 1400 then X iM_writesNode 181 [(2, 305), (0, v1), vw2, (0, v3), (0, v4), (0, v5)] [] (xs (xs (xs σ 370 (σ.1 305 92).toNat 45) 305 92 (xw ((σ.1 305 92) + 1))) 305 93 0)
        else none)
      else (X iM_writesWord 0 [(2, 305), (1, 10631), (8, 0), (9, 0), (9, 0)] [] σ).bind fun q1 => X iM_writesNode 181 [(2, 305), (0, v1), vw2, (0, v3), (0, v4), (0, v5)] [] q1.2)
    else (X iM_closes 0 [(2, 305), (0, v3)] [] σ).bind fun q2 => X iM_writesNode 221 [(2, 305), (0, v1), vw2, (0, v3), (0, v4), (0, v5)] [] q2.2)
  else none :=
  xev_eq (E := xE1) (F := xFk) (P := xPg) (inl := [95]) (stop := [11, 81, 97, 102, 124, 127, 132, 149, 181, 210, 213, 221, 238, 261, 271, 309, 360, 374, 400, 412, 432, 444, 464, 476, 484, 535, 538, 557, 586, 589, 597]) 31 iM_writesNode 149 [(2, 305), (0, v1), vw2, (0, v3), (0, v4), (0, v5)] [] σ
set_option maxRecDepth 20000 in
theorem qM_writesNode_181 (v1 v3 v4 v5 : Int) (vw2 : xAV) (σ : xS) : X iM_writesNode 181 [(2, 305), (0, v1), vw2, (0, v3), (0, v4), (0, v5)] [] σ =
  if xin v3 500 then (if xin v4 3300 then (if xin v4 3300 then ((X iM_around 0 [(2, 305), (0, v5), (0, (σ.1 352 v4.toNat)), (0, 0), (9, 0)] [] (xs σ 372 v3.toNat 1)).bind fun q1 => X iM_writesNode 210 [(2, 305), (0, v1), vw2, (0, v3), (0, v4), (0, v5)] [q1.1, (0, (σ.1 352 v4.toNat)), (2, 305)] q1.2)
      else none)
    else none)
  else none :=
  xev_eq (E := xE1) (F := xFk) (P := xPg) (inl := [95]) (stop := [11, 81, 97, 102, 124, 127, 132, 149, 181, 210, 213, 221, 238, 261, 271, 309, 360, 374, 400, 412, 432, 444, 464, 476, 484, 535, 538, 557, 586, 589, 597]) 20 iM_writesNode 181 [(2, 305), (0, v1), vw2, (0, v3), (0, v4), (0, v5)] [] σ
set_option maxRecDepth 20000 in
theorem qM_writesNode_210 (v1 t0 t1 : Int) (vw2 vw3 vw4 vw5 : xAV) (σ : xS) : X iM_writesNode 210 [(2, 305), (0, v1), vw2, vw3, vw4, vw5] [(0, t0), (0, t1), (2, 305)] σ =
  (X iM_begins 0 [(2, 305), (0, t1), (0, t0)] [] σ).bind fun q1 => X iM_writesNode 213 [(2, 305), (0, v1), vw2, vw3, vw4, vw5] [] q1.2 :=
  xev_eq (E := xE1) (F := xFk) (P := xPg) (inl := [95]) (stop := [11, 81, 97, 102, 124, 127, 132, 149, 181, 210, 213, 221, 238, 261, 271, 309, 360, 374, 400, 412, 432, 444, 464, 476, 484, 535, 538, 557, 586, 589, 597]) 3 iM_writesNode 210 [(2, 305), (0, v1), vw2, vw3, vw4, vw5] [(0, t0), (0, t1), (2, 305)] σ
set_option maxRecDepth 20000 in
theorem qM_writesNode_213 (v1 : Int) (vw2 vw3 vw4 vw5 : xAV) (σ : xS) : X iM_writesNode 213 [(2, 305), (0, v1), vw2, vw3, vw4, vw5] [] σ =
  X iM_writesNode 597 [(2, 305), (0, v1), vw2, vw3, vw4, vw5] [] σ :=
  xev_eq (E := xE1) (F := xFk) (P := xPg) (inl := [95]) (stop := [11, 81, 97, 102, 124, 127, 132, 149, 181, 210, 213, 221, 238, 261, 271, 309, 360, 374, 400, 412, 432, 444, 464, 476, 484, 535, 538, 557, 586, 589, 597]) 3 iM_writesNode 213 [(2, 305), (0, v1), vw2, vw3, vw4, vw5] [] σ
set_option maxRecDepth 20000 in
theorem qM_writesNode_221 (v1 : Int) (vw2 vw3 vw4 vw5 : xAV) (σ : xS) : X iM_writesNode 221 [(2, 305), (0, v1), vw2, vw3, vw4, vw5] [] σ =
  X iM_writesNode 597 [(2, 305), (0, v1), vw2, vw3, vw4, vw5] [] σ :=
  xev_eq (E := xE1) (F := xFk) (P := xPg) (inl := [95]) (stop := [11, 81, 97, 102, 124, 127, 132, 149, 181, 210, 213, 221, 238, 261, 271, 309, 360, 374, 400, 412, 432, 444, 464, 476, 484, 535, 538, 557, 586, 589, 597]) 3 iM_writesNode 221 [(2, 305), (0, v1), vw2, vw3, vw4, vw5] [] σ
set_option maxRecDepth 20000 in
theorem qM_writesNode_238 (v1 v3 v4 v5 : Int) (vw2 : xAV) (σ : xS) : X iM_writesNode 238 [(2, 305), (0, v1), vw2, (0, v3), (0, v4), (0, v5)] [] σ =
  if xin v3 500 then (if (σ.1 372 v3.toNat) = 0 then (if v5 = 8 then ((X iM_writesWord 0 [(2, 305), (1, 9734), (8, 0), (9, 0), (9, 0)] [] σ).bind fun q1 => X iM_writesNode 261 [(2, 305), (0, v1), vw2, (0, v3), (0, v4), (0, v5)] [] q1.2)
      else (X iM_writesWord 0 [(2, 305), (1, 9528), (8, 0), (9, 0), (9, 0)] [] σ).bind fun q2 => X iM_writesNode 271 [(2, 305), (0, v1), vw2, (0, v3), (0, v4), (0, v5)] [] q2.2)
    else if xin v3 500 then (if xin (σ.1 374 v3.toNat) 3300 then (if (σ.1 355 (σ.1 374 v3.toNat).toNat) < 0 then (if xin (σ.1 305 92) 1400 then ((X iM_closes 0 [(2, 305), (0, v3)] [] (xs (xs (xs σ 370 (σ.1 305 92).toNat 41) 305 92 (xw ((σ.1 305 92) + 1))) 305 93 0)).bind fun q3 => X iM_writesNode 374 [(2, 305), (0, v1), vw2, (0, v3), (0, v4), (0, v5)] [] q3.2)
          else none)
        else if xin (σ.1 305 92) 1400 then (if xin v3 500 then (if xin (σ.1 374 v3.toNat) 3300 then (if xin v3 500 then (if xin v3 500 then ((X iM_begins 0 [(2, 305), (0, ((xs (xs (xs (xs σ 370 (σ.1 305 92).toNat 44) 305 92 (xw ((σ.1 305 92) + 1))) 305 93 0) 374 v3.toNat (σ.1 355 (σ.1 374 v3.toNat).toNat)).1 374 v3.toNat)), (0, 0)] [] (xs (xs (xs (xs σ 370 (σ.1 305 92).toNat 44) 305 92 (xw ((σ.1 305 92) + 1))) 305 93 0) 374 v3.toNat (σ.1 355 (σ.1 374 v3.toNat).toNat))).bind fun q4 => X iM_writesNode 360 [(2, 305), (0, v1), vw2, (0, v3), (0, v4), (0, v5)] [] q4.2)
                else none)
              else none)
            else none)
          else none)
        else none)
      else none)
    else none)
  else none :=
  xev_eq (E := xE1) (F := xFk) (P := xPg) (inl := [95]) (stop := [11, 81, 97, 102, 124, 127, 132, 149, 181, 210, 213, 221, 238, 261, 271, 309, 360, 374, 400, 412, 432, 444, 464, 476, 484, 535, 538, 557, 586, 589, 597]) 53 iM_writesNode 238 [(2, 305), (0, v1), vw2, (0, v3), (0, v4), (0, v5)] [] σ
set_option maxRecDepth 20000 in
theorem qM_writesNode_261 (v1 v3 v4 : Int) (vw2 vw5 : xAV) (σ : xS) : X iM_writesNode 261 [(2, 305), (0, v1), vw2, (0, v3), (0, v4), vw5] [] σ =
  X iM_writesNode 271 [(2, 305), (0, v1), vw2, (0, v3), (0, v4), vw5] [] σ :=
  xev_eq (E := xE1) (F := xFk) (P := xPg) (inl := [95]) (stop := [11, 81, 97, 102, 124, 127, 132, 149, 181, 210, 213, 221, 238, 261, 271, 309, 360, 374, 400, 412, 432, 444, 464, 476, 484, 535, 538, 557, 586, 589, 597]) 3 iM_writesNode 261 [(2, 305), (0, v1), vw2, (0, v3), (0, v4), vw5] [] σ
set_option maxRecDepth 20000 in
theorem qM_writesNode_271 (v1 v3 v4 : Int) (vw2 vw5 : xAV) (σ : xS) : X iM_writesNode 271 [(2, 305), (0, v1), vw2, (0, v3), (0, v4), vw5] [] σ =
  if xin (σ.1 305 92) 1400 then (if xin v3 500 then (if xin v4 3300 then (if xin v3 500 then (if xin v4 3300 then ((X iM_begins 0 [(2, 305), (0, (σ.1 352 v4.toNat)), (0, 0)] [] (xs (xs (xs (xs (xs σ 370 (σ.1 305 92).toNat 40) 305 92 (xw ((σ.1 305 92) + 1))) 305 93 0) 372 v3.toNat 1) 374 v3.toNat (σ.1 352 v4.toNat))).bind fun q1 => X iM_writesNode 309 [(2, 305), (0, v1), vw2, (0, v3), (0, v4), vw5] [] q1.2)
          else none)
        else none)
      else none)
    else none)
  else none :=
  xev_eq (E := xE1) (F := xFk) (P := xPg) (inl := [95]) (stop := [11, 81, 97, 102, 124, 127, 132, 149, 181, 210, 213, 221, 238, 261, 271, 309, 360, 374, 400, 412, 432, 444, 464, 476, 484, 535, 538, 557, 586, 589, 597]) 42 iM_writesNode 271 [(2, 305), (0, v1), vw2, (0, v3), (0, v4), vw5] [] σ
set_option maxRecDepth 20000 in
theorem qM_writesNode_309 (v1 : Int) (vw2 vw3 vw4 vw5 : xAV) (σ : xS) : X iM_writesNode 309 [(2, 305), (0, v1), vw2, vw3, vw4, vw5] [] σ =
  X iM_writesNode 597 [(2, 305), (0, v1), vw2, vw3, vw4, vw5] [] σ :=
  xev_eq (E := xE1) (F := xFk) (P := xPg) (inl := [95]) (stop := [11, 81, 97, 102, 124, 127, 132, 149, 181, 210, 213, 221, 238, 261, 271, 309, 360, 374, 400, 412, 432, 444, 464, 476, 484, 535, 538, 557, 586, 589, 597]) 3 iM_writesNode 309 [(2, 305), (0, v1), vw2, vw3, vw4, vw5] [] σ
set_option maxRecDepth 20000 in
theorem qM_writesNode_360 (v1 : Int) (vw2 vw3 vw4 vw5 : xAV) (σ : xS) : X iM_writesNode 360 [(2, 305), (0, v1), vw2, vw3, vw4, vw5] [] σ =
  X iM_writesNode 597 [(2, 305), (0, v1), vw2, vw3, vw4, vw5] [] σ :=
  xev_eq (E := xE1) (F := xFk) (P := xPg) (inl := [95]) (stop := [11, 81, 97, 102, 124, 127, 132, 149, 181, 210, 213, 221, 238, 261, 271, 309, 360, 374, 400, 412, 432, 444, 464, 476, 484, 535, 538, 557, 586, 589, 597]) 3 iM_writesNode 360 [(2, 305), (0, v1), vw2, vw3, vw4, vw5] [] σ
set_option maxRecDepth 20000 in
theorem qM_writesNode_374 (v1 : Int) (vw2 vw3 vw4 vw5 : xAV) (σ : xS) : X iM_writesNode 374 [(2, 305), (0, v1), vw2, vw3, vw4, vw5] [] σ =
  X iM_writesNode 597 [(2, 305), (0, v1), vw2, vw3, vw4, vw5] [] σ :=
  xev_eq (E := xE1) (F := xFk) (P := xPg) (inl := [95]) (stop := [11, 81, 97, 102, 124, 127, 132, 149, 181, 210, 213, 221, 238, 261, 271, 309, 360, 374, 400, 412, 432, 444, 464, 476, 484, 535, 538, 557, 586, 589, 597]) 3 iM_writesNode 374 [(2, 305), (0, v1), vw2, vw3, vw4, vw5] [] σ
set_option maxRecDepth 20000 in
theorem qM_writesNode_400 (v1 v3 v4 : Int) (vw2 vw5 : xAV) (σ : xS) : X iM_writesNode 400 [(2, 305), (0, v1), vw2, (0, v3), (0, v4), vw5] [] σ =
  if xin v4 3300 then ((X iM_begins 0 [(2, 305), (0, (σ.1 352 v4.toNat)), (0, 0)] [] σ).bind fun q1 => X iM_writesNode 412 [(2, 305), (0, v1), vw2, (0, v3), (0, v4), vw5] [] q1.2)
  else none :=
  xev_eq (E := xE1) (F := xFk) (P := xPg) (inl := [95]) (stop := [11, 81, 97, 102, 124, 127, 132, 149, 181, 210, 213, 221, 238, 261, 271, 309, 360, 374, 400, 412, 432, 444, 464, 476, 484, 535, 538, 557, 586, 589, 597]) 9 iM_writesNode 400 [(2, 305), (0, v1), vw2, (0, v3), (0, v4), vw5] [] σ
set_option maxRecDepth 20000 in
theorem qM_writesNode_412 (v1 v3 : Int) (vw2 vw4 vw5 : xAV) (σ : xS) : X iM_writesNode 412 [(2, 305), (0, v1), vw2, (0, v3), vw4, vw5] [] σ =
  X iM_writesNode 484 [(2, 305), (0, v1), vw2, (0, v3), vw4, vw5] [] σ :=
  xev_eq (E := xE1) (F := xFk) (P := xPg) (inl := [95]) (stop := [11, 81, 97, 102, 124, 127, 132, 149, 181, 210, 213, 221, 238, 261, 271, 309, 360, 374, 400, 412, 432, 444, 464, 476, 484, 535, 538, 557, 586, 589, 597]) 3 iM_writesNode 412 [(2, 305), (0, v1), vw2, (0, v3), vw4, vw5] [] σ
set_option maxRecDepth 20000 in
theorem qM_writesNode_432 (v1 v3 v4 : Int) (vw2 vw5 : xAV) (σ : xS) : X iM_writesNode 432 [(2, 305), (0, v1), vw2, (0, v3), (0, v4), vw5] [] σ =
  if xin v4 3300 then ((X iM_begins 0 [(2, 305), (0, (σ.1 353 v4.toNat)), (0, 0)] [] σ).bind fun q1 => X iM_writesNode 444 [(2, 305), (0, v1), vw2, (0, v3), (0, v4), vw5] [] q1.2)
  else none :=
  xev_eq (E := xE1) (F := xFk) (P := xPg) (inl := [95]) (stop := [11, 81, 97, 102, 124, 127, 132, 149, 181, 210, 213, 221, 238, 261, 271, 309, 360, 374, 400, 412, 432, 444, 464, 476, 484, 535, 538, 557, 586, 589, 597]) 9 iM_writesNode 432 [(2, 305), (0, v1), vw2, (0, v3), (0, v4), vw5] [] σ
set_option maxRecDepth 20000 in
theorem qM_writesNode_444 (v1 v3 : Int) (vw2 vw4 vw5 : xAV) (σ : xS) : X iM_writesNode 444 [(2, 305), (0, v1), vw2, (0, v3), vw4, vw5] [] σ =
  X iM_writesNode 484 [(2, 305), (0, v1), vw2, (0, v3), vw4, vw5] [] σ :=
  xev_eq (E := xE1) (F := xFk) (P := xPg) (inl := [95]) (stop := [11, 81, 97, 102, 124, 127, 132, 149, 181, 210, 213, 221, 238, 261, 271, 309, 360, 374, 400, 412, 432, 444, 464, 476, 484, 535, 538, 557, 586, 589, 597]) 3 iM_writesNode 444 [(2, 305), (0, v1), vw2, (0, v3), vw4, vw5] [] σ
set_option maxRecDepth 20000 in
theorem qM_writesNode_464 (v1 v3 v4 : Int) (vw2 vw5 : xAV) (σ : xS) : X iM_writesNode 464 [(2, 305), (0, v1), vw2, (0, v3), (0, v4), vw5] [] σ =
  if xin v4 3300 then ((X iM_begins 0 [(2, 305), (0, (σ.1 354 v4.toNat)), (0, 0)] [] σ).bind fun q1 => X iM_writesNode 476 [(2, 305), (0, v1), vw2, (0, v3), (0, v4), vw5] [] q1.2)
  else none :=
  xev_eq (E := xE1) (F := xFk) (P := xPg) (inl := [95]) (stop := [11, 81, 97, 102, 124, 127, 132, 149, 181, 210, 213, 221, 238, 261, 271, 309, 360, 374, 400, 412, 432, 444, 464, 476, 484, 535, 538, 557, 586, 589, 597]) 9 iM_writesNode 464 [(2, 305), (0, v1), vw2, (0, v3), (0, v4), vw5] [] σ
set_option maxRecDepth 20000 in
theorem qM_writesNode_476 (v1 v3 : Int) (vw2 vw4 vw5 : xAV) (σ : xS) : X iM_writesNode 476 [(2, 305), (0, v1), vw2, (0, v3), vw4, vw5] [] σ =
  X iM_writesNode 484 [(2, 305), (0, v1), vw2, (0, v3), vw4, vw5] [] σ :=
  xev_eq (E := xE1) (F := xFk) (P := xPg) (inl := [95]) (stop := [11, 81, 97, 102, 124, 127, 132, 149, 181, 210, 213, 221, 238, 261, 271, 309, 360, 374, 400, 412, 432, 444, 464, 476, 484, 535, 538, 557, 586, 589, 597]) 3 iM_writesNode 476 [(2, 305), (0, v1), vw2, (0, v3), vw4, vw5] [] σ
set_option maxRecDepth 20000 in
theorem qM_writesNode_484 (v1 v3 : Int) (vw2 vw4 vw5 : xAV) (σ : xS) : X iM_writesNode 484 [(2, 305), (0, v1), vw2, (0, v3), vw4, vw5] [] σ =
  if xin v3 500 then (if xin v3 500 then X iM_writesNode 597 [(2, 305), (0, v1), vw2, (0, v3), vw4, vw5] [] (xs σ 372 v3.toNat (xw ((σ.1 372 v3.toNat) + 1)))
    else none)
  else none :=
  xev_eq (E := xE1) (F := xFk) (P := xPg) (inl := [95]) (stop := [11, 81, 97, 102, 124, 127, 132, 149, 181, 210, 213, 221, 238, 261, 271, 309, 360, 374, 400, 412, 432, 444, 464, 476, 484, 535, 538, 557, 586, 589, 597]) 11 iM_writesNode 484 [(2, 305), (0, v1), vw2, (0, v3), vw4, vw5] [] σ
set_option maxRecDepth 20000 in
theorem qM_writesNode_535 (v1 t0 t1 : Int) (vw2 vw3 vw4 vw5 : xAV) (σ : xS) : X iM_writesNode 535 [(2, 305), (0, v1), vw2, vw3, vw4, vw5] [(0, t0), (0, t1), (2, 305)] σ =
  (X iM_begins 0 [(2, 305), (0, t1), (0, t0)] [] σ).bind fun q1 => X iM_writesNode 538 [(2, 305), (0, v1), vw2, vw3, vw4, vw5] [] q1.2 :=
  xev_eq (E := xE1) (F := xFk) (P := xPg) (inl := [95]) (stop := [11, 81, 97, 102, 124, 127, 132, 149, 181, 210, 213, 221, 238, 261, 271, 309, 360, 374, 400, 412, 432, 444, 464, 476, 484, 535, 538, 557, 586, 589, 597]) 3 iM_writesNode 535 [(2, 305), (0, v1), vw2, vw3, vw4, vw5] [(0, t0), (0, t1), (2, 305)] σ
set_option maxRecDepth 20000 in
theorem qM_writesNode_538 (v1 : Int) (vw2 vw3 vw4 vw5 : xAV) (σ : xS) : X iM_writesNode 538 [(2, 305), (0, v1), vw2, vw3, vw4, vw5] [] σ =
  X iM_writesNode 597 [(2, 305), (0, v1), vw2, vw3, vw4, vw5] [] σ :=
  xev_eq (E := xE1) (F := xFk) (P := xPg) (inl := [95]) (stop := [11, 81, 97, 102, 124, 127, 132, 149, 181, 210, 213, 221, 238, 261, 271, 309, 360, 374, 400, 412, 432, 444, 464, 476, 484, 535, 538, 557, 586, 589, 597]) 3 iM_writesNode 538 [(2, 305), (0, v1), vw2, vw3, vw4, vw5] [] σ
set_option maxRecDepth 20000 in
theorem qM_writesNode_557 (v1 v3 v4 v5 : Int) (vw2 : xAV) (σ : xS) : X iM_writesNode 557 [(2, 305), (0, v1), vw2, (0, v3), (0, v4), (0, v5)] [] σ =
  if xin v3 500 then (if xin v4 3300 then (if xin v4 3300 then ((X iM_around 0 [(2, 305), (0, v5), (0, (σ.1 353 v4.toNat)), (0, 1), (9, 0)] [] (xs σ 372 v3.toNat 2)).bind fun q1 => X iM_writesNode 586 [(2, 305), (0, v1), vw2, (0, v3), (0, v4), (0, v5)] [q1.1, (0, (σ.1 353 v4.toNat)), (2, 305)] q1.2)
      else none)
    else none)
  else none :=
  xev_eq (E := xE1) (F := xFk) (P := xPg) (inl := [95]) (stop := [11, 81, 97, 102, 124, 127, 132, 149, 181, 210, 213, 221, 238, 261, 271, 309, 360, 374, 400, 412, 432, 444, 464, 476, 484, 535, 538, 557, 586, 589, 597]) 20 iM_writesNode 557 [(2, 305), (0, v1), vw2, (0, v3), (0, v4), (0, v5)] [] σ
set_option maxRecDepth 20000 in
theorem qM_writesNode_586 (v1 t0 t1 : Int) (vw2 vw3 vw4 vw5 : xAV) (σ : xS) : X iM_writesNode 586 [(2, 305), (0, v1), vw2, vw3, vw4, vw5] [(0, t0), (0, t1), (2, 305)] σ =
  (X iM_begins 0 [(2, 305), (0, t1), (0, t0)] [] σ).bind fun q1 => X iM_writesNode 589 [(2, 305), (0, v1), vw2, vw3, vw4, vw5] [] q1.2 :=
  xev_eq (E := xE1) (F := xFk) (P := xPg) (inl := [95]) (stop := [11, 81, 97, 102, 124, 127, 132, 149, 181, 210, 213, 221, 238, 261, 271, 309, 360, 374, 400, 412, 432, 444, 464, 476, 484, 535, 538, 557, 586, 589, 597]) 3 iM_writesNode 586 [(2, 305), (0, v1), vw2, vw3, vw4, vw5] [(0, t0), (0, t1), (2, 305)] σ
set_option maxRecDepth 20000 in
theorem qM_writesNode_589 (v1 : Int) (vw2 vw3 vw4 vw5 : xAV) (σ : xS) : X iM_writesNode 589 [(2, 305), (0, v1), vw2, vw3, vw4, vw5] [] σ =
  X iM_writesNode 597 [(2, 305), (0, v1), vw2, vw3, vw4, vw5] [] σ :=
  xev_eq (E := xE1) (F := xFk) (P := xPg) (inl := [95]) (stop := [11, 81, 97, 102, 124, 127, 132, 149, 181, 210, 213, 221, 238, 261, 271, 309, 360, 374, 400, 412, 432, 444, 464, 476, 484, 535, 538, 557, 586, 589, 597]) 3 iM_writesNode 589 [(2, 305), (0, v1), vw2, vw3, vw4, vw5] [] σ
set_option maxRecDepth 20000 in
theorem qM_writesNode_597 (v1 : Int) (vw2 vw3 vw4 vw5 : xAV) (σ : xS) : X iM_writesNode 597 [(2, 305), (0, v1), vw2, vw3, vw4, vw5] [] σ =
  X iM_writesNode 11 [(2, 305), (0, v1), vw2, vw3, vw4, vw5] [] σ :=
  xev_eq (E := xE1) (F := xFk) (P := xPg) (inl := [95]) (stop := [11, 81, 97, 102, 124, 127, 132, 149, 181, 210, 213, 221, 238, 261, 271, 309, 360, 374, 400, 412, 432, 444, 464, 476, 484, 535, 538, 557, 586, 589, 597]) 3 iM_writesNode 597 [(2, 305), (0, v1), vw2, vw3, vw4, vw5] [] σ
set_option maxRecDepth 20000 in
theorem qM_writesStatement_0 (a1 a2 : Int) (σ : xS) : X iM_writesStatement 0 [(2, 305), (0, a1), (0, a2), (9, 0)] [] σ =
  if xin a2 200 then (if (σ.1 344 a2.toNat) = 0 then ((X iM_writesWord 0 [(2, 305), (1, 8903), (8, 0), (9, 0), (9, 0)] [] σ).bind fun q1 => X iM_writesStatement 18 [(2, 305), (0, a1), (0, a2), (0, (σ.1 344 a2.toNat))] [] q1.2)
    else if (σ.1 344 a2.toNat) = 1 then ((X iM_writesWord 0 [(2, 305), (1, 8863997), (8, 0), (9, 0), (9, 0)] [] σ).bind fun q2 => X iM_writesStatement 43 [(2, 305), (0, a1), (0, a2), (0, (σ.1 344 a2.toNat))] [] q2.2)
    else if (σ.1 344 a2.toNat) = 2 then ((X iM_writesWord 0 [(2, 305), (1, 247663), (8, 0), (9, 0), (9, 0)] [] σ).bind fun q3 => X iM_writesStatement 78 [(2, 305), (0, a1), (0, a2), (0, (σ.1 344 a2.toNat))] [] q3.2)
    else if (σ.1 344 a2.toNat) = 3 then ((X iM_writesWord 0 [(2, 305), (1, 261338243), (8, 0), (9, 0), (9, 0)] [] σ).bind fun q4 => X iM_writesStatement 139 [(2, 305), (0, a1), (0, a2), (0, (σ.1 344 a2.toNat))] [] q4.2)
    else if (σ.1 344 a2.toNat) = 4 then ((X iM_writesWord 0 [(2, 305), (1, 3288323), (8, 0), (9, 0), (9, 0)] [] σ).bind fun q5 => X iM_writesStatement 154 [(2, 305), (0, a1), (0, a2), (0, (σ.1 344 a2.toNat))] [] q5.2)
    else if (σ.1 344 a2.toNat) = 5 then ((X iM_writesWord 0 [(2, 305), (1, 9744), (8, 0), (9, 0), (9, 0)] [] σ).bind fun q6 => X iM_writesStatement 169 [(2, 305), (0, a1), (0, a2), (0, (σ.1 344 a2.toNat))] [] q6.2)
    else (X iM_writesWord 0 [(2, 305), (1, 161156), (8, 0), (9, 0), (9, 0)] [] σ).bind fun q7 => X iM_writesStatement 179 [(2, 305), (0, a1), (0, a2), (0, (σ.1 344 a2.toNat))] [] q7.2)
  else none :=
  xev_eq (E := xE1) (F := xFk) (P := xPg) (inl := [95]) (stop := [18, 28, 43, 63, 78, 94, 114, 124, 139, 154, 169, 179, 190, 202, 217, 227, 238, 250, 277]) 27 iM_writesStatement 0 [(2, 305), (0, a1), (0, a2), (9, 0)] [] σ
set_option maxRecDepth 20000 in
theorem qM_writesStatement_18 (v1 v2 v3 : Int) (σ : xS) : X iM_writesStatement 18 [(2, 305), (0, v1), (0, v2), (0, v3)] [] σ =
  if xin v2 200 then ((X iM_writesWord 0 [(2, 305), (1, (σ.1 350 v2.toNat)), (8, 0), (9, 0), (9, 0)] [] σ).bind fun q1 => X iM_writesStatement 28 [(2, 305), (0, v1), (0, v2), (0, v3)] [] q1.2)
  else none :=
  xev_eq (E := xE1) (F := xFk) (P := xPg) (inl := [95]) (stop := [18, 28, 43, 63, 78, 94, 114, 124, 139, 154, 169, 179, 190, 202, 217, 227, 238, 250, 277]) 8 iM_writesStatement 18 [(2, 305), (0, v1), (0, v2), (0, v3)] [] σ
set_option maxRecDepth 20000 in
theorem qM_writesStatement_28 (v1 v2 v3 : Int) (σ : xS) : X iM_writesStatement 28 [(2, 305), (0, v1), (0, v2), (0, v3)] [] σ =
  X iM_writesStatement 250 [(2, 305), (0, v1), (0, v2), (0, v3)] [] σ :=
  xev_eq (E := xE1) (F := xFk) (P := xPg) (inl := [95]) (stop := [18, 28, 43, 63, 78, 94, 114, 124, 139, 154, 169, 179, 190, 202, 217, 227, 238, 250, 277]) 3 iM_writesStatement 28 [(2, 305), (0, v1), (0, v2), (0, v3)] [] σ
set_option maxRecDepth 20000 in
theorem qM_writesStatement_43 (v1 v2 v3 : Int) (σ : xS) : X iM_writesStatement 43 [(2, 305), (0, v1), (0, v2), (0, v3)] [] σ =
  if xin v2 200 then (if (σ.1 345 v2.toNat) < 0 then X iM_writesStatement 250 [(2, 305), (0, v1), (0, v2), (0, v3)] [] σ
    else if xin v2 200 then ((X iM_writesNumber 0 [(2, 305), (1, (σ.1 345 v2.toNat)), (8, 0), (9, 0), (9, 0)] [] σ).bind fun q1 => X iM_writesStatement 63 [(2, 305), (0, v1), (0, v2), (0, v3)] [] q1.2)
    else none)
  else none :=
  xev_eq (E := xE1) (F := xFk) (P := xPg) (inl := [95]) (stop := [18, 28, 43, 63, 78, 94, 114, 124, 139, 154, 169, 179, 190, 202, 217, 227, 238, 250, 277]) 14 iM_writesStatement 43 [(2, 305), (0, v1), (0, v2), (0, v3)] [] σ
set_option maxRecDepth 20000 in
theorem qM_writesStatement_63 (v1 v2 v3 : Int) (σ : xS) : X iM_writesStatement 63 [(2, 305), (0, v1), (0, v2), (0, v3)] [] σ =
  X iM_writesStatement 250 [(2, 305), (0, v1), (0, v2), (0, v3)] [] σ :=
  xev_eq (E := xE1) (F := xFk) (P := xPg) (inl := [95]) (stop := [18, 28, 43, 63, 78, 94, 114, 124, 139, 154, 169, 179, 190, 202, 217, 227, 238, 250, 277]) 3 iM_writesStatement 63 [(2, 305), (0, v1), (0, v2), (0, v3)] [] σ
set_option maxRecDepth 20000 in
theorem qM_writesStatement_78 (v1 v2 v3 : Int) (σ : xS) : X iM_writesStatement 78 [(2, 305), (0, v1), (0, v2), (0, v3)] [] σ =
  if xin v2 200 then (if (σ.1 345 v2.toNat) = 0 then ((X iM_writesWord 0 [(2, 305), (1, 4562600), (8, 0), (9, 0), (9, 0)] [] σ).bind fun q1 => X iM_writesStatement 94 [(2, 305), (0, v1), (0, v2), (0, v3)] [] q1.2)
    else if xin v2 200 then (if (σ.1 345 v2.toNat) = 1 then ((X iM_writesWord 0 [(2, 305), (1, 12531826), (8, 0), (9, 0), (9, 0)] [] σ).bind fun q2 => X iM_writesStatement 114 [(2, 305), (0, v1), (0, v2), (0, v3)] [] q2.2)
      else (X iM_writesWord 0 [(2, 305), (1, 326280), (8, 0), (9, 0), (9, 0)] [] σ).bind fun q3 => X iM_writesStatement 124 [(2, 305), (0, v1), (0, v2), (0, v3)] [] q3.2)
    else none)
  else none :=
  xev_eq (E := xE1) (F := xFk) (P := xPg) (inl := [95]) (stop := [18, 28, 43, 63, 78, 94, 114, 124, 139, 154, 169, 179, 190, 202, 217, 227, 238, 250, 277]) 16 iM_writesStatement 78 [(2, 305), (0, v1), (0, v2), (0, v3)] [] σ
set_option maxRecDepth 20000 in
theorem qM_writesStatement_94 (v1 v2 v3 : Int) (σ : xS) : X iM_writesStatement 94 [(2, 305), (0, v1), (0, v2), (0, v3)] [] σ =
  X iM_writesStatement 250 [(2, 305), (0, v1), (0, v2), (0, v3)] [] σ :=
  xev_eq (E := xE1) (F := xFk) (P := xPg) (inl := [95]) (stop := [18, 28, 43, 63, 78, 94, 114, 124, 139, 154, 169, 179, 190, 202, 217, 227, 238, 250, 277]) 3 iM_writesStatement 94 [(2, 305), (0, v1), (0, v2), (0, v3)] [] σ
set_option maxRecDepth 20000 in
theorem qM_writesStatement_114 (v1 v2 v3 : Int) (σ : xS) : X iM_writesStatement 114 [(2, 305), (0, v1), (0, v2), (0, v3)] [] σ =
  X iM_writesStatement 250 [(2, 305), (0, v1), (0, v2), (0, v3)] [] σ :=
  xev_eq (E := xE1) (F := xFk) (P := xPg) (inl := [95]) (stop := [18, 28, 43, 63, 78, 94, 114, 124, 139, 154, 169, 179, 190, 202, 217, 227, 238, 250, 277]) 3 iM_writesStatement 114 [(2, 305), (0, v1), (0, v2), (0, v3)] [] σ
set_option maxRecDepth 20000 in
theorem qM_writesStatement_124 (v1 v2 v3 : Int) (σ : xS) : X iM_writesStatement 124 [(2, 305), (0, v1), (0, v2), (0, v3)] [] σ =
  X iM_writesStatement 250 [(2, 305), (0, v1), (0, v2), (0, v3)] [] σ :=
  xev_eq (E := xE1) (F := xFk) (P := xPg) (inl := [95]) (stop := [18, 28, 43, 63, 78, 94, 114, 124, 139, 154, 169, 179, 190, 202, 217, 227, 238, 250, 277]) 3 iM_writesStatement 124 [(2, 305), (0, v1), (0, v2), (0, v3)] [] σ
set_option maxRecDepth 20000 in
theorem qM_writesStatement_139 (v1 v2 v3 : Int) (σ : xS) : X iM_writesStatement 139 [(2, 305), (0, v1), (0, v2), (0, v3)] [] σ =
  X iM_writesStatement 250 [(2, 305), (0, v1), (0, v2), (0, v3)] [] σ :=
  xev_eq (E := xE1) (F := xFk) (P := xPg) (inl := [95]) (stop := [18, 28, 43, 63, 78, 94, 114, 124, 139, 154, 169, 179, 190, 202, 217, 227, 238, 250, 277]) 3 iM_writesStatement 139 [(2, 305), (0, v1), (0, v2), (0, v3)] [] σ
set_option maxRecDepth 20000 in
theorem qM_writesStatement_154 (v1 v2 v3 : Int) (σ : xS) : X iM_writesStatement 154 [(2, 305), (0, v1), (0, v2), (0, v3)] [] σ =
  X iM_writesStatement 179 [(2, 305), (0, v1), (0, v2), (0, v3)] [] σ :=
  xev_eq (E := xE1) (F := xFk) (P := xPg) (inl := [95]) (stop := [18, 28, 43, 63, 78, 94, 114, 124, 139, 154, 169, 179, 190, 202, 217, 227, 238, 250, 277]) 3 iM_writesStatement 154 [(2, 305), (0, v1), (0, v2), (0, v3)] [] σ
set_option maxRecDepth 20000 in
theorem qM_writesStatement_169 (v1 v2 v3 : Int) (σ : xS) : X iM_writesStatement 169 [(2, 305), (0, v1), (0, v2), (0, v3)] [] σ =
  X iM_writesStatement 179 [(2, 305), (0, v1), (0, v2), (0, v3)] [] σ :=
  xev_eq (E := xE1) (F := xFk) (P := xPg) (inl := [95]) (stop := [18, 28, 43, 63, 78, 94, 114, 124, 139, 154, 169, 179, 190, 202, 217, 227, 238, 250, 277]) 3 iM_writesStatement 169 [(2, 305), (0, v1), (0, v2), (0, v3)] [] σ
set_option maxRecDepth 20000 in
theorem qM_writesStatement_179 (v1 v2 v3 : Int) (σ : xS) : X iM_writesStatement 179 [(2, 305), (0, v1), (0, v2), (0, v3)] [] σ =
  if xin v2 200 then ((X iM_writesNumber 0 [(2, 305), (1, (σ.1 345 v2.toNat)), (8, 0), (9, 0), (9, 0)] [] σ).bind fun q1 => X iM_writesStatement 190 [(2, 305), (0, v1), (0, v2), (0, v3)] [] q1.2)
  else none :=
  xev_eq (E := xE1) (F := xFk) (P := xPg) (inl := [95]) (stop := [18, 28, 43, 63, 78, 94, 114, 124, 139, 154, 169, 179, 190, 202, 217, 227, 238, 250, 277]) 9 iM_writesStatement 179 [(2, 305), (0, v1), (0, v2), (0, v3)] [] σ
set_option maxRecDepth 20000 in
theorem qM_writesStatement_190 (v1 v2 v3 : Int) (σ : xS) : X iM_writesStatement 190 [(2, 305), (0, v1), (0, v2), (0, v3)] [] σ =
  if v3 = 4 then ((X iM_writesWord 0 [(2, 305), (1, 555), (8, 0), (9, 0), (9, 0)] [] σ).bind fun q1 => X iM_writesStatement 202 [(2, 305), (0, v1), (0, v2), (0, v3)] [] q1.2)
  else if v3 = 5 then ((X iM_writesWord 0 [(2, 305), (1, 459818), (8, 0), (9, 0), (9, 0)] [] σ).bind fun q2 => X iM_writesStatement 217 [(2, 305), (0, v1), (0, v2), (0, v3)] [] q2.2)
  else (X iM_writesWord 0 [(2, 305), (1, 4797), (8, 0), (9, 0), (9, 0)] [] σ).bind fun q3 => X iM_writesStatement 227 [(2, 305), (0, v1), (0, v2), (0, v3)] [] q3.2 :=
  xev_eq (E := xE1) (F := xFk) (P := xPg) (inl := [95]) (stop := [18, 28, 43, 63, 78, 94, 114, 124, 139, 154, 169, 179, 190, 202, 217, 227, 238, 250, 277]) 11 iM_writesStatement 190 [(2, 305), (0, v1), (0, v2), (0, v3)] [] σ
set_option maxRecDepth 20000 in
theorem qM_writesStatement_202 (v1 v2 v3 : Int) (σ : xS) : X iM_writesStatement 202 [(2, 305), (0, v1), (0, v2), (0, v3)] [] σ =
  X iM_writesStatement 227 [(2, 305), (0, v1), (0, v2), (0, v3)] [] σ :=
  xev_eq (E := xE1) (F := xFk) (P := xPg) (inl := [95]) (stop := [18, 28, 43, 63, 78, 94, 114, 124, 139, 154, 169, 179, 190, 202, 217, 227, 238, 250, 277]) 3 iM_writesStatement 202 [(2, 305), (0, v1), (0, v2), (0, v3)] [] σ
set_option maxRecDepth 20000 in
theorem qM_writesStatement_217 (v1 v2 v3 : Int) (σ : xS) : X iM_writesStatement 217 [(2, 305), (0, v1), (0, v2), (0, v3)] [] σ =
  X iM_writesStatement 227 [(2, 305), (0, v1), (0, v2), (0, v3)] [] σ :=
  xev_eq (E := xE1) (F := xFk) (P := xPg) (inl := [95]) (stop := [18, 28, 43, 63, 78, 94, 114, 124, 139, 154, 169, 179, 190, 202, 217, 227, 238, 250, 277]) 3 iM_writesStatement 217 [(2, 305), (0, v1), (0, v2), (0, v3)] [] σ
set_option maxRecDepth 20000 in
theorem qM_writesStatement_227 (v1 v2 v3 : Int) (σ : xS) : X iM_writesStatement 227 [(2, 305), (0, v1), (0, v2), (0, v3)] [] σ =
  if xin v2 200 then ((X iM_writesNumber 0 [(2, 305), (1, (σ.1 346 v2.toNat)), (8, 0), (9, 0), (9, 0)] [] σ).bind fun q1 => X iM_writesStatement 238 [(2, 305), (0, v1), (0, v2), (0, v3)] [] q1.2)
  else none :=
  xev_eq (E := xE1) (F := xFk) (P := xPg) (inl := [95]) (stop := [18, 28, 43, 63, 78, 94, 114, 124, 139, 154, 169, 179, 190, 202, 217, 227, 238, 250, 277]) 9 iM_writesStatement 227 [(2, 305), (0, v1), (0, v2), (0, v3)] [] σ
set_option maxRecDepth 20000 in
theorem qM_writesStatement_238 (v1 v2 v3 : Int) (σ : xS) : X iM_writesStatement 238 [(2, 305), (0, v1), (0, v2), (0, v3)] [] σ =
  if v3 = 4 then ((X iM_writesWord 0 [(2, 305), (1, 79), (8, 0), (9, 0), (9, 0)] [] σ).bind fun q1 => X iM_writesStatement 250 [(2, 305), (0, v1), (0, v2), (0, v3)] [] q1.2)
  else X iM_writesStatement 250 [(2, 305), (0, v1), (0, v2), (0, v3)] [] σ :=
  xev_eq (E := xE1) (F := xFk) (P := xPg) (inl := [95]) (stop := [18, 28, 43, 63, 78, 94, 114, 124, 139, 154, 169, 179, 190, 202, 217, 227, 238, 250, 277]) 8 iM_writesStatement 238 [(2, 305), (0, v1), (0, v2), (0, v3)] [] σ
set_option maxRecDepth 20000 in
theorem qM_writesStatement_250 (v1 v2 v3 : Int) (σ : xS) : X iM_writesStatement 250 [(2, 305), (0, v1), (0, v2), (0, v3)] [] σ =
  if v3 < 4 then (if xin (σ.1 305 92) 1400 then (if v3 < 5 then (if xin v2 200 then ((X iM_writesNode 0 [(2, 305), (0, v1), (0, (σ.1 347 v2.toNat)), (9, 0), (9, 0), (9, 0)] [] (xs (xs (xs σ 370 (σ.1 305 92).toNat 61) 305 92 (xw ((σ.1 305 92) + 1))) 305 93 0)).bind fun q1 => X iM_writesStatement 277 [(2, 305), (0, v1), (0, v2), (0, v3)] [] q1.2)
        else none)
      else X iM_writesStatement 277 [(2, 305), (0, v1), (0, v2), (0, v3)] [] (xs (xs (xs σ 370 (σ.1 305 92).toNat 61) 305 92 (xw ((σ.1 305 92) + 1))) 305 93 0))
    else none)
  else if v3 < 5 then (if xin v2 200 then ((X iM_writesNode 0 [(2, 305), (0, v1), (0, (σ.1 347 v2.toNat)), (9, 0), (9, 0), (9, 0)] [] σ).bind fun q2 => X iM_writesStatement 277 [(2, 305), (0, v1), (0, v2), (0, v3)] [] q2.2)
    else none)
  else X iM_writesStatement 277 [(2, 305), (0, v1), (0, v2), (0, v3)] [] σ :=
  xev_eq (E := xE1) (F := xFk) (P := xPg) (inl := [95]) (stop := [18, 28, 43, 63, 78, 94, 114, 124, 139, 154, 169, 179, 190, 202, 217, 227, 238, 250, 277]) 35 iM_writesStatement 250 [(2, 305), (0, v1), (0, v2), (0, v3)] [] σ
set_option maxRecDepth 20000 in
theorem qM_writesStatement_277 (vw1 vw2 vw3 : xAV) (σ : xS) : X iM_writesStatement 277 [(2, 305), vw1, vw2, vw3] [] σ =
  if xin (σ.1 305 92) 1400 then some ((9, 0), (xs (xs (xs σ 370 (σ.1 305 92).toNat 59) 305 92 (xw ((σ.1 305 92) + 1))) 305 93 0))
  else none :=
  xev_eq (E := xE1) (F := xFk) (P := xPg) (inl := [95]) (stop := [18, 28, 43, 63, 78, 94, 114, 124, 139, 154, 169, 179, 190, 202, 217, 227, 238, 250, 277]) 23 iM_writesStatement 277 [(2, 305), vw1, vw2, vw3] [] σ
set_option maxRecDepth 20000 in
theorem qM_written_0 (a1 a2 : Int) (σ : xS) : X iM_written 0 [(2, 305), (0, a1), (0, a2), (9, 0)] [] σ =
  if a1 < 0 then some ((0, (-1)), σ)
  else if a1 < (σ.1 305 49) then (if xin a1 8 then X iM_written 31 [(2, 305), (0, a1), (0, a2), (0, (σ.1 341 a1.toNat))] [] (xs (xs σ 305 92 0) 305 93 0)
    else none)
  else some ((0, (-1)), σ) :=
  xev_eq (E := xE1) (F := xFk) (P := xPg) (inl := []) (stop := [31, 54]) 19 iM_written 0 [(2, 305), (0, a1), (0, a2), (9, 0)] [] σ
set_option maxRecDepth 20000 in
theorem qM_written_31 (v1 v2 v3 : Int) (σ : xS) : X iM_written 31 [(2, 305), (0, v1), (0, v2), (0, v3)] [] σ =
  if xin v1 8 then (if xin v1 8 then (if v3 < (xw ((σ.1 341 v1.toNat) + (σ.1 342 v1.toNat))) then ((X iM_writesStatement 0 [(2, 305), (0, v1), (0, v3), (9, 0)] [] σ).bind fun q1 => X iM_written 54 [(2, 305), (0, v1), (0, v2), (0, v3)] [] q1.2)
      else if v2 = (-1) then some ((0, (σ.1 305 92)), σ)
      else if v2 < 0 then some ((0, (-1)), σ)
      else if v2 < (σ.1 305 92) then (if xin v2 1400 then some ((0, (xna 2 (σ.1 370 v2.toNat))), σ)
        else none)
      else some ((0, (-1)), σ))
    else none)
  else none :=
  xev_eq (E := xE1) (F := xFk) (P := xPg) (inl := []) (stop := [31, 54]) 28 iM_written 31 [(2, 305), (0, v1), (0, v2), (0, v3)] [] σ
set_option maxRecDepth 20000 in
theorem qM_written_54 (v1 v2 v3 : Int) (σ : xS) : X iM_written 54 [(2, 305), (0, v1), (0, v2), (0, v3)] [] σ =
  X iM_written 31 [(2, 305), (0, v1), (0, v2), (0, (xw (v3 + 1)))] [] σ :=
  xev_eq (E := xE1) (F := xFk) (P := xPg) (inl := []) (stop := [31, 54]) 4 iM_written 54 [(2, 305), (0, v1), (0, v2), (0, v3)] [] σ
set_option maxRecDepth 20000 in
theorem qC_terms_0 (a1 : Int) (σ : xS) : X iC_terms 0 [(2, 200), (0, a1), (9, 0)] [] σ =
  if a1 < 0 then some ((0, (-2)), σ)
  else if (σ.1 200 9) < a1 then some ((0, (-2)), σ)
  else if (σ.1 243 5) < 8 then ((X iReader_readAll1 0 [(2, 297), (2, 304), (0, a1), (9, 0), (9, 0)] [] (xs σ 200 9 0)).bind fun q1 => X iC_terms 45 [(2, 200), (0, a1), (9, 0)] [q1.1] q1.2)
  else some ((0, (-3)), σ) :=
  xev_eq (E := xE1) (F := xFk) (P := xPg) (inl := [220]) (stop := [45, 81, 84]) 27 iC_terms 0 [(2, 200), (0, a1), (9, 0)] [] σ
set_option maxRecDepth 20000 in
theorem qC_terms_45 (t0 : Int) (vw1 vw2 : xAV) (σ : xS) : X iC_terms 45 [(2, 200), vw1, vw2] [(2, t0)] σ =
  if (σ.1 297 14) = (-1) then ((X iNode_textOf 0 [(2, t0), (9, 0), (9, 0)] [] (xs σ 200 10 (σ.1 297 14))).bind fun q1 => X iC_terms 81 [(2, 200), (xkl vw1), (2, t0)] [q1.1, (0, (σ.1 297 13)), (2, t0), (2, 243)] q1.2)
  else some ((0, (-1)), (xs σ 200 10 (σ.1 297 14))) :=
  xev_eq (E := xE1) (F := xFk) (P := xPg) (inl := [220]) (stop := [45, 81, 84]) 20 iC_terms 45 [(2, 200), vw1, vw2] [(2, t0)] σ
set_option maxRecDepth 20000 in
theorem qC_terms_81 (t0 t1 t2 : Int) (vw0 vw1 vw2 : xAV) (σ : xS) : X iC_terms 81 [vw0, vw1, vw2] [(2, t0), (0, t1), (2, t2), (2, 243)] σ =
  (X iLedger_take 0 [(2, 243), (2, t2), (0, t1), (2, t0)] [] σ).bind fun q1 => X iC_terms 84 [vw0, vw1, vw2] [q1.1] q1.2 :=
  xev_eq (E := xE1) (F := xFk) (P := xPg) (inl := [220]) (stop := [45, 81, 84]) 3 iC_terms 81 [vw0, vw1, vw2] [(2, t0), (0, t1), (2, t2), (2, 243)] σ
set_option maxRecDepth 20000 in
theorem qC_terms_84 (t0 : Int) (vw0 vw1 vw2 : xAV) (σ : xS) : X iC_terms 84 [vw0, vw1, vw2] [(0, t0)] σ =
  some ((0, t0), σ) :=
  xev_eq (E := xE1) (F := xFk) (P := xPg) (inl := [220]) (stop := [45, 81, 84]) 4 iC_terms 84 [vw0, vw1, vw2] [(0, t0)] σ
set_option maxRecDepth 20000 in
theorem qC_written_0 (a1 a2 : Int) (σ : xS) : X iC_written 0 [(2, 200), (0, a1), (0, a2), (9, 0)] [] σ =
  if a1 < 0 then some ((0, (-1)), σ)
  else if (xw ((σ.1 243 5) - 1)) < a1 then some ((0, (-1)), σ)
  else if xin a1 8 then (xob (xfld xE1 σ (σ.1 244 a1.toNat) 11 1) none fun w1 => if a2 = (-1) then (bif xisO xE1 σ w1 0 then (xob (xfld xE1 σ w1 0 0) none fun w2 => xob (xlen xE1 σ w2) none fun n3 => bif xisO xE1 σ w1 0 then (xob (xfld xE1 σ w1 0 1) none fun w4 => if (xna 2 (xna 2 w4)) = (xna 2 w4) then some ((0, (xshr ((n3 : Nat) : Int) (xna 2 w4))), σ)
          else none)
        else none)
      else none)
    else bif xisO xE1 σ w1 0 then (xob (xfld xE1 σ w1 0 0) none fun w5 => xob (xlen xE1 σ w5) none fun n6 => bif xisO xE1 σ w1 0 then (xob (xfld xE1 σ w1 0 1) none fun w7 => if (xna 2 (xna 2 w7)) = (xna 2 w7) then (if a2 < 0 then some ((0, (-1)), σ)
          else if (xw ((xshr ((n6 : Nat) : Int) (xna 2 w7)) - 1)) < a2 then some ((0, (-1)), σ)
          else bif xisO xE1 σ w1 0 then (bif xisO xE1 σ w1 0 then (xob (xfld xE1 σ w1 0 1) none fun w8 => if (xna 2 w8) = 0 then (xob (xfld xE1 σ w1 0 0) none fun w9 => xob (xlen xE1 σ w9) none fun n10 => if a2 < 0 then none
                else if a2 < ((n10 : Nat) : Int) then (xob (xarr xE1 σ w9 2) none fun n11 => if xin a2 n11 then (if (xna 3 (xna 3 (xiand (xna 2 (xag xE1 σ w9 a2.toNat)) 255))) = (xna 3 (xiand (xna 2 (xag xE1 σ w9 a2.toNat)) 255)) then (if (xna 3 (xna 3 (xiand (xna 2 (xag xE1 σ w9 a2.toNat)) 255))) = (xna 3 (xiand (xna 2 (xag xE1 σ w9 a2.toNat)) 255)) then some ((0, (xna 3 (xiand (xna 2 (xag xE1 σ w9 a2.toNat)) 255))), σ)
                      else none)
                    else none)
                  else none)
                else none)
              else xob (xfld xE1 σ w1 0 0) none fun w12 => xob (xlen xE1 σ w12) none fun n13 => if a2 < 0 then none
              else if a2 < (xshr ((n13 : Nat) : Int) 1) then none
              else none)
            else none)
          else none)
        else none)
      else none)
    else none)
  else none :=
  xev_eq (E := xE1) (F := xFk) (P := xPg) (inl := [172, 368, 371, 372, 376, 377, 387, 391, 394, 398, 406, 422]) (stop := []) 107 iC_written 0 [(2, 200), (0, a1), (0, a2), (9, 0)] [] σ
set_option maxRecDepth 20000 in
theorem qLedger_isFull_0 (σ : xS) : X iLedger_isFull 0 [(2, 243)] [] σ =
  if (σ.1 243 5) < 8 then some ((0, 0), σ)
  else some ((0, 1), σ) :=
  xev_eq (E := xE1) (F := xFk) (P := xPg) (inl := []) (stop := []) 9 iLedger_isFull 0 [(2, 243)] [] σ
set_option maxRecDepth 20000 in
theorem qLedger_take_0 (a1 a2 a3 : Int) (σ : xS) : X iLedger_take 0 [(2, 243), (2, a1), (0, a2), (2, a3)] [] σ =
  bif xisO xE1 (xal xE1 σ 11 5) ((xnew xE1 σ : Nat) : Int) 11 then (bif Nat.beq ((xnew xE1 σ : Nat) : Int).toNat 0 then none
    else bif xisO xE1 (xal xE1 σ 11 5) ((xnew xE1 σ : Nat) : Int) 11 then (xob (xwr xE1 (xal xE1 σ 11 5) ((xnew xE1 σ : Nat) : Int) 0 ((xal xE1 σ 11 5).1 216 0)) none fun s1 => bif xisO xE1 s1 ((xnew xE1 σ : Nat) : Int) 11 then (xob (xwr xE1 s1 ((xnew xE1 σ : Nat) : Int) 2 a1) none fun s2 => bif xisO xE1 s2 ((xnew xE1 σ : Nat) : Int) 11 then (xob (xwr xE1 s2 ((xnew xE1 σ : Nat) : Int) 1 a3) none fun s3 => bif xisO xE1 s3 ((xnew xE1 σ : Nat) : Int) 11 then (xob (xwr xE1 s3 ((xnew xE1 σ : Nat) : Int) 3 254) none fun s4 => if 0 ≤ a2 ∧ a2 ≤ 100000 then (bif xisO xE1 (xal xE1 s4 101 a2.toNat) ((xnew xE1 σ : Nat) : Int) 11 then (xob (xwr xE1 (xal xE1 s4 101 a2.toNat) ((xnew xE1 σ : Nat) : Int) 4 ((xnew xE1 s4 : Nat) : Int)) none fun s5 => bif (xisO xE1 s5 ((xnew xE1 σ : Nat) : Int) 11 || decide (((xnew xE1 σ : Nat) : Int) = 0)) then (if xin (σ.1 243 5) 8 then some ((0, (xw ((xw ((s5.1 243 5) + 1)) - 1))), (xs (xs s5 244 (σ.1 243 5).toNat ((xnew xE1 σ : Nat) : Int)) 243 5 (xw ((s5.1 243 5) + 1))))
                  else none)
                else none)
              else none)
            else none)
          else none)
        else none)
      else none)
    else none)
  else none :=
  xev_eq (E := xE1) (F := xFk) (P := xPg) (inl := [321]) (stop := []) 48 iLedger_take 0 [(2, 243), (2, a1), (0, a2), (2, a3)] [] σ
set_option maxRecDepth 20000 in
theorem qNode_textOf_0 (a0 : Int) (σ : xS) : X iNode_textOf 0 [(2, a0), (9, 0), (9, 0)] [] σ =
  bif xisO xE1 (xal xE1 σ 1 4) ((xnew xE1 σ : Nat) : Int) 1 then (bif xisO xE1 (xal xE1 σ 1 4) ((xnew xE1 σ : Nat) : Int) 1 then (bif Nat.beq ((xnew xE1 σ : Nat) : Int).toNat 0 then none
      else bif xisO xE1 (xal xE1 (xal xE1 σ 1 4) 102 16) ((xnew xE1 σ : Nat) : Int) 1 then (xob (xwr xE1 (xal xE1 (xal xE1 σ 1 4) 102 16) ((xnew xE1 σ : Nat) : Int) 0 ((xnew xE1 (xal xE1 σ 1 4) : Nat) : Int)) none fun s1 => bif xisO xE1 s1 ((xnew xE1 σ : Nat) : Int) 1 then (xob (xwr xE1 s1 ((xnew xE1 σ : Nat) : Int) 1 0) none fun s2 => X iNode_textOf 10 [(2, a0), (2, ((xnew xE1 σ : Nat) : Int)), (2, a0)] [] s2)
        else none)
      else none)
    else none)
  else none :=
  xev_eq (E := xE1) (F := xFk) (P := xPg) (inl := [339, 378, 407, 408]) (stop := [10, 19, 25, 38]) 25 iNode_textOf 0 [(2, a0), (9, 0), (9, 0)] [] σ
set_option maxRecDepth 20000 in
theorem qNode_textOf_10 (v1 v2 : Int) (vw0 : xAV) (σ : xS) : X iNode_textOf 10 [vw0, (2, v1), (2, v2)] [] σ =
  if v2 = 0 then (bif xisO xE1 σ v1 1 then ((X iJB_toString 0 [(2, v1)] [] σ).bind fun q1 => X iNode_textOf 38 [vw0, (2, v1), (2, v2)] [q1.1] q1.2)
    else none)
  else (X iNode_writeStatement 0 [(2, v2), (2, v1)] [] σ).bind fun q2 => X iNode_textOf 19 [vw0, (2, v1), (2, v2)] [] q2.2 :=
  xev_eq (E := xE1) (F := xFk) (P := xPg) (inl := [339, 378, 407, 408]) (stop := [10, 19, 25, 38]) 7 iNode_textOf 10 [vw0, (2, v1), (2, v2)] [] σ
set_option maxRecDepth 20000 in
theorem qNode_textOf_19 (v1 v2 : Int) (vw0 : xAV) (σ : xS) : X iNode_textOf 19 [vw0, (2, v1), (2, v2)] [] σ =
  bif xisO xE1 σ v1 1 then ((X iJB_append1 0 [(2, v1), (0, 59)] [] σ).bind fun q1 => X iNode_textOf 25 [vw0, (2, v1), (2, v2)] [q1.1] q1.2)
  else none :=
  xev_eq (E := xE1) (F := xFk) (P := xPg) (inl := [339, 378, 407, 408]) (stop := [10, 19, 25, 38]) 5 iNode_textOf 19 [vw0, (2, v1), (2, v2)] [] σ
set_option maxRecDepth 20000 in
theorem qNode_textOf_25 (v1 v2 t0 : Int) (vw0 : xAV) (σ : xS) : X iNode_textOf 25 [vw0, (2, v1), (2, v2)] [(2, t0)] σ =
  xob (xfld xE1 σ v2 7 7) none fun w1 => X iNode_textOf 10 [vw0, (2, v1), (2, w1)] [] σ :=
  xev_eq (E := xE1) (F := xFk) (P := xPg) (inl := [339, 378, 407, 408]) (stop := [10, 19, 25, 38]) 7 iNode_textOf 25 [vw0, (2, v1), (2, v2)] [(2, t0)] σ
set_option maxRecDepth 20000 in
theorem qNode_textOf_38 (t0 : Int) (vw0 vw1 vw2 : xAV) (σ : xS) : X iNode_textOf 38 [vw0, vw1, vw2] [(2, t0)] σ =
  some ((2, t0), σ) :=
  xev_eq (E := xE1) (F := xFk) (P := xPg) (inl := [339, 378, 407, 408]) (stop := [10, 19, 25, 38]) 3 iNode_textOf 38 [vw0, vw1, vw2] [(2, t0)] σ
set_option maxRecDepth 20000 in
theorem qNode_writeStatement_0 (a0 a1 : Int) (σ : xS) : X iNode_writeStatement 0 [(2, a0), (2, a1)] [] σ =
  xob (xfld xE1 σ a0 7 0) none fun w1 => xob (xfld xE1 σ w1 50 1) none fun w2 => (X iNode_writeWord 0 [(2, w2), (2, a1)] [] σ).bind fun q3 => X iNode_writeStatement 11 [(2, a0), (2, a1)] [] q3.2 :=
  xev_eq (E := xE1) (F := xFk) (P := xPg) (inl := [356]) (stop := [11, 68, 87, 113, 124, 134, 145, 156, 182, 191]) 7 iNode_writeStatement 0 [(2, a0), (2, a1)] [] σ
set_option maxRecDepth 20000 in
theorem qNode_writeStatement_11 (v0 v1 : Int) (σ : xS) : X iNode_writeStatement 11 [(2, v0), (2, v1)] [] σ =
  xob (xfld xE1 σ v0 7 0) none fun w1 => bif xisO xE1 σ w1 50 then (xob (xfld xE1 σ w1 50 0) none fun w2 => if xin w2 38 then (if (xag xE1 σ 41 w2.toNat) = 1 then (xob (xfld xE1 σ v0 7 4) none fun w24 => (X iNode_writeWord 0 [(2, w24), (2, v1)] [] σ).bind fun q25 => X iNode_writeStatement 68 [(2, v0), (2, v1)] [] q25.2)
      else if (xag xE1 σ 41 w2.toNat) = 2 then (xob (xfld xE1 σ v0 7 1) none fun w16 => if w16 = (-1) then (xob (xfld xE1 σ v0 7 6) none fun w17 => if w17 = 0 then X iNode_writeStatement 191 [(2, v0), (2, v1)] [] σ
          else xob (xfld xE1 σ v0 7 0) none fun w18 => bif (xcm w18 && xcm 6) then (if w18 = 6 then (xob (xfld xE1 σ v0 7 6) none fun w19 => (X iNode_write 0 [(2, w19), (2, v1)] [] σ).bind fun q20 => X iNode_writeStatement 191 [(2, v0), (2, v1)] [] q20.2)
            else bif xisO xE1 σ v1 1 then ((X iJB_append1 0 [(2, v1), (0, 61)] [] σ).bind fun q21 => X iNode_writeStatement 182 [(2, v0), (2, v1)] [q21.1] q21.2)
            else none)
          else none)
        else xob (xfld xE1 σ v0 7 1) none fun w22 => (X iNode_writeNumber 0 [(0, w22), (2, v1)] [] σ).bind fun q23 => X iNode_writeStatement 87 [(2, v0), (2, v1)] [] q23.2)
      else if (xag xE1 σ 41 w2.toNat) = 3 then (xob (xfld xE1 σ v0 7 3) none fun w11 => if w11 = 0 then ((X iNode_writeWord 0 [(2, 108), (2, v1)] [] σ).bind fun q12 => X iNode_writeStatement 113 [(2, v0), (2, v1)] [] q12.2)
        else xob (xfld xE1 σ v0 7 3) none fun w13 => xob (xfld xE1 σ w13 50 1) none fun w14 => (X iNode_writeWord 0 [(2, w14), (2, v1)] [] σ).bind fun q15 => X iNode_writeStatement 113 [(2, v0), (2, v1)] [] q15.2)
      else if (xag xE1 σ 41 w2.toNat) = 4 then ((X iNode_writePair 0 [(2, v0), (2, 12), (2, v1)] [] σ).bind fun q10 => X iNode_writeStatement 124 [(2, v0), (2, v1)] [] q10.2)
      else if (xag xE1 σ 41 w2.toNat) = 5 then ((X iNode_writePair 0 [(2, v0), (2, 14), (2, v1)] [] σ).bind fun q9 => X iNode_writeStatement 145 [(2, v0), (2, v1)] [] q9.2)
      else if (xag xE1 σ 41 w2.toNat) = 6 then ((X iNode_writePair 0 [(2, v0), (2, 15), (2, v1)] [] σ).bind fun q8 => X iNode_writeStatement 156 [(2, v0), (2, v1)] [] q8.2)
      else xob (xfld xE1 σ v0 7 6) none fun w3 => if w3 = 0 then X iNode_writeStatement 191 [(2, v0), (2, v1)] [] σ
      else xob (xfld xE1 σ v0 7 0) none fun w4 => bif (xcm w4 && xcm 6) then (if w4 = 6 then (xob (xfld xE1 σ v0 7 6) none fun w5 => (X iNode_write 0 [(2, w5), (2, v1)] [] σ).bind fun q6 => X iNode_writeStatement 191 [(2, v0), (2, v1)] [] q6.2)
        else bif xisO xE1 σ v1 1 then ((X iJB_append1 0 [(2, v1), (0, 61)] [] σ).bind fun q7 => X iNode_writeStatement 182 [(2, v0), (2, v1)] [q7.1] q7.2)
        else none)
      else none)
    else none)
  else none :=
  xev_eq (E := xE1) (F := xFk) (P := xPg) (inl := [356]) (stop := [11, 68, 87, 113, 124, 134, 145, 156, 182, 191]) 26 iNode_writeStatement 11 [(2, v0), (2, v1)] [] σ
set_option maxRecDepth 20000 in
theorem qNode_writeStatement_68 (v0 v1 : Int) (σ : xS) : X iNode_writeStatement 68 [(2, v0), (2, v1)] [] σ =
  xob (xfld xE1 σ v0 7 6) none fun w1 => if w1 = 0 then X iNode_writeStatement 191 [(2, v0), (2, v1)] [] σ
  else xob (xfld xE1 σ v0 7 0) none fun w2 => bif (xcm w2 && xcm 6) then (if w2 = 6 then (xob (xfld xE1 σ v0 7 6) none fun w3 => (X iNode_write 0 [(2, w3), (2, v1)] [] σ).bind fun q4 => X iNode_writeStatement 191 [(2, v0), (2, v1)] [] q4.2)
    else bif xisO xE1 σ v1 1 then ((X iJB_append1 0 [(2, v1), (0, 61)] [] σ).bind fun q5 => X iNode_writeStatement 182 [(2, v0), (2, v1)] [q5.1] q5.2)
    else none)
  else none :=
  xev_eq (E := xE1) (F := xFk) (P := xPg) (inl := [356]) (stop := [11, 68, 87, 113, 124, 134, 145, 156, 182, 191]) 14 iNode_writeStatement 68 [(2, v0), (2, v1)] [] σ
set_option maxRecDepth 20000 in
theorem qNode_writeStatement_87 (v0 v1 : Int) (σ : xS) : X iNode_writeStatement 87 [(2, v0), (2, v1)] [] σ =
  xob (xfld xE1 σ v0 7 6) none fun w1 => if w1 = 0 then X iNode_writeStatement 191 [(2, v0), (2, v1)] [] σ
  else xob (xfld xE1 σ v0 7 0) none fun w2 => bif (xcm w2 && xcm 6) then (if w2 = 6 then (xob (xfld xE1 σ v0 7 6) none fun w3 => (X iNode_write 0 [(2, w3), (2, v1)] [] σ).bind fun q4 => X iNode_writeStatement 191 [(2, v0), (2, v1)] [] q4.2)
    else bif xisO xE1 σ v1 1 then ((X iJB_append1 0 [(2, v1), (0, 61)] [] σ).bind fun q5 => X iNode_writeStatement 182 [(2, v0), (2, v1)] [q5.1] q5.2)
    else none)
  else none :=
  xev_eq (E := xE1) (F := xFk) (P := xPg) (inl := [356]) (stop := [11, 68, 87, 113, 124, 134, 145, 156, 182, 191]) 14 iNode_writeStatement 87 [(2, v0), (2, v1)] [] σ
set_option maxRecDepth 20000 in
theorem qNode_writeStatement_113 (v0 v1 : Int) (σ : xS) : X iNode_writeStatement 113 [(2, v0), (2, v1)] [] σ =
  xob (xfld xE1 σ v0 7 6) none fun w1 => if w1 = 0 then X iNode_writeStatement 191 [(2, v0), (2, v1)] [] σ
  else xob (xfld xE1 σ v0 7 0) none fun w2 => bif (xcm w2 && xcm 6) then (if w2 = 6 then (xob (xfld xE1 σ v0 7 6) none fun w3 => (X iNode_write 0 [(2, w3), (2, v1)] [] σ).bind fun q4 => X iNode_writeStatement 191 [(2, v0), (2, v1)] [] q4.2)
    else bif xisO xE1 σ v1 1 then ((X iJB_append1 0 [(2, v1), (0, 61)] [] σ).bind fun q5 => X iNode_writeStatement 182 [(2, v0), (2, v1)] [q5.1] q5.2)
    else none)
  else none :=
  xev_eq (E := xE1) (F := xFk) (P := xPg) (inl := [356]) (stop := [11, 68, 87, 113, 124, 134, 145, 156, 182, 191]) 14 iNode_writeStatement 113 [(2, v0), (2, v1)] [] σ
set_option maxRecDepth 20000 in
theorem qNode_writeStatement_124 (v0 v1 : Int) (σ : xS) : X iNode_writeStatement 124 [(2, v0), (2, v1)] [] σ =
  (X iNode_writeWord 0 [(2, 66), (2, v1)] [] σ).bind fun q1 => X iNode_writeStatement 134 [(2, v0), (2, v1)] [] q1.2 :=
  xev_eq (E := xE1) (F := xFk) (P := xPg) (inl := [356]) (stop := [11, 68, 87, 113, 124, 134, 145, 156, 182, 191]) 6 iNode_writeStatement 124 [(2, v0), (2, v1)] [] σ
set_option maxRecDepth 20000 in
theorem qNode_writeStatement_134 (v0 v1 : Int) (σ : xS) : X iNode_writeStatement 134 [(2, v0), (2, v1)] [] σ =
  xob (xfld xE1 σ v0 7 6) none fun w1 => if w1 = 0 then X iNode_writeStatement 191 [(2, v0), (2, v1)] [] σ
  else xob (xfld xE1 σ v0 7 0) none fun w2 => bif (xcm w2 && xcm 6) then (if w2 = 6 then (xob (xfld xE1 σ v0 7 6) none fun w3 => (X iNode_write 0 [(2, w3), (2, v1)] [] σ).bind fun q4 => X iNode_writeStatement 191 [(2, v0), (2, v1)] [] q4.2)
    else bif xisO xE1 σ v1 1 then ((X iJB_append1 0 [(2, v1), (0, 61)] [] σ).bind fun q5 => X iNode_writeStatement 182 [(2, v0), (2, v1)] [q5.1] q5.2)
    else none)
  else none :=
  xev_eq (E := xE1) (F := xFk) (P := xPg) (inl := [356]) (stop := [11, 68, 87, 113, 124, 134, 145, 156, 182, 191]) 14 iNode_writeStatement 134 [(2, v0), (2, v1)] [] σ
set_option maxRecDepth 20000 in
theorem qNode_writeStatement_145 (v0 v1 : Int) (σ : xS) : X iNode_writeStatement 145 [(2, v0), (2, v1)] [] σ =
  xob (xfld xE1 σ v0 7 6) none fun w1 => if w1 = 0 then X iNode_writeStatement 191 [(2, v0), (2, v1)] [] σ
  else xob (xfld xE1 σ v0 7 0) none fun w2 => bif (xcm w2 && xcm 6) then (if w2 = 6 then (xob (xfld xE1 σ v0 7 6) none fun w3 => (X iNode_write 0 [(2, w3), (2, v1)] [] σ).bind fun q4 => X iNode_writeStatement 191 [(2, v0), (2, v1)] [] q4.2)
    else bif xisO xE1 σ v1 1 then ((X iJB_append1 0 [(2, v1), (0, 61)] [] σ).bind fun q5 => X iNode_writeStatement 182 [(2, v0), (2, v1)] [q5.1] q5.2)
    else none)
  else none :=
  xev_eq (E := xE1) (F := xFk) (P := xPg) (inl := [356]) (stop := [11, 68, 87, 113, 124, 134, 145, 156, 182, 191]) 14 iNode_writeStatement 145 [(2, v0), (2, v1)] [] σ
set_option maxRecDepth 20000 in
theorem qNode_writeStatement_156 (v0 v1 : Int) (σ : xS) : X iNode_writeStatement 156 [(2, v0), (2, v1)] [] σ =
  xob (xfld xE1 σ v0 7 6) none fun w1 => if w1 = 0 then X iNode_writeStatement 191 [(2, v0), (2, v1)] [] σ
  else xob (xfld xE1 σ v0 7 0) none fun w2 => bif (xcm w2 && xcm 6) then (if w2 = 6 then (xob (xfld xE1 σ v0 7 6) none fun w3 => (X iNode_write 0 [(2, w3), (2, v1)] [] σ).bind fun q4 => X iNode_writeStatement 191 [(2, v0), (2, v1)] [] q4.2)
    else bif xisO xE1 σ v1 1 then ((X iJB_append1 0 [(2, v1), (0, 61)] [] σ).bind fun q5 => X iNode_writeStatement 182 [(2, v0), (2, v1)] [q5.1] q5.2)
    else none)
  else none :=
  xev_eq (E := xE1) (F := xFk) (P := xPg) (inl := [356]) (stop := [11, 68, 87, 113, 124, 134, 145, 156, 182, 191]) 14 iNode_writeStatement 156 [(2, v0), (2, v1)] [] σ
set_option maxRecDepth 20000 in
theorem qNode_writeStatement_182 (v0 v1 t0 : Int) (σ : xS) : X iNode_writeStatement 182 [(2, v0), (2, v1)] [(2, t0)] σ =
  xob (xfld xE1 σ v0 7 6) none fun w1 => (X iNode_write 0 [(2, w1), (2, v1)] [] σ).bind fun q2 => X iNode_writeStatement 191 [(2, v0), (2, v1)] [] q2.2 :=
  xev_eq (E := xE1) (F := xFk) (P := xPg) (inl := [356]) (stop := [11, 68, 87, 113, 124, 134, 145, 156, 182, 191]) 7 iNode_writeStatement 182 [(2, v0), (2, v1)] [(2, t0)] σ
set_option maxRecDepth 20000 in
theorem qNode_writeStatement_191 (vw0 vw1 : xAV) (σ : xS) : X iNode_writeStatement 191 [vw0, vw1] [] σ =
  some ((9, 0), σ) :=
  xev_eq (E := xE1) (F := xFk) (P := xPg) (inl := [356]) (stop := [11, 68, 87, 113, 124, 134, 145, 156, 182, 191]) 3 iNode_writeStatement 191 [vw0, vw1] [] σ
set_option maxRecDepth 20000 in
theorem qNode_writePair_0 (a0 a1 a2 : Int) (σ : xS) : X iNode_writePair 0 [(2, a0), (2, a1), (2, a2)] [] σ =
  xob (xfld xE1 σ a0 7 1) none fun w1 => (X iNode_writeNumber 0 [(0, w1), (2, a2)] [] σ).bind fun q2 => X iNode_writePair 8 [(2, a0), (2, a1), (2, a2)] [] q2.2 :=
  xev_eq (E := xE1) (F := xFk) (P := xPg) (inl := []) (stop := [8, 16, 24]) 6 iNode_writePair 0 [(2, a0), (2, a1), (2, a2)] [] σ
set_option maxRecDepth 20000 in
theorem qNode_writePair_8 (v0 v1 v2 : Int) (σ : xS) : X iNode_writePair 8 [(2, v0), (2, v1), (2, v2)] [] σ =
  xob (xfld xE1 σ v1 50 1) none fun w1 => (X iNode_writeWord 0 [(2, w1), (2, v2)] [] σ).bind fun q2 => X iNode_writePair 16 [(2, v0), (2, v1), (2, v2)] [] q2.2 :=
  xev_eq (E := xE1) (F := xFk) (P := xPg) (inl := []) (stop := [8, 16, 24]) 6 iNode_writePair 8 [(2, v0), (2, v1), (2, v2)] [] σ
set_option maxRecDepth 20000 in
theorem qNode_writePair_16 (v0 v2 : Int) (vw1 : xAV) (σ : xS) : X iNode_writePair 16 [(2, v0), vw1, (2, v2)] [] σ =
  xob (xfld xE1 σ v0 7 2) none fun w1 => (X iNode_writeNumber 0 [(0, w1), (2, v2)] [] σ).bind fun q2 => X iNode_writePair 24 [(2, v0), vw1, (2, v2)] [] q2.2 :=
  xev_eq (E := xE1) (F := xFk) (P := xPg) (inl := []) (stop := [8, 16, 24]) 6 iNode_writePair 16 [(2, v0), vw1, (2, v2)] [] σ
set_option maxRecDepth 20000 in
theorem qNode_writePair_24 (vw0 vw1 vw2 : xAV) (σ : xS) : X iNode_writePair 24 [vw0, vw1, vw2] [] σ =
  some ((9, 0), σ) :=
  xev_eq (E := xE1) (F := xFk) (P := xPg) (inl := []) (stop := [8, 16, 24]) 3 iNode_writePair 24 [vw0, vw1, vw2] [] σ
set_option maxRecDepth 20000 in
theorem qNode_write_0 (a0 a1 : Int) (σ : xS) : X iNode_write 0 [(2, a0), (2, a1)] [] σ =
  xob (xfld xE1 σ a0 7 0) none fun w1 => bif xisO xE1 σ w1 50 then (xob (xfld xE1 σ w1 50 0) none fun w2 => if xin w2 38 then (if (xag xE1 σ 41 w2.toNat) = 7 then (xob (xfld xE1 σ a0 7 1) none fun w20 => (X iNode_writeNumber 0 [(0, w20), (2, a1)] [] σ).bind fun q21 => X iNode_write 80 [(2, a0), (2, a1)] [] q21.2)
      else if (xag xE1 σ 41 w2.toNat) = 8 then (xob (xfld xE1 σ a0 7 4) none fun w18 => (X iNode_writeWord 0 [(2, w18), (2, a1)] [] σ).bind fun q19 => X iNode_write 91 [(2, a0), (2, a1)] [] q19.2)
      else if (xag xE1 σ 41 w2.toNat) = 9 then (bif Nat.beq (xdp σ) 0 then none
        else (X iNode_writeJoined 0 [(2, a0), (2, a1), (9, 0)] [] (xsetdp σ (xdp σ - 1))).bind fun q17 => X iNode_write 99 [(2, a0), (2, a1)] [] (xsetdp q17.2 (xdp σ)))
      else if (xag xE1 σ 41 w2.toNat) = 10 then (bif Nat.beq (xdp σ) 0 then none
        else (X iNode_writeJoined 0 [(2, a0), (2, a1), (9, 0)] [] (xsetdp σ (xdp σ - 1))).bind fun q16 => X iNode_write 99 [(2, a0), (2, a1)] [] (xsetdp q16.2 (xdp σ)))
      else if (xag xE1 σ 41 w2.toNat) = 11 then (bif Nat.beq (xdp σ) 0 then none
        else (X iNode_writeJoined 0 [(2, a0), (2, a1), (9, 0)] [] (xsetdp σ (xdp σ - 1))).bind fun q15 => X iNode_write 99 [(2, a0), (2, a1)] [] (xsetdp q15.2 (xdp σ)))
      else if (xag xE1 σ 41 w2.toNat) = 12 then (bif xisO xE1 σ a1 1 then ((X iJB_append1 0 [(2, a1), (0, 45)] [] σ).bind fun q14 => X iNode_write 108 [(2, a0), (2, a1)] [q14.1] q14.2)
        else none)
      else if (xag xE1 σ 41 w2.toNat) = 13 then (bif Nat.beq (xdp σ) 0 then none
        else (X iNode_writeConds 0 [(2, a0), (2, a1), (9, 0)] [] (xsetdp σ (xdp σ - 1))).bind fun q13 => X iNode_write 130 [(2, a0), (2, a1)] [] (xsetdp q13.2 (xdp σ)))
      else if (xag xE1 σ 41 w2.toNat) = 14 then (bif Nat.beq (xdp σ) 0 then none
        else (X iNode_writeConds 0 [(2, a0), (2, a1), (9, 0)] [] (xsetdp σ (xdp σ - 1))).bind fun q12 => X iNode_write 130 [(2, a0), (2, a1)] [] (xsetdp q12.2 (xdp σ)))
      else if (xag xE1 σ 41 w2.toNat) = 15 then (xob (xfld xE1 σ a0 7 0) none fun w9 => xob (xfld xE1 σ w9 50 1) none fun w10 => (X iNode_writeWord 0 [(2, w10), (2, a1)] [] σ).bind fun q11 => X iNode_write 144 [(2, a0), (2, a1)] [] q11.2)
      else if (xag xE1 σ 41 w2.toNat) = 16 then (bif Nat.beq (xdp σ) 0 then none
        else (X iNode_writeIf 0 [(2, a0), (2, a1), (9, 0), (9, 0)] [] (xsetdp σ (xdp σ - 1))).bind fun q8 => X iNode_write 165 [(2, a0), (2, a1)] [] (xsetdp q8.2 (xdp σ)))
      else if (xag xE1 σ 41 w2.toNat) = 17 then (bif Nat.beq (xdp σ) 0 then none
        else (X iNode_writeList 0 [(2, a0), (2, a1), (9, 0)] [] (xsetdp σ (xdp σ - 1))).bind fun q7 => X iNode_write 173 [(2, a0), (2, a1)] [] (xsetdp q7.2 (xdp σ)))
      else if (xag xE1 σ 41 w2.toNat) = 18 then (bif Nat.beq (xdp σ) 0 then none
        else (X iNode_writeList 0 [(2, a0), (2, a1), (9, 0)] [] (xsetdp σ (xdp σ - 1))).bind fun q6 => X iNode_write 173 [(2, a0), (2, a1)] [] (xsetdp q6.2 (xdp σ)))
      else xob (xfld xE1 σ a0 7 0) none fun w3 => xob (xfld xE1 σ w3 50 1) none fun w4 => (X iNode_writeWord 0 [(2, w4), (2, a1)] [] σ).bind fun q5 => X iNode_write 187 [(2, a0), (2, a1)] [] q5.2)
    else none)
  else none :=
  xev_eq (E := xE1) (F := xFk) (P := xPg) (inl := [356]) (stop := [80, 91, 99, 108, 122, 130, 144, 157, 165, 173, 187]) 16 iNode_write 0 [(2, a0), (2, a1)] [] σ
set_option maxRecDepth 20000 in
theorem qNode_write_80 (vw0 vw1 : xAV) (σ : xS) : X iNode_write 80 [vw0, vw1] [] σ =
  X iNode_write 187 [vw0, vw1] [] σ :=
  xev_eq (E := xE1) (F := xFk) (P := xPg) (inl := [356]) (stop := [80, 91, 99, 108, 122, 130, 144, 157, 165, 173, 187]) 3 iNode_write 80 [vw0, vw1] [] σ
set_option maxRecDepth 20000 in
theorem qNode_write_91 (vw0 vw1 : xAV) (σ : xS) : X iNode_write 91 [vw0, vw1] [] σ =
  X iNode_write 187 [vw0, vw1] [] σ :=
  xev_eq (E := xE1) (F := xFk) (P := xPg) (inl := [356]) (stop := [80, 91, 99, 108, 122, 130, 144, 157, 165, 173, 187]) 3 iNode_write 91 [vw0, vw1] [] σ
set_option maxRecDepth 20000 in
theorem qNode_write_99 (vw0 vw1 : xAV) (σ : xS) : X iNode_write 99 [vw0, vw1] [] σ =
  X iNode_write 187 [vw0, vw1] [] σ :=
  xev_eq (E := xE1) (F := xFk) (P := xPg) (inl := [356]) (stop := [80, 91, 99, 108, 122, 130, 144, 157, 165, 173, 187]) 3 iNode_write 99 [vw0, vw1] [] σ
set_option maxRecDepth 20000 in
theorem qNode_write_108 (v0 v1 t0 : Int) (σ : xS) : X iNode_write 108 [(2, v0), (2, v1)] [(2, t0)] σ =
  xob (xfld xE1 σ v0 7 6) none fun w1 => xob (xfld xE1 σ v0 7 0) none fun w2 => bif Nat.beq (xdp σ) 0 then none
  else (X iNode_writePart 0 [(2, w1), (2, w2), (0, 0), (2, v1), (9, 0)] [] (xsetdp σ (xdp σ - 1))).bind fun q3 => X iNode_write 122 [(2, v0), (2, v1)] [] (xsetdp q3.2 (xdp σ)) :=
  xev_eq (E := xE1) (F := xFk) (P := xPg) (inl := [356]) (stop := [80, 91, 99, 108, 122, 130, 144, 157, 165, 173, 187]) 10 iNode_write 108 [(2, v0), (2, v1)] [(2, t0)] σ
set_option maxRecDepth 20000 in
theorem qNode_write_122 (vw0 vw1 : xAV) (σ : xS) : X iNode_write 122 [vw0, vw1] [] σ =
  X iNode_write 187 [vw0, vw1] [] σ :=
  xev_eq (E := xE1) (F := xFk) (P := xPg) (inl := [356]) (stop := [80, 91, 99, 108, 122, 130, 144, 157, 165, 173, 187]) 3 iNode_write 122 [vw0, vw1] [] σ
set_option maxRecDepth 20000 in
theorem qNode_write_130 (vw0 vw1 : xAV) (σ : xS) : X iNode_write 130 [vw0, vw1] [] σ =
  X iNode_write 187 [vw0, vw1] [] σ :=
  xev_eq (E := xE1) (F := xFk) (P := xPg) (inl := [356]) (stop := [80, 91, 99, 108, 122, 130, 144, 157, 165, 173, 187]) 3 iNode_write 130 [vw0, vw1] [] σ
set_option maxRecDepth 20000 in
theorem qNode_write_144 (v0 v1 : Int) (σ : xS) : X iNode_write 144 [(2, v0), (2, v1)] [] σ =
  xob (xfld xE1 σ v0 7 6) none fun w1 => xob (xfld xE1 σ v0 7 0) none fun w2 => bif Nat.beq (xdp σ) 0 then none
  else (X iNode_writePart 0 [(2, w1), (2, w2), (0, 0), (2, v1), (9, 0)] [] (xsetdp σ (xdp σ - 1))).bind fun q3 => X iNode_write 157 [(2, v0), (2, v1)] [] (xsetdp q3.2 (xdp σ)) :=
  xev_eq (E := xE1) (F := xFk) (P := xPg) (inl := [356]) (stop := [80, 91, 99, 108, 122, 130, 144, 157, 165, 173, 187]) 9 iNode_write 144 [(2, v0), (2, v1)] [] σ
set_option maxRecDepth 20000 in
theorem qNode_write_157 (vw0 vw1 : xAV) (σ : xS) : X iNode_write 157 [vw0, vw1] [] σ =
  X iNode_write 187 [vw0, vw1] [] σ :=
  xev_eq (E := xE1) (F := xFk) (P := xPg) (inl := [356]) (stop := [80, 91, 99, 108, 122, 130, 144, 157, 165, 173, 187]) 3 iNode_write 157 [vw0, vw1] [] σ
set_option maxRecDepth 20000 in
theorem qNode_write_165 (vw0 vw1 : xAV) (σ : xS) : X iNode_write 165 [vw0, vw1] [] σ =
  X iNode_write 187 [vw0, vw1] [] σ :=
  xev_eq (E := xE1) (F := xFk) (P := xPg) (inl := [356]) (stop := [80, 91, 99, 108, 122, 130, 144, 157, 165, 173, 187]) 3 iNode_write 165 [vw0, vw1] [] σ
set_option maxRecDepth 20000 in
theorem qNode_write_173 (vw0 vw1 : xAV) (σ : xS) : X iNode_write 173 [vw0, vw1] [] σ =
  X iNode_write 187 [vw0, vw1] [] σ :=
  xev_eq (E := xE1) (F := xFk) (P := xPg) (inl := [356]) (stop := [80, 91, 99, 108, 122, 130, 144, 157, 165, 173, 187]) 3 iNode_write 173 [vw0, vw1] [] σ
set_option maxRecDepth 20000 in
theorem qNode_write_187 (vw0 vw1 : xAV) (σ : xS) : X iNode_write 187 [vw0, vw1] [] σ =
  some ((9, 0), σ) :=
  xev_eq (E := xE1) (F := xFk) (P := xPg) (inl := [356]) (stop := [80, 91, 99, 108, 122, 130, 144, 157, 165, 173, 187]) 3 iNode_write 187 [vw0, vw1] [] σ
set_option maxRecDepth 20000 in
theorem qNode_writeJoined_0 (a0 a1 : Int) (σ : xS) : X iNode_writeJoined 0 [(2, a0), (2, a1), (9, 0)] [] σ =
  xob (xfld xE1 σ a0 7 6) none fun w1 => X iNode_writeJoined 5 [(2, a0), (2, a1), (2, w1)] [] σ :=
  xev_eq (E := xE1) (F := xFk) (P := xPg) (inl := []) (stop := [5, 25, 48]) 5 iNode_writeJoined 0 [(2, a0), (2, a1), (9, 0)] [] σ
set_option maxRecDepth 20000 in
theorem qNode_writeJoined_5 (v0 v1 v2 : Int) (σ : xS) : X iNode_writeJoined 5 [(2, v0), (2, v1), (2, v2)] [] σ =
  if v2 = 0 then some ((9, 0), σ)
  else xob (xfld xE1 σ v0 7 6) none fun w1 => bif (xcm v2 && xcm w1) then (if v2 = w1 then (xob (xfld xE1 σ v0 7 0) none fun w2 => xob (xfld xE1 σ v0 7 6) none fun w3 => bif (xcm v2 && xcm w3) then (if v2 = w3 then (bif Nat.beq (xdp σ) 0 then none
          else (X iNode_writePart 0 [(2, v2), (2, w2), (0, 1), (2, v1), (9, 0)] [] (xsetdp σ (xdp σ - 1))).bind fun q4 => X iNode_writeJoined 48 [(2, v0), (2, v1), (2, v2)] [] (xsetdp q4.2 (xdp σ)))
        else bif Nat.beq (xdp σ) 0 then none
        else (X iNode_writePart 0 [(2, v2), (2, w2), (0, 0), (2, v1), (9, 0)] [] (xsetdp σ (xdp σ - 1))).bind fun q5 => X iNode_writeJoined 48 [(2, v0), (2, v1), (2, v2)] [] (xsetdp q5.2 (xdp σ)))
      else none)
    else xob (xfld xE1 σ v2 7 5) none fun w6 => bif xisO xE1 σ v1 1 then ((X iJB_append1 0 [(2, v1), (0, (xna 3 w6))] [] σ).bind fun q7 => X iNode_writeJoined 25 [(2, v0), (2, v1), (2, v2)] [q7.1] q7.2)
    else none)
  else none :=
  xev_eq (E := xE1) (F := xFk) (P := xPg) (inl := []) (stop := [5, 25, 48]) 19 iNode_writeJoined 5 [(2, v0), (2, v1), (2, v2)] [] σ
set_option maxRecDepth 20000 in
theorem qNode_writeJoined_25 (v0 v1 v2 t0 : Int) (σ : xS) : X iNode_writeJoined 25 [(2, v0), (2, v1), (2, v2)] [(2, t0)] σ =
  xob (xfld xE1 σ v0 7 0) none fun w1 => xob (xfld xE1 σ v0 7 6) none fun w2 => bif (xcm v2 && xcm w2) then (if v2 = w2 then (bif Nat.beq (xdp σ) 0 then none
      else (X iNode_writePart 0 [(2, v2), (2, w1), (0, 1), (2, v1), (9, 0)] [] (xsetdp σ (xdp σ - 1))).bind fun q3 => X iNode_writeJoined 48 [(2, v0), (2, v1), (2, v2)] [] (xsetdp q3.2 (xdp σ)))
    else bif Nat.beq (xdp σ) 0 then none
    else (X iNode_writePart 0 [(2, v2), (2, w1), (0, 0), (2, v1), (9, 0)] [] (xsetdp σ (xdp σ - 1))).bind fun q4 => X iNode_writeJoined 48 [(2, v0), (2, v1), (2, v2)] [] (xsetdp q4.2 (xdp σ)))
  else none :=
  xev_eq (E := xE1) (F := xFk) (P := xPg) (inl := []) (stop := [5, 25, 48]) 14 iNode_writeJoined 25 [(2, v0), (2, v1), (2, v2)] [(2, t0)] σ
set_option maxRecDepth 20000 in
theorem qNode_writeJoined_48 (v0 v1 v2 : Int) (σ : xS) : X iNode_writeJoined 48 [(2, v0), (2, v1), (2, v2)] [] σ =
  xob (xfld xE1 σ v2 7 7) none fun w1 => X iNode_writeJoined 5 [(2, v0), (2, v1), (2, w1)] [] σ :=
  xev_eq (E := xE1) (F := xFk) (P := xPg) (inl := []) (stop := [5, 25, 48]) 6 iNode_writeJoined 48 [(2, v0), (2, v1), (2, v2)] [] σ
set_option maxRecDepth 20000 in
theorem qNode_writeConds_0 (a0 a1 : Int) (σ : xS) : X iNode_writeConds 0 [(2, a0), (2, a1), (9, 0)] [] σ =
  xob (xfld xE1 σ a0 7 6) none fun w1 => X iNode_writeConds 5 [(2, a0), (2, a1), (2, w1)] [] σ :=
  xev_eq (E := xE1) (F := xFk) (P := xPg) (inl := []) (stop := [5, 28, 50]) 5 iNode_writeConds 0 [(2, a0), (2, a1), (9, 0)] [] σ
set_option maxRecDepth 20000 in
theorem qNode_writeConds_5 (v0 v1 v2 : Int) (σ : xS) : X iNode_writeConds 5 [(2, v0), (2, v1), (2, v2)] [] σ =
  if v2 = 0 then some ((9, 0), σ)
  else xob (xfld xE1 σ v0 7 6) none fun w1 => bif (xcm v2 && xcm w1) then (if v2 = w1 then X iNode_writeConds 28 [(2, v0), (2, v1), (2, v2)] [] σ
    else xob (xfld xE1 σ v0 7 0) none fun w2 => xob (xfld xE1 σ w2 50 1) none fun w3 => (X iNode_writeWord 0 [(2, w3), (2, v1)] [] σ).bind fun q4 => X iNode_writeConds 28 [(2, v0), (2, v1), (2, v2)] [] q4.2)
  else none :=
  xev_eq (E := xE1) (F := xFk) (P := xPg) (inl := []) (stop := [5, 28, 50]) 13 iNode_writeConds 5 [(2, v0), (2, v1), (2, v2)] [] σ
set_option maxRecDepth 20000 in
theorem qNode_writeConds_28 (v0 v1 v2 : Int) (σ : xS) : X iNode_writeConds 28 [(2, v0), (2, v1), (2, v2)] [] σ =
  xob (xfld xE1 σ v0 7 0) none fun w1 => xob (xfld xE1 σ v0 7 6) none fun w2 => bif (xcm v2 && xcm w2) then (if v2 = w2 then (bif Nat.beq (xdp σ) 0 then none
      else (X iNode_writePart 0 [(2, v2), (2, w1), (0, 1), (2, v1), (9, 0)] [] (xsetdp σ (xdp σ - 1))).bind fun q3 => X iNode_writeConds 50 [(2, v0), (2, v1), (2, v2)] [] (xsetdp q3.2 (xdp σ)))
    else bif Nat.beq (xdp σ) 0 then none
    else (X iNode_writePart 0 [(2, v2), (2, w1), (0, 0), (2, v1), (9, 0)] [] (xsetdp σ (xdp σ - 1))).bind fun q4 => X iNode_writeConds 50 [(2, v0), (2, v1), (2, v2)] [] (xsetdp q4.2 (xdp σ)))
  else none :=
  xev_eq (E := xE1) (F := xFk) (P := xPg) (inl := []) (stop := [5, 28, 50]) 13 iNode_writeConds 28 [(2, v0), (2, v1), (2, v2)] [] σ
set_option maxRecDepth 20000 in
theorem qNode_writeConds_50 (v0 v1 v2 : Int) (σ : xS) : X iNode_writeConds 50 [(2, v0), (2, v1), (2, v2)] [] σ =
  xob (xfld xE1 σ v2 7 7) none fun w1 => X iNode_writeConds 5 [(2, v0), (2, v1), (2, w1)] [] σ :=
  xev_eq (E := xE1) (F := xFk) (P := xPg) (inl := []) (stop := [5, 28, 50]) 6 iNode_writeConds 50 [(2, v0), (2, v1), (2, v2)] [] σ
set_option maxRecDepth 20000 in
theorem qNode_writeIf_0 (a0 a1 : Int) (σ : xS) : X iNode_writeIf 0 [(2, a0), (2, a1), (9, 0), (9, 0)] [] σ =
  xob (xfld xE1 σ a0 7 6) none fun w1 => X iNode_writeIf 9 [(2, a0), (2, a1), (2, 16), (2, w1)] [] σ :=
  xev_eq (E := xE1) (F := xFk) (P := xPg) (inl := []) (stop := [9, 21, 26]) 7 iNode_writeIf 0 [(2, a0), (2, a1), (9, 0), (9, 0)] [] σ
set_option maxRecDepth 20000 in
theorem qNode_writeIf_9 (v1 v2 v3 : Int) (vw0 : xAV) (σ : xS) : X iNode_writeIf 9 [vw0, (2, v1), (2, v2), (2, v3)] [] σ =
  if v3 = 0 then some ((9, 0), σ)
  else xob (xfld xE1 σ v2 50 1) none fun w1 => (X iNode_writeWord 0 [(2, w1), (2, v1)] [] σ).bind fun q2 => X iNode_writeIf 21 [vw0, (2, v1), (2, v2), (2, v3)] [] q2.2 :=
  xev_eq (E := xE1) (F := xFk) (P := xPg) (inl := []) (stop := [9, 21, 26]) 8 iNode_writeIf 9 [vw0, (2, v1), (2, v2), (2, v3)] [] σ
set_option maxRecDepth 20000 in
theorem qNode_writeIf_21 (v1 v2 v3 : Int) (vw0 : xAV) (σ : xS) : X iNode_writeIf 21 [vw0, (2, v1), (2, v2), (2, v3)] [] σ =
  bif Nat.beq (xdp σ) 0 then none
  else (X iNode_write 0 [(2, v3), (2, v1)] [] (xsetdp σ (xdp σ - 1))).bind fun q1 => X iNode_writeIf 26 [vw0, (2, v1), (2, v2), (2, v3)] [] (xsetdp q1.2 (xdp σ)) :=
  xev_eq (E := xE1) (F := xFk) (P := xPg) (inl := []) (stop := [9, 21, 26]) 5 iNode_writeIf 21 [vw0, (2, v1), (2, v2), (2, v3)] [] σ
set_option maxRecDepth 20000 in
theorem qNode_writeIf_26 (v1 v2 v3 : Int) (vw0 : xAV) (σ : xS) : X iNode_writeIf 26 [vw0, (2, v1), (2, v2), (2, v3)] [] σ =
  bif (xcm v2 && xcm 16) then (if v2 = 16 then (xob (xfld xE1 σ v3 7 7) none fun w1 => X iNode_writeIf 9 [vw0, (2, v1), (2, 17), (2, w1)] [] σ)
    else xob (xfld xE1 σ v3 7 7) none fun w2 => X iNode_writeIf 9 [vw0, (2, v1), (2, 18), (2, w2)] [] σ)
  else none :=
  xev_eq (E := xE1) (F := xFk) (P := xPg) (inl := []) (stop := [9, 21, 26]) 12 iNode_writeIf 26 [vw0, (2, v1), (2, v2), (2, v3)] [] σ
set_option maxRecDepth 20000 in
theorem qNode_writeList_0 (a0 a1 : Int) (σ : xS) : X iNode_writeList 0 [(2, a0), (2, a1), (9, 0)] [] σ =
  xob (xfld xE1 σ a0 7 0) none fun w1 => xob (xfld xE1 σ w1 50 1) none fun w2 => (X iNode_writeWord 0 [(2, w2), (2, a1)] [] σ).bind fun q3 => X iNode_writeList 11 [(2, a0), (2, a1), (9, 0)] [] q3.2 :=
  xev_eq (E := xE1) (F := xFk) (P := xPg) (inl := []) (stop := [11, 17, 23, 41, 47, 61]) 7 iNode_writeList 0 [(2, a0), (2, a1), (9, 0)] [] σ
set_option maxRecDepth 20000 in
theorem qNode_writeList_11 (v0 v1 : Int) (vw2 : xAV) (σ : xS) : X iNode_writeList 11 [(2, v0), (2, v1), vw2] [] σ =
  bif xisO xE1 σ v1 1 then ((X iJB_append1 0 [(2, v1), (0, 40)] [] σ).bind fun q1 => X iNode_writeList 17 [(2, v0), (2, v1), vw2] [q1.1] q1.2)
  else none :=
  xev_eq (E := xE1) (F := xFk) (P := xPg) (inl := []) (stop := [11, 17, 23, 41, 47, 61]) 5 iNode_writeList 11 [(2, v0), (2, v1), vw2] [] σ
set_option maxRecDepth 20000 in
theorem qNode_writeList_17 (v0 v1 t0 : Int) (vw2 : xAV) (σ : xS) : X iNode_writeList 17 [(2, v0), (2, v1), vw2] [(2, t0)] σ =
  xob (xfld xE1 σ v0 7 6) none fun w1 => X iNode_writeList 23 [(2, v0), (2, v1), (2, w1)] [] σ :=
  xev_eq (E := xE1) (F := xFk) (P := xPg) (inl := []) (stop := [11, 17, 23, 41, 47, 61]) 6 iNode_writeList 17 [(2, v0), (2, v1), vw2] [(2, t0)] σ
set_option maxRecDepth 20000 in
theorem qNode_writeList_23 (v0 v1 v2 : Int) (σ : xS) : X iNode_writeList 23 [(2, v0), (2, v1), (2, v2)] [] σ =
  if v2 = 0 then (bif xisO xE1 σ v1 1 then ((X iJB_append1 0 [(2, v1), (0, 41)] [] σ).bind fun q1 => X iNode_writeList 61 [(2, v0), (2, v1), (2, v2)] [q1.1] q1.2)
    else none)
  else xob (xfld xE1 σ v0 7 6) none fun w2 => bif (xcm v2 && xcm w2) then (if v2 = w2 then (bif Nat.beq (xdp σ) 0 then none
      else (X iNode_write 0 [(2, v2), (2, v1)] [] (xsetdp σ (xdp σ - 1))).bind fun q3 => X iNode_writeList 47 [(2, v0), (2, v1), (2, v2)] [] (xsetdp q3.2 (xdp σ)))
    else bif xisO xE1 σ v1 1 then ((X iJB_append1 0 [(2, v1), (0, 44)] [] σ).bind fun q4 => X iNode_writeList 41 [(2, v0), (2, v1), (2, v2)] [q4.1] q4.2)
    else none)
  else none :=
  xev_eq (E := xE1) (F := xFk) (P := xPg) (inl := []) (stop := [11, 17, 23, 41, 47, 61]) 11 iNode_writeList 23 [(2, v0), (2, v1), (2, v2)] [] σ
set_option maxRecDepth 20000 in
theorem qNode_writeList_41 (v0 v1 v2 t0 : Int) (σ : xS) : X iNode_writeList 41 [(2, v0), (2, v1), (2, v2)] [(2, t0)] σ =
  bif Nat.beq (xdp σ) 0 then none
  else (X iNode_write 0 [(2, v2), (2, v1)] [] (xsetdp σ (xdp σ - 1))).bind fun q1 => X iNode_writeList 47 [(2, v0), (2, v1), (2, v2)] [] (xsetdp q1.2 (xdp σ)) :=
  xev_eq (E := xE1) (F := xFk) (P := xPg) (inl := []) (stop := [11, 17, 23, 41, 47, 61]) 6 iNode_writeList 41 [(2, v0), (2, v1), (2, v2)] [(2, t0)] σ
set_option maxRecDepth 20000 in
theorem qNode_writeList_47 (v0 v1 v2 : Int) (σ : xS) : X iNode_writeList 47 [(2, v0), (2, v1), (2, v2)] [] σ =
  xob (xfld xE1 σ v2 7 7) none fun w1 => X iNode_writeList 23 [(2, v0), (2, v1), (2, w1)] [] σ :=
  xev_eq (E := xE1) (F := xFk) (P := xPg) (inl := []) (stop := [11, 17, 23, 41, 47, 61]) 6 iNode_writeList 47 [(2, v0), (2, v1), (2, v2)] [] σ
set_option maxRecDepth 20000 in
theorem qNode_writeList_61 (t0 : Int) (vw0 vw1 vw2 : xAV) (σ : xS) : X iNode_writeList 61 [vw0, vw1, vw2] [(2, t0)] σ =
  some ((9, 0), σ) :=
  xev_eq (E := xE1) (F := xFk) (P := xPg) (inl := []) (stop := [11, 17, 23, 41, 47, 61]) 4 iNode_writeList 61 [vw0, vw1, vw2] [(2, t0)] σ
set_option maxRecDepth 20000 in
theorem qNode_writePart_0 (a0 a1 a2 a3 : Int) (σ : xS) : X iNode_writePart 0 [(2, a0), (2, a1), (0, a2), (2, a3), (9, 0)] [] σ =
  if a0 = 0 then some ((9, 0), σ)
  else xob (xfld xE1 σ a0 7 0) none fun w1 => (X iNode_isHeldApart 0 [(2, w1), (2, a1), (0, a2)] [] σ).bind fun q2 => X iNode_writePart 14 [(2, a0), (2, a1), (0, a2), (2, a3), (9, 0)] [q2.1] q2.2 :=
  xev_eq (E := xE1) (F := xFk) (P := xPg) (inl := []) (stop := [14, 22, 66, 72, 88]) 9 iNode_writePart 0 [(2, a0), (2, a1), (0, a2), (2, a3), (9, 0)] [] σ
set_option maxRecDepth 20000 in
theorem qNode_writePart_14 (v0 v3 t0 : Int) (vw1 vw2 vw4 : xAV) (σ : xS) : X iNode_writePart 14 [(2, v0), vw1, vw2, (2, v3), vw4] [(0, t0)] σ =
  if t0 = 0 then (bif Nat.beq (xdp σ) 0 then none
    else (X iNode_write 0 [(2, v0), (2, v3)] [] (xsetdp σ (xdp σ - 1))).bind fun q1 => X iNode_writePart 22 [(2, v0), vw1, vw2, (2, v3), vw4] [] (xsetdp q1.2 (xdp σ)))
  else xob (xfld xE1 σ v0 7 0) none fun w2 => bif (xcm w2 && xcm 21) then (if w2 = 21 then (bif xisO xE1 σ v3 1 then ((X iJB_append1 0 [(2, v3), (0, 91)] [] σ).bind fun q3 => X iNode_writePart 66 [(2, v0), vw1, vw2, (2, v3), (0, 1)] [q3.1] q3.2)
      else none)
    else xob (xfld xE1 σ v0 7 0) none fun w4 => bif (xcm w4 && xcm 22) then (if w4 = 22 then (bif xisO xE1 σ v3 1 then ((X iJB_append1 0 [(2, v3), (0, 91)] [] σ).bind fun q5 => X iNode_writePart 66 [(2, v0), vw1, vw2, (2, v3), (0, 1)] [q5.1] q5.2)
        else none)
      else bif xisO xE1 σ v3 1 then ((X iJB_append1 0 [(2, v3), (0, 40)] [] σ).bind fun q6 => X iNode_writePart 66 [(2, v0), vw1, vw2, (2, v3), (0, 0)] [q6.1] q6.2)
      else none)
    else none)
  else none :=
  xev_eq (E := xE1) (F := xFk) (P := xPg) (inl := []) (stop := [14, 22, 66, 72, 88]) 20 iNode_writePart 14 [(2, v0), vw1, vw2, (2, v3), vw4] [(0, t0)] σ
set_option maxRecDepth 20000 in
theorem qNode_writePart_22 (vw0 vw1 vw2 vw3 vw4 : xAV) (σ : xS) : X iNode_writePart 22 [vw0, vw1, vw2, vw3, vw4] [] σ =
  some ((9, 0), σ) :=
  xev_eq (E := xE1) (F := xFk) (P := xPg) (inl := []) (stop := [14, 22, 66, 72, 88]) 3 iNode_writePart 22 [vw0, vw1, vw2, vw3, vw4] [] σ
set_option maxRecDepth 20000 in
theorem qNode_writePart_66 (v0 v3 v4 t0 : Int) (vw1 vw2 : xAV) (σ : xS) : X iNode_writePart 66 [(2, v0), vw1, vw2, (2, v3), (0, v4)] [(2, t0)] σ =
  bif Nat.beq (xdp σ) 0 then none
  else (X iNode_write 0 [(2, v0), (2, v3)] [] (xsetdp σ (xdp σ - 1))).bind fun q1 => X iNode_writePart 72 [(2, v0), vw1, vw2, (2, v3), (0, v4)] [] (xsetdp q1.2 (xdp σ)) :=
  xev_eq (E := xE1) (F := xFk) (P := xPg) (inl := []) (stop := [14, 22, 66, 72, 88]) 6 iNode_writePart 66 [(2, v0), vw1, vw2, (2, v3), (0, v4)] [(2, t0)] σ
set_option maxRecDepth 20000 in
theorem qNode_writePart_72 (v3 v4 : Int) (vw0 vw1 vw2 : xAV) (σ : xS) : X iNode_writePart 72 [vw0, vw1, vw2, (2, v3), (0, v4)] [] σ =
  if v4 = 0 then (bif xisO xE1 σ v3 1 then ((X iJB_append1 0 [(2, v3), (0, 41)] [] σ).bind fun q1 => X iNode_writePart 88 [vw0, vw1, vw2, (2, v3), (0, v4)] [q1.1] q1.2)
    else none)
  else bif xisO xE1 σ v3 1 then ((X iJB_append1 0 [(2, v3), (0, 93)] [] σ).bind fun q2 => X iNode_writePart 88 [vw0, vw1, vw2, (2, v3), (0, v4)] [q2.1] q2.2)
  else none :=
  xev_eq (E := xE1) (F := xFk) (P := xPg) (inl := []) (stop := [14, 22, 66, 72, 88]) 8 iNode_writePart 72 [vw0, vw1, vw2, (2, v3), (0, v4)] [] σ
set_option maxRecDepth 20000 in
theorem qNode_writePart_88 (t0 : Int) (vw0 vw1 vw2 vw3 vw4 : xAV) (σ : xS) : X iNode_writePart 88 [vw0, vw1, vw2, vw3, vw4] [(2, t0)] σ =
  some ((9, 0), σ) :=
  xev_eq (E := xE1) (F := xFk) (P := xPg) (inl := []) (stop := [14, 22, 66, 72, 88]) 4 iNode_writePart 88 [vw0, vw1, vw2, vw3, vw4] [(2, t0)] σ
set_option maxRecDepth 20000 in
theorem qNode_isHeldApart_0 (a0 a1 a2 : Int) (σ : xS) : X iNode_isHeldApart 0 [(2, a0), (2, a1), (0, a2)] [] σ =
  bif xisO xE1 σ a1 50 then (xob (xfld xE1 σ a1 50 0) none fun w1 => if xin w1 38 then (if (xag xE1 σ 41 w1.toNat) = 9 then (bif (xcm a0 && xcm 16) then (if a0 = 16 then some ((0, 1), σ)
          else bif (xcm a0 && xcm 36) then (if a0 = 36 then (if a2 = 0 then some ((0, 1), σ)
              else some ((0, 0), σ))
            else some ((0, 0), σ))
          else none)
        else none)
      else if (xag xE1 σ 41 w1.toNat) = 10 then (bif (xcm a0 && xcm 16) then (if a0 = 16 then some ((0, 1), σ)
          else bif (xcm a0 && xcm 36) then (if a0 = 36 then some ((0, 1), σ)
            else bif (xcm a0 && xcm 37) then (if a0 = 37 then (if a2 = 0 then some ((0, 1), σ)
                else some ((0, 0), σ))
              else some ((0, 0), σ))
            else none)
          else none)
        else none)
      else if (xag xE1 σ 41 w1.toNat) = 11 then (bif (xcm a0 && xcm 16) then (if a0 = 16 then some ((0, 1), σ)
          else some ((0, 0), σ))
        else none)
      else if (xag xE1 σ 41 w1.toNat) = 12 then (bif (xcm a0 && xcm 16) then (if a0 = 16 then some ((0, 1), σ)
          else bif (xcm a0 && xcm 36) then (if a0 = 36 then some ((0, 1), σ)
            else bif (xcm a0 && xcm 37) then (if a0 = 37 then some ((0, 1), σ)
              else some ((0, 0), σ))
            else none)
          else none)
        else none)
      else if (xag xE1 σ 41 w1.toNat) = 13 then some ((0, 0), σ)
      else if (xag xE1 σ 41 w1.toNat) = 14 then (bif (xcm a0 && xcm 21) then (if a0 = 21 then some ((0, 1), σ)
          else some ((0, 0), σ))
        else none)
      else if (xag xE1 σ 41 w1.toNat) = 15 then (bif (xcm a0 && xcm 21) then (if a0 = 21 then some ((0, 1), σ)
          else bif (xcm a0 && xcm 22) then (if a0 = 22 then some ((0, 1), σ)
            else some ((0, 0), σ))
          else none)
        else none)
      else some ((0, 0), σ))
    else none)
  else none :=
  xev_eq (E := xE1) (F := xFk) (P := xPg) (inl := [356]) (stop := []) 24 iNode_isHeldApart 0 [(2, a0), (2, a1), (0, a2)] [] σ
set_option maxRecDepth 20000 in
theorem qNode_writeWord_0 (a0 a1 : Int) (σ : xS) : X iNode_writeWord 0 [(2, a0), (2, a1)] [] σ =
  (X iNode_partFromWord 0 [(2, a1), (9, 0)] [] σ).bind fun q1 => X iNode_writeWord 4 [(2, a0), (2, a1)] [] q1.2 :=
  xev_eq (E := xE1) (F := xFk) (P := xPg) (inl := []) (stop := [4, 9]) 4 iNode_writeWord 0 [(2, a0), (2, a1)] [] σ
set_option maxRecDepth 20000 in
theorem qNode_writeWord_4 (v0 v1 : Int) (σ : xS) : X iNode_writeWord 4 [(2, v0), (2, v1)] [] σ =
  bif xisO xE1 σ v1 1 then ((X iJB_append3 0 [(2, v1), (2, v0)] [] σ).bind fun q1 => X iNode_writeWord 9 [(2, v0), (2, v1)] [q1.1] q1.2)
  else none :=
  xev_eq (E := xE1) (F := xFk) (P := xPg) (inl := []) (stop := [4, 9]) 5 iNode_writeWord 4 [(2, v0), (2, v1)] [] σ
set_option maxRecDepth 20000 in
theorem qNode_writeWord_9 (t0 : Int) (vw0 vw1 : xAV) (σ : xS) : X iNode_writeWord 9 [vw0, vw1] [(2, t0)] σ =
  some ((9, 0), σ) :=
  xev_eq (E := xE1) (F := xFk) (P := xPg) (inl := []) (stop := [4, 9]) 4 iNode_writeWord 9 [vw0, vw1] [(2, t0)] σ
set_option maxRecDepth 20000 in
theorem qNode_writeNumber_0 (a0 a1 : Int) (σ : xS) : X iNode_writeNumber 0 [(0, a0), (2, a1)] [] σ =
  (X iNode_partFromWord 0 [(2, a1), (9, 0)] [] σ).bind fun q1 => X iNode_writeNumber 4 [(0, a0), (2, a1)] [] q1.2 :=
  xev_eq (E := xE1) (F := xFk) (P := xPg) (inl := []) (stop := [4, 9]) 4 iNode_writeNumber 0 [(0, a0), (2, a1)] [] σ
set_option maxRecDepth 20000 in
theorem qNode_writeNumber_4 (v0 v1 : Int) (σ : xS) : X iNode_writeNumber 4 [(0, v0), (2, v1)] [] σ =
  bif xisO xE1 σ v1 1 then ((X iJB_append2 0 [(2, v1), (0, v0)] [] σ).bind fun q1 => X iNode_writeNumber 9 [(0, v0), (2, v1)] [q1.1] q1.2)
  else none :=
  xev_eq (E := xE1) (F := xFk) (P := xPg) (inl := []) (stop := [4, 9]) 5 iNode_writeNumber 4 [(0, v0), (2, v1)] [] σ
set_option maxRecDepth 20000 in
theorem qNode_writeNumber_9 (t0 : Int) (vw0 vw1 : xAV) (σ : xS) : X iNode_writeNumber 9 [vw0, vw1] [(2, t0)] σ =
  some ((9, 0), σ) :=
  xev_eq (E := xE1) (F := xFk) (P := xPg) (inl := []) (stop := [4, 9]) 4 iNode_writeNumber 9 [vw0, vw1] [(2, t0)] σ
set_option maxRecDepth 20000 in
theorem qNode_partFromWord_0 (a0 : Int) (σ : xS) : X iNode_partFromWord 0 [(2, a0), (9, 0)] [] σ =
  bif xisO xE1 σ a0 1 then (bif xisO xE1 σ a0 1 then (xob (xfld xE1 σ a0 1 3) none fun w1 => if 0 < w1 then (bif xisO xE1 σ a0 1 then ((X iJB_charAt 0 [(2, a0), (0, (xw (w1 - 1)))] [] σ).bind fun q2 => X iNode_partFromWord 16 [(2, a0), (0, w1)] [q2.1] q2.2)
        else none)
      else some ((9, 0), σ))
    else none)
  else none :=
  xev_eq (E := xE1) (F := xFk) (P := xPg) (inl := [271, 272, 350, 383]) (stop := [16, 29, 41]) 18 iNode_partFromWord 0 [(2, a0), (9, 0)] [] σ
set_option maxRecDepth 20000 in
theorem qNode_partFromWord_16 (v0 v1 t0 : Int) (σ : xS) : X iNode_partFromWord 16 [(2, v0), (0, v1)] [(0, t0)] σ =
  if t0 < 97 then (bif xisO xE1 σ v0 1 then ((X iJB_charAt 0 [(2, v0), (0, (xw (v1 - 1)))] [] σ).bind fun q1 => X iNode_partFromWord 29 [(2, v0), (0, v1)] [q1.1] q1.2)
    else none)
  else if 122 < t0 then (bif xisO xE1 σ v0 1 then ((X iJB_charAt 0 [(2, v0), (0, (xw (v1 - 1)))] [] σ).bind fun q2 => X iNode_partFromWord 29 [(2, v0), (0, v1)] [q2.1] q2.2)
    else none)
  else bif xisO xE1 σ v0 1 then ((X iJB_append1 0 [(2, v0), (0, 32)] [] σ).bind fun q3 => X iNode_partFromWord 41 [(2, v0), (0, v1)] [q3.1] q3.2)
  else none :=
  xev_eq (E := xE1) (F := xFk) (P := xPg) (inl := [271, 272, 350, 383]) (stop := [16, 29, 41]) 17 iNode_partFromWord 16 [(2, v0), (0, v1)] [(0, t0)] σ
set_option maxRecDepth 20000 in
theorem qNode_partFromWord_29 (v0 t0 : Int) (vw1 : xAV) (σ : xS) : X iNode_partFromWord 29 [(2, v0), vw1] [(0, t0)] σ =
  if t0 < 48 then some ((9, 0), σ)
  else if 57 < t0 then some ((9, 0), σ)
  else bif xisO xE1 σ v0 1 then ((X iJB_append1 0 [(2, v0), (0, 32)] [] σ).bind fun q1 => X iNode_partFromWord 41 [(2, v0), vw1] [q1.1] q1.2)
  else none :=
  xev_eq (E := xE1) (F := xFk) (P := xPg) (inl := [271, 272, 350, 383]) (stop := [16, 29, 41]) 16 iNode_partFromWord 29 [(2, v0), vw1] [(0, t0)] σ
set_option maxRecDepth 20000 in
theorem qNode_partFromWord_41 (t0 : Int) (vw0 vw1 : xAV) (σ : xS) : X iNode_partFromWord 41 [vw0, vw1] [(2, t0)] σ =
  some ((9, 0), σ) :=
  xev_eq (E := xE1) (F := xFk) (P := xPg) (inl := [271, 272, 350, 383]) (stop := [16, 29, 41]) 4 iNode_partFromWord 41 [vw0, vw1] [(2, t0)] σ

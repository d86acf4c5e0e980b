set_option maxRecDepth 20000 in
theorem qM_last_0 (a1 a2 a3 : Int) (σ : xS) : X iM_last 0 [(2, 305), (0, a1), (0, a2), (0, a3), (9, 0), (9, 0)] [] σ =
  X iM_last 6 [(2, 305), (0, a1), (0, a2), (0, a3), (0, (-1)), (0, 0)] [] σ :=
  xev_eq (E := xE1) (F := xFk) (P := xPg) (inl := [17]) (stop := [6]) 6 iM_last 0 [(2, 305), (0, a1), (0, a2), (0, a3), (9, 0), (9, 0)] [] σ
set_option maxRecDepth 20000 in
theorem qM_last_6 (v1 v2 v3 v4 v5 : Int) (σ : xS) : X iM_last 6 [(2, 305), (0, v1), (0, v2), (0, v3), (0, v4), (0, v5)] [] σ =
  if v5 < (xg σ 305 22) then (if xin v5 600 then (if (xg σ 318 v5.toNat) = v1 then (if xin v5 600 then (if v2 < (xg σ 319 v5.toNat) then X iM_last 6 [(2, 305), (0, v1), (0, v2), (0, v3), (0, v4), (0, (xw (v5 + 1)))] [] σ
          else if xin v5 600 then (if v3 < (xg σ 321 v5.toNat) then X iM_last 6 [(2, 305), (0, v1), (0, v2), (0, v3), (0, v4), (0, (xw (v5 + 1)))] [] σ
            else if xin v5 600 then (if (xg σ 322 v5.toNat) < 0 then (if v4 < 0 then X iM_last 6 [(2, 305), (0, v1), (0, v2), (0, v3), (0, v5), (0, (xw (v5 + 1)))] [] σ
                else if xin v5 600 then (if xin v4 600 then (if (xg σ 319 v5.toNat) < (xg σ 319 v4.toNat) then X iM_last 6 [(2, 305), (0, v1), (0, v2), (0, v3), (0, v4), (0, (xw (v5 + 1)))] [] σ
                    else X iM_last 6 [(2, 305), (0, v1), (0, v2), (0, v3), (0, v5), (0, (xw (v5 + 1)))] [] σ)
                  else none)
                else none)
              else if xin v5 600 then (if v3 < (xg σ 322 v5.toNat) then (if v4 < 0 then X iM_last 6 [(2, 305), (0, v1), (0, v2), (0, v3), (0, v5), (0, (xw (v5 + 1)))] [] σ
                  else if xin v5 600 then (if xin v4 600 then (if (xg σ 319 v5.toNat) < (xg σ 319 v4.toNat) then X iM_last 6 [(2, 305), (0, v1), (0, v2), (0, v3), (0, v4), (0, (xw (v5 + 1)))] [] σ
                      else X iM_last 6 [(2, 305), (0, v1), (0, v2), (0, v3), (0, v5), (0, (xw (v5 + 1)))] [] σ)
                    else none)
                  else none)
                else X iM_last 6 [(2, 305), (0, v1), (0, v2), (0, v3), (0, v4), (0, (xw (v5 + 1)))] [] σ)
              else none)
            else none)
          else none)
        else none)
      else X iM_last 6 [(2, 305), (0, v1), (0, v2), (0, v3), (0, v4), (0, (xw (v5 + 1)))] [] σ)
    else none)
  else some ((0, v4), σ) :=
  xev_eq (E := xE1) (F := xFk) (P := xPg) (inl := [17]) (stop := [6]) 58 iM_last 6 [(2, 305), (0, v1), (0, v2), (0, v3), (0, v4), (0, v5)] [] σ
set_option maxRecDepth 20000 in
theorem qM_isAsked_0 (a1 a2 a3 : Int) (σ : xS) : X iM_isAsked 0 [(2, 305), (0, a1), (0, a2), (0, a3)] [] σ =
  if a1 < 0 then some ((0, 0), σ)
  else if a1 < (xg σ 305 15) then (if a2 < 0 then some ((0, 0), σ)
    else if 1000 < a2 then some ((0, 0), σ)
    else if a3 < 0 then some ((0, 0), σ)
    else if 1000 < a3 then some ((0, 0), σ)
    else if xin a1 150 then (if a2 < (xg σ 317 a1.toNat) then some ((0, 0), σ)
      else if xin a1 150 then (if a3 < (xg σ 317 a1.toNat) then some ((0, 0), σ)
        else some ((0, 1), σ))
      else none)
    else none)
  else some ((0, 0), σ) :=
  xev_eq (E := xE1) (F := xFk) (P := xPg) (inl := [7, 8]) (stop := []) 52 iM_isAsked 0 [(2, 305), (0, a1), (0, a2), (0, a3)] [] σ
set_option maxRecDepth 20000 in
theorem qM_gather_0 (a1 a2 a3 : Int) (σ : xS) : X iM_gather 0 [(2, 305), (0, a1), (0, a2), (0, a3), (9, 0), (9, 0)] [] σ =
  X iM_gather 8 [(2, 305), (0, a1), (0, a2), (0, a3), (0, 0), (9, 0)] [] (xs σ 305 25 0) :=
  xev_eq (E := xE1) (F := xFk) (P := xPg) (inl := [17]) (stop := [8, 58]) 7 iM_gather 0 [(2, 305), (0, a1), (0, a2), (0, a3), (9, 0), (9, 0)] [] σ
set_option maxRecDepth 20000 in
theorem qM_gather_8 (v1 v2 v3 v4 : Int) (vw5 : xAV) (σ : xS) : X iM_gather 8 [(2, 305), (0, v1), (0, v2), (0, v3), (0, v4), vw5] [] σ =
  if v4 < (xg σ 305 22) then (if xin v4 600 then (if (xg σ 318 v4.toNat) = v1 then (if xin v4 600 then (if v2 < (xg σ 319 v4.toNat) then X iM_gather 8 [(2, 305), (0, v1), (0, v2), (0, v3), (0, (xw (v4 + 1))), vw5] [] σ
          else if xin v4 600 then (if v3 < (xg σ 321 v4.toNat) then X iM_gather 8 [(2, 305), (0, v1), (0, v2), (0, v3), (0, (xw (v4 + 1))), vw5] [] σ
            else if xin v4 600 then (if (xg σ 322 v4.toNat) < 0 then X iM_gather 58 [(2, 305), (0, v1), (0, v2), (0, v3), (0, v4), (0, (xg σ 305 25))] [] σ
              else if xin v4 600 then (if v3 < (xg σ 322 v4.toNat) then X iM_gather 58 [(2, 305), (0, v1), (0, v2), (0, v3), (0, v4), (0, (xg σ 305 25))] [] σ
                else X iM_gather 8 [(2, 305), (0, v1), (0, v2), (0, v3), (0, (xw (v4 + 1))), vw5] [] σ)
              else none)
            else none)
          else none)
        else none)
      else X iM_gather 8 [(2, 305), (0, v1), (0, v2), (0, v3), (0, (xw (v4 + 1))), vw5] [] σ)
    else none)
  else some ((9, 0), σ) :=
  xev_eq (E := xE1) (F := xFk) (P := xPg) (inl := [17]) (stop := [8, 58]) 46 iM_gather 8 [(2, 305), (0, v1), (0, v2), (0, v3), (0, v4), vw5] [] σ
set_option maxRecDepth 20000 in
theorem qM_gather_58 (v1 v2 v3 v4 v5 : Int) (σ : xS) : X iM_gather 58 [(2, 305), (0, v1), (0, v2), (0, v3), (0, v4), (0, v5)] [] σ =
  if 0 < v5 then (if xin (xw (v5 - 1)) 600 then (if xin (xg σ 324 (xw (v5 - 1)).toNat) 600 then (if xin v4 600 then (if (xg σ 319 v4.toNat) < (xg σ 319 (xg σ 324 (xw (v5 - 1)).toNat).toNat) then (if xin (xw (v5 - 1)) 600 then (if xin v5 600 then X iM_gather 58 [(2, 305), (0, v1), (0, v2), (0, v3), (0, v4), (0, (xw (v5 + (-1))))] [] (xs σ 324 v5.toNat (xg σ 324 (xw (v5 - 1)).toNat))
              else none)
            else none)
          else if xin v5 600 then X iM_gather 8 [(2, 305), (0, v1), (0, v2), (0, v3), (0, (xw (v4 + 1))), (0, v5)] [] (xs (xs σ 324 v5.toNat v4) 305 25 (xw ((xg σ 305 25) + 1)))
          else none)
        else none)
      else none)
    else none)
  else if xin v5 600 then X iM_gather 8 [(2, 305), (0, v1), (0, v2), (0, v3), (0, (xw (v4 + 1))), (0, v5)] [] (xs (xs σ 324 v5.toNat v4) 305 25 (xw ((xg σ 305 25) + 1)))
  else none :=
  xev_eq (E := xE1) (F := xFk) (P := xPg) (inl := [17]) (stop := [8, 58]) 31 iM_gather 58 [(2, 305), (0, v1), (0, v2), (0, v3), (0, v4), (0, v5)] [] σ
set_option maxRecDepth 20000 in
theorem qM_heat_0 (a1 a2 a3 : Int) (σ : xS) : X iM_heat 0 [(2, 305), (0, a1), (0, a2), (0, a3)] [] σ =
  if a1 < 0 then some ((0, (-1)), σ)
  else if (xg σ 305 0) < a1 then some ((0, (-1)), σ)
  else if a2 < 0 then some ((0, (-1)), σ)
  else if 120 < a2 then some ((0, (-1)), σ)
  else if a3 < 0 then some ((0, (-1)), σ)
  else if 200 < a3 then some ((0, (-1)), σ)
  else if (xg σ 305 30) = 60 then some ((0, (-1)), σ)
  else if xin (xg σ 305 30) 60 then (if xin (xg σ 305 30) 60 then (if xin (xg σ 305 30) 60 then (if xin (xg σ 305 30) 60 then some ((0, (xw ((xg σ 305 30) + 1))), (xs (xs (xs (xs (xs σ 325 (xg σ 305 30).toNat a1) 326 (xg σ 305 30).toNat a2) 327 (xg σ 305 30).toNat a3) 328 (xg σ 305 30).toNat (xg σ 305 0)) 305 30 (xw ((xg σ 305 30) + 1))))
        else none)
      else none)
    else none)
  else none :=
  xev_eq (E := xE1) (F := xFk) (P := xPg) (inl := [1]) (stop := []) 74 iM_heat 0 [(2, 305), (0, a1), (0, a2), (0, a3)] [] σ
set_option maxRecDepth 20000 in
theorem qC_sort_0 (a1 a2 a3 a4 a5 : Int) (σ : xS) : X iC_sort 0 [(2, 200), (0, a1), (0, a2), (0, a3), (0, a4), (0, a5), (9, 0)] [] σ =
  if a1 < 1 then some ((0, (-1)), σ)
  else if 60 < a1 then some ((0, (-1)), σ)
  else if a2 < 0 then some ((0, (-1)), σ)
  else if 3 < a2 then some ((0, (-1)), σ)
  else if a3 < 1 then some ((0, (-1)), σ)
  else if 90 < a3 then some ((0, (-1)), σ)
  else if a4 < 1 then some ((0, (-1)), σ)
  else if 250 < a4 then some ((0, (-1)), σ)
  else if a5 < 1 then some ((0, (-1)), σ)
  else if 1000 < a5 then some ((0, (-1)), σ)
  else if (xg σ 201 5) < 6 then ((X iSorts_add 0 [(2, 201), (0, a1), (0, a2), (0, a3), (0, a4), (0, a5)] [] σ).bind fun q1 => X iC_sort 91 [(2, 200), (0, a1), (0, a2), (0, a3), (0, a4), (0, a5), (0, 1)] [q1.1] q1.2)
  else some ((0, (-1)), σ) :=
  xev_eq (E := xE1) (F := xFk) (P := xPg) (inl := [172]) (stop := [91]) 90 iC_sort 0 [(2, 200), (0, a1), (0, a2), (0, a3), (0, a4), (0, a5), (9, 0)] [] σ
set_option maxRecDepth 20000 in
theorem qC_sort_91 (t0 : Int) (vw0 vw1 vw2 vw3 vw4 vw5 vw6 : xAV) (σ : xS) : X iC_sort 91 [vw0, vw1, vw2, vw3, vw4, vw5, vw6] [(0, t0)] σ =
  some ((0, t0), σ) :=
  xev_eq (E := xE1) (F := xFk) (P := xPg) (inl := [172]) (stop := [91]) 4 iC_sort 91 [vw0, vw1, vw2, vw3, vw4, vw5, vw6] [(0, t0)] σ
set_option maxRecDepth 20000 in
theorem qNode_writePart_0 (a0 a1 a2 a3 : Int) (σ : xS) : X iNode_writePart 0 [(2, a0), (2, a1), (0, a2), (2, a3), (9, 0)] [] σ =
  if a0 = 0 then some ((9, 0), σ)
  else xob (xfld xE1 σ a0 7 0) none fun w1 => (X iNode_isHeldApart 0 [(2, w1), (2, a1), (0, a2)] [] σ).bind fun q2 => X iNode_writePart 14 [(2, a0), (2, a1), (0, a2), (2, a3), (9, 0)] [q2.1] q2.2 :=
  xev_eq (E := xE1) (F := xFk) (P := xPg) (inl := []) (stop := [14, 22, 66, 72, 88]) 9 iNode_writePart 0 [(2, a0), (2, a1), (0, a2), (2, a3), (9, 0)] [] σ
set_option maxRecDepth 20000 in
theorem qNode_writePart_14 (v0 v3 t0 : Int) (vw1 vw2 vw4 : xAV) (σ : xS) : X iNode_writePart 14 [(2, v0), vw1, vw2, (2, v3), vw4] [(0, t0)] σ =
  if t0 = 0 then (bif Nat.beq (xdp σ) 0 then none
    else (X iNode_write 0 [(2, v0), (2, v3)] [] (xsetdp σ (xdp σ - 1))).bind fun q1 => X iNode_writePart 22 [(2, v0), vw1, vw2, (2, v3), vw4] [] (xsetdp q1.2 (xdp σ)))
  else xob (xfld xE1 σ v0 7 0) none fun w2 => if w2 = 21 then (bif xisO xE1 σ v3 1 then ((X iJB_append1 0 [(2, v3), (0, 91)] [] σ).bind fun q3 => X iNode_writePart 66 [(2, v0), vw1, vw2, (2, v3), (0, 1)] [q3.1] q3.2)
    else none)
  else xob (xfld xE1 σ v0 7 0) none fun w4 => if w4 = 22 then (bif xisO xE1 σ v3 1 then ((X iJB_append1 0 [(2, v3), (0, 91)] [] σ).bind fun q5 => X iNode_writePart 66 [(2, v0), vw1, vw2, (2, v3), (0, 1)] [q5.1] q5.2)
    else none)
  else bif xisO xE1 σ v3 1 then ((X iJB_append1 0 [(2, v3), (0, 40)] [] σ).bind fun q6 => X iNode_writePart 66 [(2, v0), vw1, vw2, (2, v3), (0, 0)] [q6.1] q6.2)
  else none :=
  xev_eq (E := xE1) (F := xFk) (P := xPg) (inl := []) (stop := [14, 22, 66, 72, 88]) 20 iNode_writePart 14 [(2, v0), vw1, vw2, (2, v3), vw4] [(0, t0)] σ
set_option maxRecDepth 20000 in
theorem qNode_writePart_22 (vw0 vw1 vw2 vw3 vw4 : xAV) (σ : xS) : X iNode_writePart 22 [vw0, vw1, vw2, vw3, vw4] [] σ =
  some ((9, 0), σ) :=
  xev_eq (E := xE1) (F := xFk) (P := xPg) (inl := []) (stop := [14, 22, 66, 72, 88]) 3 iNode_writePart 22 [vw0, vw1, vw2, vw3, vw4] [] σ
set_option maxRecDepth 20000 in
theorem qNode_writePart_66 (v0 v3 v4 t0 : Int) (vw1 vw2 : xAV) (σ : xS) : X iNode_writePart 66 [(2, v0), vw1, vw2, (2, v3), (0, v4)] [(2, t0)] σ =
  bif Nat.beq (xdp σ) 0 then none
  else (X iNode_write 0 [(2, v0), (2, v3)] [] (xsetdp σ (xdp σ - 1))).bind fun q1 => X iNode_writePart 72 [(2, v0), vw1, vw2, (2, v3), (0, v4)] [] (xsetdp q1.2 (xdp σ)) :=
  xev_eq (E := xE1) (F := xFk) (P := xPg) (inl := []) (stop := [14, 22, 66, 72, 88]) 6 iNode_writePart 66 [(2, v0), vw1, vw2, (2, v3), (0, v4)] [(2, t0)] σ
set_option maxRecDepth 20000 in
theorem qNode_writePart_72 (v3 v4 : Int) (vw0 vw1 vw2 : xAV) (σ : xS) : X iNode_writePart 72 [vw0, vw1, vw2, (2, v3), (0, v4)] [] σ =
  if v4 = 0 then (bif xisO xE1 σ v3 1 then ((X iJB_append1 0 [(2, v3), (0, 41)] [] σ).bind fun q1 => X iNode_writePart 88 [vw0, vw1, vw2, (2, v3), (0, v4)] [q1.1] q1.2)
    else none)
  else bif xisO xE1 σ v3 1 then ((X iJB_append1 0 [(2, v3), (0, 93)] [] σ).bind fun q2 => X iNode_writePart 88 [vw0, vw1, vw2, (2, v3), (0, v4)] [q2.1] q2.2)
  else none :=
  xev_eq (E := xE1) (F := xFk) (P := xPg) (inl := []) (stop := [14, 22, 66, 72, 88]) 8 iNode_writePart 72 [vw0, vw1, vw2, (2, v3), (0, v4)] [] σ
set_option maxRecDepth 20000 in
theorem qNode_writePart_88 (t0 : Int) (vw0 vw1 vw2 vw3 vw4 : xAV) (σ : xS) : X iNode_writePart 88 [vw0, vw1, vw2, vw3, vw4] [(2, t0)] σ =
  some ((9, 0), σ) :=
  xev_eq (E := xE1) (F := xFk) (P := xPg) (inl := []) (stop := [14, 22, 66, 72, 88]) 4 iNode_writePart 88 [vw0, vw1, vw2, vw3, vw4] [(2, t0)] σ

/-! equations, written by a program (wip/whole/gen) -/
set_option maxRecDepth 20000 in
theorem qM_sheet_0 (a1 a2 : Int) (σ : xS) : X iM_sheet 0 [(2, 305), (0, a1), (0, a2)] [] σ =
  if a1 < 0 then some ((0, (-1)), σ)
  else if a1 < (σ.1 305 6) then (if a2 < 0 then some ((0, (-1)), σ)
    else if 3 < a2 then some ((0, (-1)), σ)
    else if (σ.1 305 15) = 150 then some ((0, (-1)), σ)
    else if xin (σ.1 305 15) 150 then (if xin (σ.1 305 15) 150 then (if xin (σ.1 305 15) 150 then some ((0, (xw ((xw ((σ.1 305 15) + 1)) - 1))), (xs (xs (xs (xs σ 315 (σ.1 305 15).toNat a1) 316 (σ.1 305 15).toNat a2) 317 (σ.1 305 15).toNat (σ.1 305 0)) 305 15 (xw ((σ.1 305 15) + 1))))
        else none)
      else none)
    else none)
  else some ((0, (-1)), σ) :=
  xev_eq (E := xE1) (F := xFk) (P := xPg) (inl := [1, 5]) (stop := []) 63 iM_sheet 0 [(2, 305), (0, a1), (0, a2)] [] σ
set_option maxRecDepth 20000 in
theorem qM_day_0 (a1 : Int) (σ : xS) : X iM_day 0 [(2, 305), (0, a1)] [] σ =
  if (σ.1 305 0) < a1 then (if 1000 < a1 then some ((0, 0), σ)
    else some ((0, 1), (xs σ 305 0 a1)))
  else some ((0, 0), σ) :=
  xev_eq (E := xE1) (F := xFk) (P := xPg) (inl := []) (stop := []) 14 iM_day 0 [(2, 305), (0, a1)] [] σ
set_option maxRecDepth 20000 in
theorem qM_isPlace_0 (a1 : Int) (σ : xS) : X iM_isPlace 0 [(2, 305), (0, a1)] [] σ =
  if a1 < 0 then (if a1 < 10 then some ((0, 0), σ)
    else if a1 < (xw (10 + (σ.1 305 11))) then some ((0, 1), σ)
    else some ((0, 0), σ))
  else if 4 < a1 then (if a1 < 10 then some ((0, 0), σ)
    else if a1 < (xw (10 + (σ.1 305 11))) then some ((0, 1), σ)
    else some ((0, 0), σ))
  else some ((0, 1), σ) :=
  xev_eq (E := xE1) (F := xFk) (P := xPg) (inl := [1]) (stop := []) 27 iM_isPlace 0 [(2, 305), (0, a1)] [] σ
set_option maxRecDepth 20000 in
theorem qM_addMove_0 (a1 a2 a3 a4 : Int) (σ : xS) : X iM_addMove 0 [(2, 305), (0, a1), (0, a2), (0, a3), (0, a4)] [] σ =
  if xin (σ.1 305 22) 600 then (if xin (σ.1 305 22) 600 then (if xin (σ.1 305 22) 600 then (if xin (σ.1 305 22) 600 then (if xin (σ.1 305 22) 600 then (if xin (σ.1 305 22) 600 then some ((0, (xw ((xw ((σ.1 305 22) + 1)) - 1))), (xs (xs (xs (xs (xs (xs (xs σ 318 (σ.1 305 22).toNat a1) 319 (σ.1 305 22).toNat a2) 320 (σ.1 305 22).toNat a3) 321 (σ.1 305 22).toNat (σ.1 305 0)) 322 (σ.1 305 22).toNat (-1)) 323 (σ.1 305 22).toNat a4) 305 22 (xw ((σ.1 305 22) + 1))))
            else none)
          else none)
        else none)
      else none)
    else none)
  else none :=
  xev_eq (E := xE1) (F := xFk) (P := xPg) (inl := []) (stop := []) 50 iM_addMove 0 [(2, 305), (0, a1), (0, a2), (0, a3), (0, a4)] [] σ
set_option maxRecDepth 20000 in
theorem qM_move_0 (a1 a2 a3 : Int) (σ : xS) : X iM_move 0 [(2, 305), (0, a1), (0, a2), (0, a3)] [] σ =
  if a1 < 0 then some ((0, (-1)), σ)
  else if a1 < (σ.1 305 15) then (if xin a1 150 then (if a2 < (σ.1 317 a1.toNat) then some ((0, (-1)), σ)
      else if (σ.1 305 0) < a2 then some ((0, (-1)), σ)
      else if a3 < 0 then (if a3 < 10 then some ((0, (-1)), σ)
        else if a3 < (xw (10 + (σ.1 305 11))) then (if (σ.1 305 22) = 600 then some ((0, (-1)), σ)
          else (X iM_addMove 0 [(2, 305), (0, a1), (0, a2), (0, a3), (0, (-1))] [] σ).bind fun q1 => X iM_move 54 [(2, 305), (0, a1), (0, a2), (0, a3)] [q1.1] q1.2)
        else some ((0, (-1)), σ))
      else if 4 < a3 then (if a3 < 10 then some ((0, (-1)), σ)
        else if a3 < (xw (10 + (σ.1 305 11))) then (if (σ.1 305 22) = 600 then some ((0, (-1)), σ)
          else (X iM_addMove 0 [(2, 305), (0, a1), (0, a2), (0, a3), (0, (-1))] [] σ).bind fun q2 => X iM_move 54 [(2, 305), (0, a1), (0, a2), (0, a3)] [q2.1] q2.2)
        else some ((0, (-1)), σ))
      else if (σ.1 305 22) = 600 then some ((0, (-1)), σ)
      else (X iM_addMove 0 [(2, 305), (0, a1), (0, a2), (0, a3), (0, (-1))] [] σ).bind fun q3 => X iM_move 54 [(2, 305), (0, a1), (0, a2), (0, a3)] [q3.1] q3.2)
    else none)
  else some ((0, (-1)), σ) :=
  xev_eq (E := xE1) (F := xFk) (P := xPg) (inl := [1, 7, 13]) (stop := [54]) 64 iM_move 0 [(2, 305), (0, a1), (0, a2), (0, a3)] [] σ
set_option maxRecDepth 20000 in
theorem qM_move_54 (t0 : Int) (vw0 vw1 vw2 vw3 : xAV) (σ : xS) : X iM_move 54 [vw0, vw1, vw2, vw3] [(0, t0)] σ =
  some ((0, t0), σ) :=
  xev_eq (E := xE1) (F := xFk) (P := xPg) (inl := [1, 7, 13]) (stop := [54]) 3 iM_move 54 [vw0, vw1, vw2, vw3] [(0, t0)] σ
set_option maxRecDepth 20000 in
theorem qM_undo_0 (a1 : Int) (σ : xS) : X iM_undo 0 [(2, 305), (0, a1)] [] σ =
  if a1 < 0 then some ((0, 0), σ)
  else if a1 < (σ.1 305 22) then (if xin a1 600 then (if (σ.1 322 a1.toNat) < 0 then (if xin a1 600 then some ((0, 1), (xs (xs σ 322 a1.toNat (σ.1 305 0)) 305 23 (xw ((σ.1 305 23) + 1))))
        else none)
      else some ((0, 0), σ))
    else none)
  else some ((0, 0), σ) :=
  xev_eq (E := xE1) (F := xFk) (P := xPg) (inl := []) (stop := []) 27 iM_undo 0 [(2, 305), (0, a1)] [] σ
set_option maxRecDepth 20000 in
theorem qM_last_0 (a1 a2 a3 : Int) (σ : xS) : X iM_last 0 [(2, 305), (0, a1), (0, a2), (0, a3), (9, 0), (9, 0)] [] σ =
  X iM_last 6 [(2, 305), (0, a1), (0, a2), (0, a3), (0, (-1)), (0, 0)] [] σ :=
  xev_eq (E := xE1) (F := xFk) (P := xPg) (inl := [17]) (stop := [6]) 6 iM_last 0 [(2, 305), (0, a1), (0, a2), (0, a3), (9, 0), (9, 0)] [] σ
set_option maxRecDepth 20000 in
theorem qM_last_6 (v1 v2 v3 v4 v5 : Int) (σ : xS) : X iM_last 6 [(2, 305), (0, v1), (0, v2), (0, v3), (0, v4), (0, v5)] [] σ =
  if v5 < (σ.1 305 22) then (if xin v5 600 then (if (σ.1 318 v5.toNat) = v1 then (if xin v5 600 then (if v2 < (σ.1 319 v5.toNat) then X iM_last 6 [(2, 305), (0, v1), (0, v2), (0, v3), (0, v4), (0, (xw (v5 + 1)))] [] σ
          else if xin v5 600 then (if v3 < (σ.1 321 v5.toNat) then X iM_last 6 [(2, 305), (0, v1), (0, v2), (0, v3), (0, v4), (0, (xw (v5 + 1)))] [] σ
            else if xin v5 600 then (if (σ.1 322 v5.toNat) < 0 then (if v4 < 0 then X iM_last 6 [(2, 305), (0, v1), (0, v2), (0, v3), (0, v5), (0, (xw (v5 + 1)))] [] σ
                else if xin v5 600 then (if xin v4 600 then (if (σ.1 319 v5.toNat) < (σ.1 319 v4.toNat) then X iM_last 6 [(2, 305), (0, v1), (0, v2), (0, v3), (0, v4), (0, (xw (v5 + 1)))] [] σ
                    else X iM_last 6 [(2, 305), (0, v1), (0, v2), (0, v3), (0, v5), (0, (xw (v5 + 1)))] [] σ)
                  else none)
                else none)
              else if xin v5 600 then (if v3 < (σ.1 322 v5.toNat) then (if v4 < 0 then X iM_last 6 [(2, 305), (0, v1), (0, v2), (0, v3), (0, v5), (0, (xw (v5 + 1)))] [] σ
                  else if xin v5 600 then (if xin v4 600 then (if (σ.1 319 v5.toNat) < (σ.1 319 v4.toNat) then X iM_last 6 [(2, 305), (0, v1), (0, v2), (0, v3), (0, v4), (0, (xw (v5 + 1)))] [] σ
                      else X iM_last 6 [(2, 305), (0, v1), (0, v2), (0, v3), (0, v5), (0, (xw (v5 + 1)))] [] σ)
                    else none)
                  else none)
                else X iM_last 6 [(2, 305), (0, v1), (0, v2), (0, v3), (0, v4), (0, (xw (v5 + 1)))] [] σ)
              else none)
            else none)
          else none)
        else none)
      else X iM_last 6 [(2, 305), (0, v1), (0, v2), (0, v3), (0, v4), (0, (xw (v5 + 1)))] [] σ)
    else none)
  else some ((0, v4), σ) :=
  xev_eq (E := xE1) (F := xFk) (P := xPg) (inl := [17]) (stop := [6]) 58 iM_last 6 [(2, 305), (0, v1), (0, v2), (0, v3), (0, v4), (0, v5)] [] σ
set_option maxRecDepth 20000 in
theorem qM_isAsked_0 (a1 a2 a3 : Int) (σ : xS) : X iM_isAsked 0 [(2, 305), (0, a1), (0, a2), (0, a3)] [] σ =
  if a1 < 0 then some ((0, 0), σ)
  else if a1 < (σ.1 305 15) then (if a2 < 0 then some ((0, 0), σ)
    else if 1000 < a2 then some ((0, 0), σ)
    else if a3 < 0 then some ((0, 0), σ)
    else if 1000 < a3 then some ((0, 0), σ)
    else if xin a1 150 then (if a2 < (σ.1 317 a1.toNat) then some ((0, 0), σ)
      else if xin a1 150 then (if a3 < (σ.1 317 a1.toNat) then some ((0, 0), σ)
        else some ((0, 1), σ))
      else none)
    else none)
  else some ((0, 0), σ) :=
  xev_eq (E := xE1) (F := xFk) (P := xPg) (inl := [7, 8]) (stop := []) 52 iM_isAsked 0 [(2, 305), (0, a1), (0, a2), (0, a3)] [] σ
set_option maxRecDepth 20000 in
theorem qM_placeOf_0 (a1 a2 a3 : Int) (σ : xS) : X iM_placeOf 0 [(2, 305), (0, a1), (0, a2), (0, a3), (9, 0)] [] σ =
  (X iM_last 0 [(2, 305), (0, a1), (0, a2), (0, a3), (9, 0), (9, 0)] [] σ).bind fun q1 => X iM_placeOf 7 [(2, 305), (0, a1), (0, a2), (0, a3), (9, 0)] [q1.1] q1.2 :=
  xev_eq (E := xE1) (F := xFk) (P := xPg) (inl := []) (stop := [7]) 7 iM_placeOf 0 [(2, 305), (0, a1), (0, a2), (0, a3), (9, 0)] [] σ
set_option maxRecDepth 20000 in
theorem qM_placeOf_7 (t0 : Int) (vw1 vw2 vw3 vw4 : xAV) (σ : xS) : X iM_placeOf 7 [(2, 305), vw1, vw2, vw3, vw4] [(0, t0)] σ =
  if t0 < 0 then some ((0, 0), σ)
  else if xin t0 600 then some ((0, (σ.1 320 t0.toNat)), σ)
  else none :=
  xev_eq (E := xE1) (F := xFk) (P := xPg) (inl := []) (stop := [7]) 10 iM_placeOf 7 [(2, 305), vw1, vw2, vw3, vw4] [(0, t0)] σ
set_option maxRecDepth 20000 in
theorem qM_sinceOf_0 (a1 a2 a3 : Int) (σ : xS) : X iM_sinceOf 0 [(2, 305), (0, a1), (0, a2), (0, a3), (9, 0)] [] σ =
  (X iM_last 0 [(2, 305), (0, a1), (0, a2), (0, a3), (9, 0), (9, 0)] [] σ).bind fun q1 => X iM_sinceOf 7 [(2, 305), (0, a1), (0, a2), (0, a3), (9, 0)] [q1.1] q1.2 :=
  xev_eq (E := xE1) (F := xFk) (P := xPg) (inl := []) (stop := [7]) 7 iM_sinceOf 0 [(2, 305), (0, a1), (0, a2), (0, a3), (9, 0)] [] σ
set_option maxRecDepth 20000 in
theorem qM_sinceOf_7 (v1 t0 : Int) (vw2 vw3 vw4 : xAV) (σ : xS) : X iM_sinceOf 7 [(2, 305), (0, v1), vw2, vw3, vw4] [(0, t0)] σ =
  if t0 < 0 then (if xin v1 150 then some ((0, (σ.1 317 v1.toNat)), σ)
    else none)
  else if xin t0 600 then some ((0, (σ.1 319 t0.toNat)), σ)
  else none :=
  xev_eq (E := xE1) (F := xFk) (P := xPg) (inl := []) (stop := [7]) 11 iM_sinceOf 7 [(2, 305), (0, v1), vw2, vw3, vw4] [(0, t0)] σ
set_option maxRecDepth 20000 in
theorem qM_where_0 (a1 a2 a3 : Int) (σ : xS) : X iM_where 0 [(2, 305), (0, a1), (0, a2), (0, a3)] [] σ =
  (X iM_isAsked 0 [(2, 305), (0, a1), (0, a2), (0, a3)] [] σ).bind fun q1 => X iM_where 7 [(2, 305), (0, a1), (0, a2), (0, a3)] [q1.1] q1.2 :=
  xev_eq (E := xE1) (F := xFk) (P := xPg) (inl := []) (stop := [7, 17]) 7 iM_where 0 [(2, 305), (0, a1), (0, a2), (0, a3)] [] σ
set_option maxRecDepth 20000 in
theorem qM_where_7 (v1 v2 v3 t0 : Int) (σ : xS) : X iM_where 7 [(2, 305), (0, v1), (0, v2), (0, v3)] [(0, t0)] σ =
  if t0 = 0 then some ((0, (-1)), σ)
  else (X iM_placeOf 0 [(2, 305), (0, v1), (0, v2), (0, v3), (9, 0)] [] σ).bind fun q1 => X iM_where 17 [(2, 305), (0, v1), (0, v2), (0, v3)] [q1.1] q1.2 :=
  xev_eq (E := xE1) (F := xFk) (P := xPg) (inl := []) (stop := [7, 17]) 8 iM_where 7 [(2, 305), (0, v1), (0, v2), (0, v3)] [(0, t0)] σ
set_option maxRecDepth 20000 in
theorem qM_where_17 (t0 : Int) (vw0 vw1 vw2 vw3 : xAV) (σ : xS) : X iM_where 17 [vw0, vw1, vw2, vw3] [(0, t0)] σ =
  some ((0, t0), σ) :=
  xev_eq (E := xE1) (F := xFk) (P := xPg) (inl := []) (stop := [7, 17]) 4 iM_where 17 [vw0, vw1, vw2, vw3] [(0, t0)] σ
set_option maxRecDepth 20000 in
theorem qM_since_0 (a1 a2 a3 : Int) (σ : xS) : X iM_since 0 [(2, 305), (0, a1), (0, a2), (0, a3)] [] σ =
  (X iM_isAsked 0 [(2, 305), (0, a1), (0, a2), (0, a3)] [] σ).bind fun q1 => X iM_since 7 [(2, 305), (0, a1), (0, a2), (0, a3)] [q1.1] q1.2 :=
  xev_eq (E := xE1) (F := xFk) (P := xPg) (inl := []) (stop := [7, 17]) 7 iM_since 0 [(2, 305), (0, a1), (0, a2), (0, a3)] [] σ
set_option maxRecDepth 20000 in
theorem qM_since_7 (v1 v2 v3 t0 : Int) (σ : xS) : X iM_since 7 [(2, 305), (0, v1), (0, v2), (0, v3)] [(0, t0)] σ =
  if t0 = 0 then some ((0, (-1)), σ)
  else (X iM_sinceOf 0 [(2, 305), (0, v1), (0, v2), (0, v3), (9, 0)] [] σ).bind fun q1 => X iM_since 17 [(2, 305), (0, v1), (0, v2), (0, v3)] [q1.1] q1.2 :=
  xev_eq (E := xE1) (F := xFk) (P := xPg) (inl := []) (stop := [7, 17]) 8 iM_since 7 [(2, 305), (0, v1), (0, v2), (0, v3)] [(0, t0)] σ
set_option maxRecDepth 20000 in
theorem qM_since_17 (t0 : Int) (vw0 vw1 vw2 vw3 : xAV) (σ : xS) : X iM_since 17 [vw0, vw1, vw2, vw3] [(0, t0)] σ =
  some ((0, t0), σ) :=
  xev_eq (E := xE1) (F := xFk) (P := xPg) (inl := []) (stop := [7, 17]) 4 iM_since 17 [vw0, vw1, vw2, vw3] [(0, t0)] σ
set_option maxRecDepth 20000 in
theorem qM_gather_0 (a1 a2 a3 : Int) (σ : xS) : X iM_gather 0 [(2, 305), (0, a1), (0, a2), (0, a3), (9, 0), (9, 0)] [] σ =
  X iM_gather 8 [(2, 305), (0, a1), (0, a2), (0, a3), (0, 0), (9, 0)] [] (xs σ 305 25 0) :=
  xev_eq (E := xE1) (F := xFk) (P := xPg) (inl := [17]) (stop := [8, 58]) 7 iM_gather 0 [(2, 305), (0, a1), (0, a2), (0, a3), (9, 0), (9, 0)] [] σ
set_option maxRecDepth 20000 in
theorem qM_gather_8 (v1 v2 v3 v4 : Int) (vw5 : xAV) (σ : xS) : X iM_gather 8 [(2, 305), (0, v1), (0, v2), (0, v3), (0, v4), vw5] [] σ =
  if v4 < (σ.1 305 22) then (if xin v4 600 then (if (σ.1 318 v4.toNat) = v1 then (if xin v4 600 then (if v2 < (σ.1 319 v4.toNat) then X iM_gather 8 [(2, 305), (0, v1), (0, v2), (0, v3), (0, (xw (v4 + 1))), vw5] [] σ
          else if xin v4 600 then (if v3 < (σ.1 321 v4.toNat) then X iM_gather 8 [(2, 305), (0, v1), (0, v2), (0, v3), (0, (xw (v4 + 1))), vw5] [] σ
            else if xin v4 600 then (if (σ.1 322 v4.toNat) < 0 then X iM_gather 58 [(2, 305), (0, v1), (0, v2), (0, v3), (0, v4), (0, (σ.1 305 25))] [] σ
              else if xin v4 600 then (if v3 < (σ.1 322 v4.toNat) then X iM_gather 58 [(2, 305), (0, v1), (0, v2), (0, v3), (0, v4), (0, (σ.1 305 25))] [] σ
                else X iM_gather 8 [(2, 305), (0, v1), (0, v2), (0, v3), (0, (xw (v4 + 1))), vw5] [] σ)
              else none)
            else none)
          else none)
        else none)
      else X iM_gather 8 [(2, 305), (0, v1), (0, v2), (0, v3), (0, (xw (v4 + 1))), vw5] [] σ)
    else none)
  else some ((9, 0), σ) :=
  xev_eq (E := xE1) (F := xFk) (P := xPg) (inl := [17]) (stop := [8, 58]) 46 iM_gather 8 [(2, 305), (0, v1), (0, v2), (0, v3), (0, v4), vw5] [] σ
set_option maxRecDepth 20000 in
theorem qM_gather_58 (v1 v2 v3 v4 v5 : Int) (σ : xS) : X iM_gather 58 [(2, 305), (0, v1), (0, v2), (0, v3), (0, v4), (0, v5)] [] σ =
  if 0 < v5 then (if xin (xw (v5 - 1)) 600 then (if xin (σ.1 324 (xw (v5 - 1)).toNat) 600 then (if xin v4 600 then (if (σ.1 319 v4.toNat) < (σ.1 319 (σ.1 324 (xw (v5 - 1)).toNat).toNat) then (if xin (xw (v5 - 1)) 600 then (if xin v5 600 then X iM_gather 58 [(2, 305), (0, v1), (0, v2), (0, v3), (0, v4), (0, (xw (v5 + (-1))))] [] (xs σ 324 v5.toNat (σ.1 324 (xw (v5 - 1)).toNat))
              else none)
            else none)
          else if xin v5 600 then X iM_gather 8 [(2, 305), (0, v1), (0, v2), (0, v3), (0, (xw (v4 + 1))), (0, v5)] [] (xs (xs σ 324 v5.toNat v4) 305 25 (xw ((σ.1 305 25) + 1)))
          else none)
        else none)
      else none)
    else none)
  else if xin v5 600 then X iM_gather 8 [(2, 305), (0, v1), (0, v2), (0, v3), (0, (xw (v4 + 1))), (0, v5)] [] (xs (xs σ 324 v5.toNat v4) 305 25 (xw ((σ.1 305 25) + 1)))
  else none :=
  xev_eq (E := xE1) (F := xFk) (P := xPg) (inl := [17]) (stop := [8, 58]) 31 iM_gather 58 [(2, 305), (0, v1), (0, v2), (0, v3), (0, v4), (0, v5)] [] σ
set_option maxRecDepth 20000 in
theorem qM_washesOf_0 (a1 a2 a3 : Int) (σ : xS) : X iM_washesOf 0 [(2, 305), (0, a1), (0, a2), (0, a3), (9, 0), (9, 0)] [] σ =
  (X iM_gather 0 [(2, 305), (0, a1), (0, a2), (0, a3), (9, 0), (9, 0)] [] σ).bind fun q1 => X iM_washesOf 7 [(2, 305), (0, a1), (0, a2), (0, a3), (9, 0), (9, 0)] [] q1.2 :=
  xev_eq (E := xE1) (F := xFk) (P := xPg) (inl := []) (stop := [7, 13]) 7 iM_washesOf 0 [(2, 305), (0, a1), (0, a2), (0, a3), (9, 0), (9, 0)] [] σ
set_option maxRecDepth 20000 in
theorem qM_washesOf_7 (vw1 vw2 vw3 vw4 vw5 : xAV) (σ : xS) : X iM_washesOf 7 [(2, 305), vw1, vw2, vw3, vw4, vw5] [] σ =
  X iM_washesOf 13 [(2, 305), vw1, vw2, (xkl vw3), (0, 0), (0, 1)] [] σ :=
  xev_eq (E := xE1) (F := xFk) (P := xPg) (inl := []) (stop := [7, 13]) 6 iM_washesOf 7 [(2, 305), vw1, vw2, vw3, vw4, vw5] [] σ
set_option maxRecDepth 20000 in
theorem qM_washesOf_13 (v4 v5 : Int) (vw1 vw2 vw3 : xAV) (σ : xS) : X iM_washesOf 13 [(2, 305), vw1, vw2, vw3, (0, v4), (0, v5)] [] σ =
  if v5 < (σ.1 305 25) then (if xin v5 600 then (if xin (σ.1 324 v5.toNat) 600 then (if (σ.1 320 (σ.1 324 v5.toNat).toNat) = 0 then (if xin (xw (v5 - 1)) 600 then (if xin (σ.1 324 (xw (v5 - 1)).toNat) 600 then (if (σ.1 320 (σ.1 324 (xw (v5 - 1)).toNat).toNat) = 2 then X iM_washesOf 13 [(2, 305), vw1, vw2, vw3, (0, (xw (v4 + 1))), (0, (xw (v5 + 1)))] [] σ
              else X iM_washesOf 13 [(2, 305), vw1, vw2, vw3, (0, v4), (0, (xw (v5 + 1)))] [] σ)
            else none)
          else none)
        else X iM_washesOf 13 [(2, 305), vw1, vw2, vw3, (0, v4), (0, (xw (v5 + 1)))] [] σ)
      else none)
    else none)
  else some ((0, v4), σ) :=
  xev_eq (E := xE1) (F := xFk) (P := xPg) (inl := []) (stop := [7, 13]) 28 iM_washesOf 13 [(2, 305), vw1, vw2, vw3, (0, v4), (0, v5)] [] σ
set_option maxRecDepth 20000 in
theorem qM_washes_0 (a1 a2 a3 : Int) (σ : xS) : X iM_washes 0 [(2, 305), (0, a1), (0, a2), (0, a3)] [] σ =
  (X iM_isAsked 0 [(2, 305), (0, a1), (0, a2), (0, a3)] [] σ).bind fun q1 => X iM_washes 7 [(2, 305), (0, a1), (0, a2), (0, a3)] [q1.1] q1.2 :=
  xev_eq (E := xE1) (F := xFk) (P := xPg) (inl := []) (stop := [7, 17]) 7 iM_washes 0 [(2, 305), (0, a1), (0, a2), (0, a3)] [] σ
set_option maxRecDepth 20000 in
theorem qM_washes_7 (v1 v2 v3 t0 : Int) (σ : xS) : X iM_washes 7 [(2, 305), (0, v1), (0, v2), (0, v3)] [(0, t0)] σ =
  if t0 = 0 then some ((0, (-1)), σ)
  else (X iM_washesOf 0 [(2, 305), (0, v1), (0, v2), (0, v3), (9, 0), (9, 0)] [] σ).bind fun q1 => X iM_washes 17 [(2, 305), (0, v1), (0, v2), (0, v3)] [q1.1] q1.2 :=
  xev_eq (E := xE1) (F := xFk) (P := xPg) (inl := []) (stop := [7, 17]) 8 iM_washes 7 [(2, 305), (0, v1), (0, v2), (0, v3)] [(0, t0)] σ
set_option maxRecDepth 20000 in
theorem qM_washes_17 (t0 : Int) (vw0 vw1 vw2 vw3 : xAV) (σ : xS) : X iM_washes 17 [vw0, vw1, vw2, vw3] [(0, t0)] σ =
  some ((0, t0), σ) :=
  xev_eq (E := xE1) (F := xFk) (P := xPg) (inl := []) (stop := [7, 17]) 4 iM_washes 17 [vw0, vw1, vw2, vw3] [(0, t0)] σ
set_option maxRecDepth 20000 in
theorem qM_nights_0 (a1 a2 a3 a4 : Int) (σ : xS) : X iM_nights 0 [(2, 305), (0, a1), (0, a2), (0, a3), (0, a4), (9, 0), (9, 0)] [] σ =
  (X iM_isAsked 0 [(2, 305), (0, a1), (0, a3), (0, a4)] [] σ).bind fun q1 => X iM_nights 8 [(2, 305), (0, a1), (0, a2), (0, a3), (0, a4), (9, 0), (9, 0)] [q1.1] q1.2 :=
  xev_eq (E := xE1) (F := xFk) (P := xPg) (inl := [6]) (stop := [8, 32, 47]) 7 iM_nights 0 [(2, 305), (0, a1), (0, a2), (0, a3), (0, a4), (9, 0), (9, 0)] [] σ
set_option maxRecDepth 20000 in
theorem qM_nights_8 (v1 v2 v3 v4 t0 : Int) (vw5 vw6 : xAV) (σ : xS) : X iM_nights 8 [(2, 305), (0, v1), (0, v2), (0, v3), (0, v4), vw5, vw6] [(0, t0)] σ =
  if t0 = 0 then some ((0, (-1)), σ)
  else if v2 < 0 then some ((0, (-1)), σ)
  else if v2 < (σ.1 305 11) then (if xin v1 150 then X iM_nights 32 [(2, 305), (0, v1), (0, v2), (0, v3), (0, v4), (0, 0), (0, (σ.1 317 v1.toNat))] [] σ
    else none)
  else some ((0, (-1)), σ) :=
  xev_eq (E := xE1) (F := xFk) (P := xPg) (inl := [6]) (stop := [8, 32, 47]) 23 iM_nights 8 [(2, 305), (0, v1), (0, v2), (0, v3), (0, v4), vw5, vw6] [(0, t0)] σ
set_option maxRecDepth 20000 in
theorem qM_nights_32 (v1 v2 v3 v4 v5 v6 : Int) (σ : xS) : X iM_nights 32 [(2, 305), (0, v1), (0, v2), (0, v3), (0, v4), (0, v5), (0, v6)] [] σ =
  if v3 < v6 then some ((0, v5), σ)
  else (X iM_placeOf 0 [(2, 305), (0, v1), (0, v6), (0, v4), (9, 0)] [] σ).bind fun q1 => X iM_nights 47 [(2, 305), (0, v1), (0, v2), (0, v3), (0, v4), (0, v5), (0, v6)] [q1.1] q1.2 :=
  xev_eq (E := xE1) (F := xFk) (P := xPg) (inl := [6]) (stop := [8, 32, 47]) 10 iM_nights 32 [(2, 305), (0, v1), (0, v2), (0, v3), (0, v4), (0, v5), (0, v6)] [] σ
set_option maxRecDepth 20000 in
theorem qM_nights_47 (v1 v2 v3 v4 v5 v6 t0 : Int) (σ : xS) : X iM_nights 47 [(2, 305), (0, v1), (0, v2), (0, v3), (0, v4), (0, v5), (0, v6)] [(0, t0)] σ =
  if t0 = (xw (10 + v2)) then X iM_nights 32 [(2, 305), (0, v1), (0, v2), (0, v3), (0, v4), (0, (xw (v5 + 1))), (0, (xw (v6 + 1)))] [] σ
  else X iM_nights 32 [(2, 305), (0, v1), (0, v2), (0, v3), (0, v4), (0, v5), (0, (xw (v6 + 1)))] [] σ :=
  xev_eq (E := xE1) (F := xFk) (P := xPg) (inl := [6]) (stop := [8, 32, 47]) 9 iM_nights 47 [(2, 305), (0, v1), (0, v2), (0, v3), (0, v4), (0, v5), (0, v6)] [(0, t0)] σ
set_option maxRecDepth 20000 in
theorem qM_manyAt_0 (a1 a2 a3 a4 : Int) (σ : xS) : X iM_manyAt 0 [(2, 305), (0, a1), (0, a2), (0, a3), (0, a4), (9, 0), (9, 0)] [] σ =
  X iM_manyAt 6 [(2, 305), (0, a1), (0, a2), (0, a3), (0, a4), (0, 0), (0, 0)] [] σ :=
  xev_eq (E := xE1) (F := xFk) (P := xPg) (inl := []) (stop := [6, 35, 47]) 6 iM_manyAt 0 [(2, 305), (0, a1), (0, a2), (0, a3), (0, a4), (9, 0), (9, 0)] [] σ
set_option maxRecDepth 20000 in
theorem qM_manyAt_6 (v1 v2 v3 v4 v5 v6 : Int) (σ : xS) : X iM_manyAt 6 [(2, 305), (0, v1), (0, v2), (0, v3), (0, v4), (0, v5), (0, v6)] [] σ =
  if v6 < (σ.1 305 15) then (if xin v6 150 then (if (σ.1 315 v6.toNat) = v2 then ((X iM_isAsked 0 [(2, 305), (0, v6), (0, v3), (0, v4)] [] σ).bind fun q1 => X iM_manyAt 35 [(2, 305), (0, v1), (0, v2), (0, v3), (0, v4), (0, v5), (0, v6)] [q1.1] q1.2)
      else X iM_manyAt 6 [(2, 305), (0, v1), (0, v2), (0, v3), (0, v4), (0, v5), (0, (xw (v6 + 1)))] [] σ)
    else none)
  else some ((0, v5), σ) :=
  xev_eq (E := xE1) (F := xFk) (P := xPg) (inl := []) (stop := [6, 35, 47]) 17 iM_manyAt 6 [(2, 305), (0, v1), (0, v2), (0, v3), (0, v4), (0, v5), (0, v6)] [] σ
set_option maxRecDepth 20000 in
theorem qM_manyAt_35 (v1 v2 v3 v4 v5 v6 t0 : Int) (σ : xS) : X iM_manyAt 35 [(2, 305), (0, v1), (0, v2), (0, v3), (0, v4), (0, v5), (0, v6)] [(0, t0)] σ =
  if t0 = 0 then X iM_manyAt 6 [(2, 305), (0, v1), (0, v2), (0, v3), (0, v4), (0, v5), (0, (xw (v6 + 1)))] [] σ
  else (X iM_placeOf 0 [(2, 305), (0, v6), (0, v3), (0, v4), (9, 0)] [] σ).bind fun q1 => X iM_manyAt 47 [(2, 305), (0, v1), (0, v2), (0, v3), (0, v4), (0, v5), (0, v6)] [q1.1] q1.2 :=
  xev_eq (E := xE1) (F := xFk) (P := xPg) (inl := []) (stop := [6, 35, 47]) 8 iM_manyAt 35 [(2, 305), (0, v1), (0, v2), (0, v3), (0, v4), (0, v5), (0, v6)] [(0, t0)] σ
set_option maxRecDepth 20000 in
theorem qM_manyAt_47 (v1 v2 v3 v4 v5 v6 t0 : Int) (σ : xS) : X iM_manyAt 47 [(2, 305), (0, v1), (0, v2), (0, v3), (0, v4), (0, v5), (0, v6)] [(0, t0)] σ =
  if t0 = v1 then X iM_manyAt 6 [(2, 305), (0, v1), (0, v2), (0, v3), (0, v4), (0, (xw (v5 + 1))), (0, (xw (v6 + 1)))] [] σ
  else X iM_manyAt 6 [(2, 305), (0, v1), (0, v2), (0, v3), (0, v4), (0, v5), (0, (xw (v6 + 1)))] [] σ :=
  xev_eq (E := xE1) (F := xFk) (P := xPg) (inl := []) (stop := [6, 35, 47]) 7 iM_manyAt 47 [(2, 305), (0, v1), (0, v2), (0, v3), (0, v4), (0, v5), (0, v6)] [(0, t0)] σ
set_option maxRecDepth 20000 in
theorem qM_many_0 (a1 a2 a3 a4 : Int) (σ : xS) : X iM_many 0 [(2, 305), (0, a1), (0, a2), (0, a3), (0, a4)] [] σ =
  if a1 < 0 then (if a1 < 10 then X iM_many 44 [(2, 305), (0, a1), (0, a2), (0, a3), (0, a4)] [(0, (-1))] σ
    else if a1 < (xw (10 + (σ.1 305 11))) then (if a2 < 0 then X iM_many 13 [(2, 305), (0, a1), (0, a2), (0, a3), (0, a4)] [(0, 0)] σ
      else if a2 < (σ.1 305 6) then X iM_many 13 [(2, 305), (0, a1), (0, a2), (0, a3), (0, a4)] [(0, 1)] σ
      else X iM_many 13 [(2, 305), (0, a1), (0, a2), (0, a3), (0, a4)] [(0, 0)] σ)
    else X iM_many 44 [(2, 305), (0, a1), (0, a2), (0, a3), (0, a4)] [(0, (-1))] σ)
  else if 4 < a1 then (if a1 < 10 then X iM_many 44 [(2, 305), (0, a1), (0, a2), (0, a3), (0, a4)] [(0, (-1))] σ
    else if a1 < (xw (10 + (σ.1 305 11))) then (if a2 < 0 then X iM_many 13 [(2, 305), (0, a1), (0, a2), (0, a3), (0, a4)] [(0, 0)] σ
      else if a2 < (σ.1 305 6) then X iM_many 13 [(2, 305), (0, a1), (0, a2), (0, a3), (0, a4)] [(0, 1)] σ
      else X iM_many 13 [(2, 305), (0, a1), (0, a2), (0, a3), (0, a4)] [(0, 0)] σ)
    else X iM_many 44 [(2, 305), (0, a1), (0, a2), (0, a3), (0, a4)] [(0, (-1))] σ)
  else if a2 < 0 then X iM_many 13 [(2, 305), (0, a1), (0, a2), (0, a3), (0, a4)] [(0, 0)] σ
  else if a2 < (σ.1 305 6) then X iM_many 13 [(2, 305), (0, a1), (0, a2), (0, a3), (0, a4)] [(0, 1)] σ
  else X iM_many 13 [(2, 305), (0, a1), (0, a2), (0, a3), (0, a4)] [(0, 0)] σ :=
  xev_eq (E := xE1) (F := xFk) (P := xPg) (inl := [1, 5, 8, 13]) (stop := [13, 44]) 43 iM_many 0 [(2, 305), (0, a1), (0, a2), (0, a3), (0, a4)] [] σ
set_option maxRecDepth 20000 in
theorem qM_many_13 (v1 v2 v3 v4 t0 : Int) (σ : xS) : X iM_many 13 [(2, 305), (0, v1), (0, v2), (0, v3), (0, v4)] [(0, t0)] σ =
  if t0 = 0 then X iM_many 44 [(2, 305), (0, v1), (0, v2), (0, v3), (0, v4)] [(0, (-1))] σ
  else if v3 < 0 then X iM_many 44 [(2, 305), (0, v1), (0, v2), (0, v3), (0, v4)] [(0, (-1))] σ
  else if 1000 < v3 then X iM_many 44 [(2, 305), (0, v1), (0, v2), (0, v3), (0, v4)] [(0, (-1))] σ
  else if v4 < 0 then X iM_many 44 [(2, 305), (0, v1), (0, v2), (0, v3), (0, v4)] [(0, (-1))] σ
  else if 1000 < v4 then X iM_many 44 [(2, 305), (0, v1), (0, v2), (0, v3), (0, v4)] [(0, (-1))] σ
  else (X iM_manyAt 0 [(2, 305), (0, v1), (0, v2), (0, v3), (0, v4), (9, 0), (9, 0)] [] σ).bind fun q1 => X iM_many 44 [(2, 305), (0, v1), (0, v2), (0, v3), (0, v4)] [q1.1] q1.2 :=
  xev_eq (E := xE1) (F := xFk) (P := xPg) (inl := [1, 5, 8, 13]) (stop := [13, 44]) 31 iM_many 13 [(2, 305), (0, v1), (0, v2), (0, v3), (0, v4)] [(0, t0)] σ
set_option maxRecDepth 20000 in
theorem qM_many_44 (t0 : Int) (vw0 vw1 vw2 vw3 vw4 : xAV) (σ : xS) : X iM_many 44 [vw0, vw1, vw2, vw3, vw4] [(0, t0)] σ =
  some ((0, t0), σ) :=
  xev_eq (E := xE1) (F := xFk) (P := xPg) (inl := [1, 5, 8, 13]) (stop := [13, 44]) 3 iM_many 44 [vw0, vw1, vw2, vw3, vw4] [(0, t0)] σ
set_option maxRecDepth 20000 in
theorem qC_sheet_0 (a1 a2 : Int) (σ : xS) : X iC_sheet 0 [(2, 200), (0, a1), (0, a2), (9, 0)] [] σ =
  if a1 < 0 then some ((0, (-1)), σ)
  else if (xw ((σ.1 201 5) - 1)) < a1 then some ((0, (-1)), σ)
  else if a2 < 0 then some ((0, (-1)), σ)
  else if 3 < a2 then some ((0, (-1)), σ)
  else if (σ.1 216 6) < 150 then ((X iBook_addSheet 0 [(2, 216), (0, a1), (0, a2)] [] σ).bind fun q1 => X iC_sheet 52 [(2, 200), (0, a1), (0, a2), (0, 1)] [q1.1] q1.2)
  else some ((0, (-1)), σ) :=
  xev_eq (E := xE1) (F := xFk) (P := xPg) (inl := [172, 307]) (stop := [52]) 53 iC_sheet 0 [(2, 200), (0, a1), (0, a2), (9, 0)] [] σ
set_option maxRecDepth 20000 in
theorem qC_sheet_52 (t0 : Int) (vw0 vw1 vw2 vw3 : xAV) (σ : xS) : X iC_sheet 52 [vw0, vw1, vw2, vw3] [(0, t0)] σ =
  some ((0, t0), σ) :=
  xev_eq (E := xE1) (F := xFk) (P := xPg) (inl := [172, 307]) (stop := [52]) 4 iC_sheet 52 [vw0, vw1, vw2, vw3] [(0, t0)] σ
set_option maxRecDepth 20000 in
theorem qC_day_0 (a1 : Int) (σ : xS) : X iC_day 0 [(2, 200), (0, a1)] [] σ =
  if (σ.1 216 0) < a1 then (if 1000 < a1 then some ((0, 0), σ)
    else some ((0, 1), (xs σ 216 0 a1)))
  else some ((0, 0), σ) :=
  xev_eq (E := xE1) (F := xFk) (P := xPg) (inl := []) (stop := []) 16 iC_day 0 [(2, 200), (0, a1)] [] σ
set_option maxRecDepth 20000 in
theorem qC_move_0 (a1 a2 a3 : Int) (σ : xS) : X iC_move 0 [(2, 200), (0, a1), (0, a2), (0, a3), (9, 0)] [] σ =
  if a1 < 0 then some ((0, (-1)), σ)
  else if (xw ((σ.1 216 6) - 1)) < a1 then some ((0, (-1)), σ)
  else (X iC_isPlace 0 [(2, 200), (0, a3)] [] σ).bind fun q1 => X iC_move 16 [(2, 200), (0, a1), (0, a2), (0, a3), (9, 0)] [q1.1] q1.2 :=
  xev_eq (E := xE1) (F := xFk) (P := xPg) (inl := [172, 180, 181]) (stop := [16, 75]) 29 iC_move 0 [(2, 200), (0, a1), (0, a2), (0, a3), (9, 0)] [] σ
set_option maxRecDepth 20000 in
theorem qC_move_16 (v1 v2 v3 t0 : Int) (vw4 : xAV) (σ : xS) : X iC_move 16 [(2, 200), (0, v1), (0, v2), (0, v3), vw4] [(0, t0)] σ =
  if t0 = 0 then some ((0, (-1)), σ)
  else if xin v1 150 then (if v2 < (σ.1 219 v1.toNat) then some ((0, (-1)), σ)
    else if (σ.1 216 0) < v2 then some ((0, (-1)), σ)
    else if (σ.1 216 14) < 600 then ((X iBook_addMove 0 [(2, 216), (0, v1), (0, v2), (0, v3), (0, (-1)), (9, 0)] [] σ).bind fun q1 => X iC_move 75 [(2, 200), (0, v1), (0, v2), (0, v3), (0, 1)] [q1.1] q1.2)
    else some ((0, (-1)), σ))
  else none :=
  xev_eq (E := xE1) (F := xFk) (P := xPg) (inl := [172, 180, 181]) (stop := [16, 75]) 45 iC_move 16 [(2, 200), (0, v1), (0, v2), (0, v3), vw4] [(0, t0)] σ
set_option maxRecDepth 20000 in
theorem qC_move_75 (t0 : Int) (vw0 vw1 vw2 vw3 vw4 : xAV) (σ : xS) : X iC_move 75 [vw0, vw1, vw2, vw3, vw4] [(0, t0)] σ =
  some ((0, t0), σ) :=
  xev_eq (E := xE1) (F := xFk) (P := xPg) (inl := [172, 180, 181]) (stop := [16, 75]) 4 iC_move 75 [vw0, vw1, vw2, vw3, vw4] [(0, t0)] σ
set_option maxRecDepth 20000 in
theorem qC_undo_0 (a1 : Int) (σ : xS) : X iC_undo 0 [(2, 200), (0, a1)] [] σ =
  (X iBook_takeBack 0 [(2, 216), (0, a1)] [] σ).bind fun q1 => X iC_undo 8 [(2, 200), (0, a1)] [q1.1] q1.2 :=
  xev_eq (E := xE1) (F := xFk) (P := xPg) (inl := []) (stop := [8]) 6 iC_undo 0 [(2, 200), (0, a1)] [] σ
set_option maxRecDepth 20000 in
theorem qC_undo_8 (t0 : Int) (vw0 vw1 : xAV) (σ : xS) : X iC_undo 8 [vw0, vw1] [(0, t0)] σ =
  if (xna 4 t0) = t0 then some ((0, t0), σ)
  else none :=
  xev_eq (E := xE1) (F := xFk) (P := xPg) (inl := []) (stop := [8]) 3 iC_undo 8 [vw0, vw1] [(0, t0)] σ
set_option maxRecDepth 20000 in
theorem qC_where_0 (a1 a2 a3 : Int) (σ : xS) : X iC_where 0 [(2, 200), (0, a1), (0, a2), (0, a3)] [] σ =
  (X iC_isAsked 0 [(2, 200), (0, a1), (0, a2), (0, a3)] [] σ).bind fun q1 => X iC_where 7 [(2, 200), (0, a1), (0, a2), (0, a3)] [q1.1] q1.2 :=
  xev_eq (E := xE1) (F := xFk) (P := xPg) (inl := []) (stop := [7, 20]) 7 iC_where 0 [(2, 200), (0, a1), (0, a2), (0, a3)] [] σ
set_option maxRecDepth 20000 in
theorem qC_where_7 (v1 v2 v3 t0 : Int) (σ : xS) : X iC_where 7 [(2, 200), (0, v1), (0, v2), (0, v3)] [(0, t0)] σ =
  if t0 = 0 then some ((0, (-1)), σ)
  else (X iBook_placeAt 0 [(2, 216), (0, v1), (0, v2), (0, v3), (9, 0)] [] σ).bind fun q1 => X iC_where 20 [(2, 200), (0, v1), (0, v2), (0, v3)] [q1.1] q1.2 :=
  xev_eq (E := xE1) (F := xFk) (P := xPg) (inl := []) (stop := [7, 20]) 9 iC_where 7 [(2, 200), (0, v1), (0, v2), (0, v3)] [(0, t0)] σ
set_option maxRecDepth 20000 in
theorem qC_where_20 (t0 : Int) (vw0 vw1 vw2 vw3 : xAV) (σ : xS) : X iC_where 20 [vw0, vw1, vw2, vw3] [(0, t0)] σ =
  some ((0, t0), σ) :=
  xev_eq (E := xE1) (F := xFk) (P := xPg) (inl := []) (stop := [7, 20]) 4 iC_where 20 [vw0, vw1, vw2, vw3] [(0, t0)] σ
set_option maxRecDepth 20000 in
theorem qC_since_0 (a1 a2 a3 : Int) (σ : xS) : X iC_since 0 [(2, 200), (0, a1), (0, a2), (0, a3)] [] σ =
  (X iC_isAsked 0 [(2, 200), (0, a1), (0, a2), (0, a3)] [] σ).bind fun q1 => X iC_since 7 [(2, 200), (0, a1), (0, a2), (0, a3)] [q1.1] q1.2 :=
  xev_eq (E := xE1) (F := xFk) (P := xPg) (inl := []) (stop := [7, 20]) 7 iC_since 0 [(2, 200), (0, a1), (0, a2), (0, a3)] [] σ
set_option maxRecDepth 20000 in
theorem qC_since_7 (v1 v2 v3 t0 : Int) (σ : xS) : X iC_since 7 [(2, 200), (0, v1), (0, v2), (0, v3)] [(0, t0)] σ =
  if t0 = 0 then some ((0, (-1)), σ)
  else (X iBook_sinceAt 0 [(2, 216), (0, v1), (0, v2), (0, v3), (9, 0)] [] σ).bind fun q1 => X iC_since 20 [(2, 200), (0, v1), (0, v2), (0, v3)] [q1.1] q1.2 :=
  xev_eq (E := xE1) (F := xFk) (P := xPg) (inl := []) (stop := [7, 20]) 9 iC_since 7 [(2, 200), (0, v1), (0, v2), (0, v3)] [(0, t0)] σ
set_option maxRecDepth 20000 in
theorem qC_since_20 (t0 : Int) (vw0 vw1 vw2 vw3 : xAV) (σ : xS) : X iC_since 20 [vw0, vw1, vw2, vw3] [(0, t0)] σ =
  some ((0, t0), σ) :=
  xev_eq (E := xE1) (F := xFk) (P := xPg) (inl := []) (stop := [7, 20]) 4 iC_since 20 [vw0, vw1, vw2, vw3] [(0, t0)] σ
set_option maxRecDepth 20000 in
theorem qC_washes_0 (a1 a2 a3 : Int) (σ : xS) : X iC_washes 0 [(2, 200), (0, a1), (0, a2), (0, a3)] [] σ =
  (X iC_isAsked 0 [(2, 200), (0, a1), (0, a2), (0, a3)] [] σ).bind fun q1 => X iC_washes 7 [(2, 200), (0, a1), (0, a2), (0, a3)] [q1.1] q1.2 :=
  xev_eq (E := xE1) (F := xFk) (P := xPg) (inl := []) (stop := [7, 20]) 7 iC_washes 0 [(2, 200), (0, a1), (0, a2), (0, a3)] [] σ
set_option maxRecDepth 20000 in
theorem qC_washes_7 (v1 v2 v3 t0 : Int) (σ : xS) : X iC_washes 7 [(2, 200), (0, v1), (0, v2), (0, v3)] [(0, t0)] σ =
  if t0 = 0 then some ((0, (-1)), σ)
  else (X iBook_washesAt 0 [(2, 216), (0, v1), (0, v2), (0, v3), (9, 0), (9, 0), (9, 0), (9, 0)] [] σ).bind fun q1 => X iC_washes 20 [(2, 200), (0, v1), (0, v2), (0, v3)] [q1.1] q1.2 :=
  xev_eq (E := xE1) (F := xFk) (P := xPg) (inl := []) (stop := [7, 20]) 9 iC_washes 7 [(2, 200), (0, v1), (0, v2), (0, v3)] [(0, t0)] σ
set_option maxRecDepth 20000 in
theorem qC_washes_20 (t0 : Int) (vw0 vw1 vw2 vw3 : xAV) (σ : xS) : X iC_washes 20 [vw0, vw1, vw2, vw3] [(0, t0)] σ =
  some ((0, t0), σ) :=
  xev_eq (E := xE1) (F := xFk) (P := xPg) (inl := []) (stop := [7, 20]) 4 iC_washes 20 [vw0, vw1, vw2, vw3] [(0, t0)] σ
set_option maxRecDepth 20000 in
theorem qC_nights_0 (a1 a2 a3 a4 : Int) (σ : xS) : X iC_nights 0 [(2, 200), (0, a1), (0, a2), (0, a3), (0, a4), (9, 0)] [] σ =
  (X iC_isAsked 0 [(2, 200), (0, a1), (0, a3), (0, a4)] [] σ).bind fun q1 => X iC_nights 8 [(2, 200), (0, a1), (0, a2), (0, a3), (0, a4), (9, 0)] [q1.1] q1.2 :=
  xev_eq (E := xE1) (F := xFk) (P := xPg) (inl := [172, 211]) (stop := [8, 49]) 7 iC_nights 0 [(2, 200), (0, a1), (0, a2), (0, a3), (0, a4), (9, 0)] [] σ
set_option maxRecDepth 20000 in
theorem qC_nights_8 (v1 v2 v3 v4 t0 : Int) (vw5 : xAV) (σ : xS) : X iC_nights 8 [(2, 200), (0, v1), (0, v2), (0, v3), (0, v4), vw5] [(0, t0)] σ =
  if t0 = 0 then some ((0, (-1)), σ)
  else if v2 < 0 then some ((0, (-1)), σ)
  else if (xw ((σ.1 209 4) - 1)) < v2 then some ((0, (-1)), σ)
  else (X iBook_nightsAt 0 [(2, 216), (0, v1), (0, (xw (10 + v2))), (0, v3), (0, v4), (9, 0), (9, 0), (9, 0), (9, 0), (9, 0)] [] σ).bind fun q1 => X iC_nights 49 [(2, 200), (0, v1), (0, v2), (0, v3), (0, v4), (0, 1)] [q1.1] q1.2 :=
  xev_eq (E := xE1) (F := xFk) (P := xPg) (inl := [172, 211]) (stop := [8, 49]) 39 iC_nights 8 [(2, 200), (0, v1), (0, v2), (0, v3), (0, v4), vw5] [(0, t0)] σ
set_option maxRecDepth 20000 in
theorem qC_nights_49 (t0 : Int) (vw0 vw1 vw2 vw3 vw4 vw5 : xAV) (σ : xS) : X iC_nights 49 [vw0, vw1, vw2, vw3, vw4, vw5] [(0, t0)] σ =
  some ((0, t0), σ) :=
  xev_eq (E := xE1) (F := xFk) (P := xPg) (inl := [172, 211]) (stop := [8, 49]) 4 iC_nights 49 [vw0, vw1, vw2, vw3, vw4, vw5] [(0, t0)] σ
set_option maxRecDepth 20000 in
theorem qC_many_0 (a1 a2 a3 a4 : Int) (σ : xS) : X iC_many 0 [(2, 200), (0, a1), (0, a2), (0, a3), (0, a4), (9, 0)] [] σ =
  (X iC_isPlace 0 [(2, 200), (0, a1)] [] σ).bind fun q1 => X iC_many 5 [(2, 200), (0, a1), (0, a2), (0, a3), (0, a4), (9, 0)] [q1.1] q1.2 :=
  xev_eq (E := xE1) (F := xFk) (P := xPg) (inl := [172, 174, 175, 307]) (stop := [5, 52]) 5 iC_many 0 [(2, 200), (0, a1), (0, a2), (0, a3), (0, a4), (9, 0)] [] σ
set_option maxRecDepth 20000 in
theorem qC_many_5 (v1 v2 v3 v4 t0 : Int) (vw5 : xAV) (σ : xS) : X iC_many 5 [(2, 200), (0, v1), (0, v2), (0, v3), (0, v4), vw5] [(0, t0)] σ =
  if t0 = 0 then some ((0, (-1)), σ)
  else if v2 < 0 then some ((0, (-1)), σ)
  else if (xw ((σ.1 201 5) - 1)) < v2 then some ((0, (-1)), σ)
  else if v3 < 0 then some ((0, (-1)), σ)
  else if 1000 < v3 then some ((0, (-1)), σ)
  else if v4 < 0 then some ((0, (-1)), σ)
  else if 1000 < v4 then some ((0, (-1)), σ)
  else (X iBook_manyAt 0 [(2, 216), (0, v1), (0, v2), (0, v3), (0, v4), (9, 0), (9, 0)] [] σ).bind fun q1 => X iC_many 52 [(2, 200), (0, v1), (0, v2), (0, v3), (0, v4), (0, 1)] [q1.1] q1.2 :=
  xev_eq (E := xE1) (F := xFk) (P := xPg) (inl := [172, 174, 175, 307]) (stop := [5, 52]) 78 iC_many 5 [(2, 200), (0, v1), (0, v2), (0, v3), (0, v4), vw5] [(0, t0)] σ
set_option maxRecDepth 20000 in
theorem qC_many_52 (t0 : Int) (vw0 vw1 vw2 vw3 vw4 vw5 : xAV) (σ : xS) : X iC_many 52 [vw0, vw1, vw2, vw3, vw4, vw5] [(0, t0)] σ =
  some ((0, t0), σ) :=
  xev_eq (E := xE1) (F := xFk) (P := xPg) (inl := [172, 174, 175, 307]) (stop := [5, 52]) 4 iC_many 52 [vw0, vw1, vw2, vw3, vw4, vw5] [(0, t0)] σ
set_option maxRecDepth 20000 in
theorem qC_isPlace_0 (a1 : Int) (σ : xS) : X iC_isPlace 0 [(2, 200), (0, a1)] [] σ =
  if a1 < 0 then (if a1 < 10 then some ((0, 0), σ)
    else if (xw (a1 - 10)) < 0 then some ((0, 0), σ)
    else if (xw ((σ.1 209 4) - 1)) < (xw (a1 - 10)) then some ((0, 0), σ)
    else some ((0, 1), σ))
  else if 4 < a1 then (if a1 < 10 then some ((0, 0), σ)
    else if (xw (a1 - 10)) < 0 then some ((0, 0), σ)
    else if (xw ((σ.1 209 4) - 1)) < (xw (a1 - 10)) then some ((0, 0), σ)
    else some ((0, 1), σ))
  else some ((0, 1), σ) :=
  xev_eq (E := xE1) (F := xFk) (P := xPg) (inl := [172, 211]) (stop := []) 45 iC_isPlace 0 [(2, 200), (0, a1)] [] σ
set_option maxRecDepth 20000 in
theorem qC_isAsked_0 (a1 a2 a3 : Int) (σ : xS) : X iC_isAsked 0 [(2, 200), (0, a1), (0, a2), (0, a3)] [] σ =
  if a1 < 0 then some ((0, 0), σ)
  else if (xw ((σ.1 216 6) - 1)) < a1 then some ((0, 0), σ)
  else if a2 < 0 then some ((0, 0), σ)
  else if 1000 < a2 then some ((0, 0), σ)
  else if a3 < 0 then some ((0, 0), σ)
  else if 1000 < a3 then some ((0, 0), σ)
  else if xin a1 150 then (if a2 < (σ.1 219 a1.toNat) then some ((0, 0), σ)
    else if xin a1 150 then (if a3 < (σ.1 219 a1.toNat) then some ((0, 0), σ)
      else some ((0, 1), σ))
    else none)
  else none :=
  xev_eq (E := xE1) (F := xFk) (P := xPg) (inl := [172, 174, 175, 180, 187]) (stop := []) 90 iC_isAsked 0 [(2, 200), (0, a1), (0, a2), (0, a3)] [] σ
set_option maxRecDepth 20000 in
theorem qBook_addSheet_0 (a1 a2 : Int) (σ : xS) : X iBook_addSheet 0 [(2, 216), (0, a1), (0, a2)] [] σ =
  if xin (σ.1 216 6) 150 then (if xin (σ.1 216 6) 150 then (if xin (σ.1 216 6) 150 then (if xin (σ.1 216 6) 150 then some ((0, (xw ((xw ((σ.1 216 6) + 1)) - 1))), (xs (xs (xs (xs (xs σ 217 (σ.1 216 6).toNat a1) 218 (σ.1 216 6).toNat a2) 219 (σ.1 216 6).toNat (σ.1 216 0)) 220 (σ.1 216 6).toNat (-1)) 216 6 (xw ((σ.1 216 6) + 1))))
        else none)
      else none)
    else none)
  else none :=
  xev_eq (E := xE1) (F := xFk) (P := xPg) (inl := []) (stop := []) 38 iBook_addSheet 0 [(2, 216), (0, a1), (0, a2)] [] σ
set_option maxRecDepth 20000 in
theorem qBook_addMove_0 (a1 a2 a3 a4 : Int) (σ : xS) : X iBook_addMove 0 [(2, 216), (0, a1), (0, a2), (0, a3), (0, a4), (9, 0)] [] σ =
  if xin (σ.1 216 14) 600 then (if xin (σ.1 216 14) 600 then (if xin (σ.1 216 14) 600 then (if xin (σ.1 216 14) 600 then (if xin (σ.1 216 14) 600 then (if xin (σ.1 216 14) 600 then ((X iBook_putInOrder 0 [(2, 216), (0, (σ.1 216 14)), (0, a1), (9, 0), (9, 0), (9, 0)] [] (xs (xs (xs (xs (xs (xs (xs σ 216 14 (xw ((σ.1 216 14) + 1))) 222 (σ.1 216 14).toNat a1) 223 (σ.1 216 14).toNat a2) 224 (σ.1 216 14).toNat a3) 225 (σ.1 216 14).toNat (σ.1 216 0)) 226 (σ.1 216 14).toNat (-1)) 227 (σ.1 216 14).toNat a4)).bind fun q1 => X iBook_addMove 75 [(2, 216), (0, a1), (0, a2), (0, a3), (0, a4), (0, (σ.1 216 14))] [] q1.2)
            else none)
          else none)
        else none)
      else none)
    else none)
  else none :=
  xev_eq (E := xE1) (F := xFk) (P := xPg) (inl := []) (stop := [75]) 46 iBook_addMove 0 [(2, 216), (0, a1), (0, a2), (0, a3), (0, a4), (9, 0)] [] σ
set_option maxRecDepth 20000 in
theorem qBook_addMove_75 (v5 : Int) (vw0 vw1 vw2 vw3 vw4 : xAV) (σ : xS) : X iBook_addMove 75 [vw0, vw1, vw2, vw3, vw4, (0, v5)] [] σ =
  some ((0, v5), σ) :=
  xev_eq (E := xE1) (F := xFk) (P := xPg) (inl := []) (stop := [75]) 4 iBook_addMove 75 [vw0, vw1, vw2, vw3, vw4, (0, v5)] [] σ
set_option maxRecDepth 20000 in
theorem qBook_putInOrder_0 (a1 a2 : Int) (σ : xS) : X iBook_putInOrder 0 [(2, 216), (0, a1), (0, a2), (9, 0), (9, 0), (9, 0)] [] σ =
  if xin a2 150 then X iBook_putInOrder 13 [(2, 216), (0, a1), (0, a2), (0, (-1)), (0, (σ.1 220 a2.toNat)), (0, 0)] [] σ
  else none :=
  xev_eq (E := xE1) (F := xFk) (P := xPg) (inl := []) (stop := [13, 64]) 11 iBook_putInOrder 0 [(2, 216), (0, a1), (0, a2), (9, 0), (9, 0), (9, 0)] [] σ
set_option maxRecDepth 20000 in
theorem qBook_putInOrder_13 (v1 v2 v3 v4 v5 : Int) (σ : xS) : X iBook_putInOrder 13 [(2, 216), (0, v1), (0, v2), (0, v3), (0, v4), (0, v5)] [] σ =
  if xin v2 150 then (if v5 < (σ.1 221 v2.toNat) then (if v4 = (-1) then X iBook_putInOrder 64 [(2, 216), (0, v1), (0, v2), (0, v3), (0, v4), (0, v5)] [] σ
      else if xin v4 600 then (if xin v1 600 then (if (σ.1 223 v1.toNat) < (σ.1 223 v4.toNat) then X iBook_putInOrder 64 [(2, 216), (0, v1), (0, v2), (0, v3), (0, v4), (0, v5)] [] σ
          else if xin v4 600 then X iBook_putInOrder 13 [(2, 216), (0, v1), (0, v2), (0, v4), (0, (σ.1 228 v4.toNat)), (0, (xw (v5 + 1)))] [] σ
          else none)
        else none)
      else none)
    else X iBook_putInOrder 64 [(2, 216), (0, v1), (0, v2), (0, v3), (0, v4), (0, v5)] [] σ)
  else none :=
  xev_eq (E := xE1) (F := xFk) (P := xPg) (inl := []) (stop := [13, 64]) 29 iBook_putInOrder 13 [(2, 216), (0, v1), (0, v2), (0, v3), (0, v4), (0, v5)] [] σ
set_option maxRecDepth 20000 in
theorem qBook_putInOrder_64 (v1 v2 v3 v4 : Int) (vw5 : xAV) (σ : xS) : X iBook_putInOrder 64 [(2, 216), (0, v1), (0, v2), (0, v3), (0, v4), vw5] [] σ =
  if xin v1 600 then (if v3 = (-1) then (if xin v2 150 then (if xin v2 150 then (if xin v2 150 then some ((9, 0), (xs (xs (xs σ 228 v1.toNat v4) 220 v2.toNat v1) 221 v2.toNat (xw ((σ.1 221 v2.toNat) + 1))))
          else none)
        else none)
      else none)
    else if xin v3 600 then (if xin v2 150 then (if xin v2 150 then some ((9, 0), (xs (xs (xs σ 228 v1.toNat v4) 228 v3.toNat v1) 221 v2.toNat (xw ((σ.1 221 v2.toNat) + 1))))
        else none)
      else none)
    else none)
  else none :=
  xev_eq (E := xE1) (F := xFk) (P := xPg) (inl := []) (stop := [13, 64]) 25 iBook_putInOrder 64 [(2, 216), (0, v1), (0, v2), (0, v3), (0, v4), vw5] [] σ
set_option maxRecDepth 20000 in
theorem qBook_takeBack_0 (a1 : Int) (σ : xS) : X iBook_takeBack 0 [(2, 216), (0, a1)] [] σ =
  if a1 < 0 then some ((0, 0), σ)
  else if (xw ((σ.1 216 14) - 1)) < a1 then some ((0, 0), σ)
  else if xin a1 600 then (if (σ.1 226 a1.toNat) = (-1) then (if xin a1 600 then some ((0, 1), (xs (xs σ 226 a1.toNat (σ.1 216 0)) 216 15 (xw ((σ.1 216 15) + 1))))
      else none)
    else some ((0, 0), σ))
  else none :=
  xev_eq (E := xE1) (F := xFk) (P := xPg) (inl := [172]) (stop := []) 39 iBook_takeBack 0 [(2, 216), (0, a1)] [] σ
set_option maxRecDepth 20000 in
theorem qBook_isRead_0 (a1 a2 : Int) (σ : xS) : X iBook_isRead 0 [(2, 216), (0, a1), (0, a2), (9, 0), (9, 0)] [] σ =
  if xin a1 150 then X iBook_isRead 10 [(2, 216), (0, a1), (0, a2), (0, (σ.1 220 a1.toNat)), (0, 0)] [] σ
  else none :=
  xev_eq (E := xE1) (F := xFk) (P := xPg) (inl := []) (stop := [10]) 9 iBook_isRead 0 [(2, 216), (0, a1), (0, a2), (9, 0), (9, 0)] [] σ
set_option maxRecDepth 20000 in
theorem qBook_isRead_10 (v1 v2 v3 v4 : Int) (σ : xS) : X iBook_isRead 10 [(2, 216), (0, v1), (0, v2), (0, v3), (0, v4)] [] σ =
  if xin v1 150 then (if v4 < (σ.1 221 v1.toNat) then (if v3 = (-1) then some ((0, 0), σ)
      else if xin v3 600 then (if (σ.1 227 v3.toNat) = v2 then (if xin v3 600 then (if (σ.1 226 v3.toNat) = (-1) then some ((0, 1), σ)
            else if xin v3 600 then X iBook_isRead 10 [(2, 216), (0, v1), (0, v2), (0, (σ.1 228 v3.toNat)), (0, (xw (v4 + 1)))] [] σ
            else none)
          else none)
        else if xin v3 600 then X iBook_isRead 10 [(2, 216), (0, v1), (0, v2), (0, (σ.1 228 v3.toNat)), (0, (xw (v4 + 1)))] [] σ
        else none)
      else none)
    else some ((0, 0), σ))
  else none :=
  xev_eq (E := xE1) (F := xFk) (P := xPg) (inl := []) (stop := [10]) 30 iBook_isRead 10 [(2, 216), (0, v1), (0, v2), (0, v3), (0, v4)] [] σ
set_option maxRecDepth 20000 in
theorem qBook_lastOf_0 (a1 a2 a3 : Int) (σ : xS) : X iBook_lastOf 0 [(2, 216), (0, a1), (0, a2), (0, a3), (9, 0), (9, 0), (9, 0)] [] σ =
  if xin a1 150 then X iBook_lastOf 14 [(2, 216), (0, a1), (0, a2), (0, a3), (0, (-1)), (0, (σ.1 220 a1.toNat)), (0, 0)] [] σ
  else none :=
  xev_eq (E := xE1) (F := xFk) (P := xPg) (inl := [188, 189]) (stop := [14]) 11 iBook_lastOf 0 [(2, 216), (0, a1), (0, a2), (0, a3), (9, 0), (9, 0), (9, 0)] [] σ
set_option maxRecDepth 20000 in
theorem qBook_lastOf_14 (v1 v2 v3 v4 v5 v6 : Int) (σ : xS) : X iBook_lastOf 14 [(2, 216), (0, v1), (0, v2), (0, v3), (0, v4), (0, v5), (0, v6)] [] σ =
  if xin v1 150 then (if v6 < (σ.1 221 v1.toNat) then (if v5 = (-1) then some ((0, v4), σ)
      else if xin v5 600 then (if v2 < (σ.1 223 v5.toNat) then (if xin v5 600 then X iBook_lastOf 14 [(2, 216), (0, v1), (0, v2), (0, v3), (0, v4), (0, (σ.1 228 v5.toNat)), (0, (xw (v6 + 1)))] [] σ
          else none)
        else if xin v5 600 then (if v3 < (σ.1 225 v5.toNat) then (if xin v5 600 then X iBook_lastOf 14 [(2, 216), (0, v1), (0, v2), (0, v3), (0, v4), (0, (σ.1 228 v5.toNat)), (0, (xw (v6 + 1)))] [] σ
            else none)
          else if xin v5 600 then (if (σ.1 226 v5.toNat) = (-1) then (if xin v5 600 then X iBook_lastOf 14 [(2, 216), (0, v1), (0, v2), (0, v3), (0, v5), (0, (σ.1 228 v5.toNat)), (0, (xw (v6 + 1)))] [] σ
              else none)
            else if xin v5 600 then (if v3 < (σ.1 226 v5.toNat) then (if xin v5 600 then X iBook_lastOf 14 [(2, 216), (0, v1), (0, v2), (0, v3), (0, v5), (0, (σ.1 228 v5.toNat)), (0, (xw (v6 + 1)))] [] σ
                else none)
              else if xin v5 600 then X iBook_lastOf 14 [(2, 216), (0, v1), (0, v2), (0, v3), (0, v4), (0, (σ.1 228 v5.toNat)), (0, (xw (v6 + 1)))] [] σ
              else none)
            else none)
          else none)
        else none)
      else none)
    else some ((0, v4), σ))
  else none :=
  xev_eq (E := xE1) (F := xFk) (P := xPg) (inl := [188, 189]) (stop := [14]) 62 iBook_lastOf 14 [(2, 216), (0, v1), (0, v2), (0, v3), (0, v4), (0, v5), (0, v6)] [] σ
set_option maxRecDepth 20000 in
theorem qBook_lastInto_0 (a1 a2 a3 a4 : Int) (σ : xS) : X iBook_lastInto 0 [(2, 216), (0, a1), (0, a2), (0, a3), (0, a4), (9, 0), (9, 0), (9, 0)] [] σ =
  if xin a2 150 then X iBook_lastInto 14 [(2, 216), (0, a1), (0, a2), (0, a3), (0, a4), (0, (-1)), (0, (σ.1 220 a2.toNat)), (0, 0)] [] σ
  else none :=
  xev_eq (E := xE1) (F := xFk) (P := xPg) (inl := [188, 189]) (stop := [14]) 11 iBook_lastInto 0 [(2, 216), (0, a1), (0, a2), (0, a3), (0, a4), (9, 0), (9, 0), (9, 0)] [] σ
set_option maxRecDepth 20000 in
theorem qBook_lastInto_14 (v1 v2 v3 v4 v5 v6 v7 : Int) (σ : xS) : X iBook_lastInto 14 [(2, 216), (0, v1), (0, v2), (0, v3), (0, v4), (0, v5), (0, v6), (0, v7)] [] σ =
  if xin v2 150 then (if v7 < (σ.1 221 v2.toNat) then (if v6 = (-1) then some ((0, v5), σ)
      else if xin v6 600 then (if (σ.1 224 v6.toNat) = v1 then (if xin v6 600 then (if v3 < (σ.1 223 v6.toNat) then (if xin v6 600 then X iBook_lastInto 14 [(2, 216), (0, v1), (0, v2), (0, v3), (0, v4), (0, v5), (0, (σ.1 228 v6.toNat)), (0, (xw (v7 + 1)))] [] σ
              else none)
            else if xin v6 600 then (if v4 < (σ.1 225 v6.toNat) then (if xin v6 600 then X iBook_lastInto 14 [(2, 216), (0, v1), (0, v2), (0, v3), (0, v4), (0, v5), (0, (σ.1 228 v6.toNat)), (0, (xw (v7 + 1)))] [] σ
                else none)
              else if xin v6 600 then (if (σ.1 226 v6.toNat) = (-1) then (if xin v6 600 then X iBook_lastInto 14 [(2, 216), (0, v1), (0, v2), (0, v3), (0, v4), (0, v6), (0, (σ.1 228 v6.toNat)), (0, (xw (v7 + 1)))] [] σ
                  else none)
                else if xin v6 600 then (if v4 < (σ.1 226 v6.toNat) then (if xin v6 600 then X iBook_lastInto 14 [(2, 216), (0, v1), (0, v2), (0, v3), (0, v4), (0, v6), (0, (σ.1 228 v6.toNat)), (0, (xw (v7 + 1)))] [] σ
                    else none)
                  else if xin v6 600 then X iBook_lastInto 14 [(2, 216), (0, v1), (0, v2), (0, v3), (0, v4), (0, v5), (0, (σ.1 228 v6.toNat)), (0, (xw (v7 + 1)))] [] σ
                  else none)
                else none)
              else none)
            else none)
          else none)
        else if xin v6 600 then X iBook_lastInto 14 [(2, 216), (0, v1), (0, v2), (0, v3), (0, v4), (0, v5), (0, (σ.1 228 v6.toNat)), (0, (xw (v7 + 1)))] [] σ
        else none)
      else none)
    else some ((0, v5), σ))
  else none :=
  xev_eq (E := xE1) (F := xFk) (P := xPg) (inl := [188, 189]) (stop := [14]) 68 iBook_lastInto 14 [(2, 216), (0, v1), (0, v2), (0, v3), (0, v4), (0, v5), (0, v6), (0, v7)] [] σ
set_option maxRecDepth 20000 in
theorem qBook_placeAt_0 (a1 a2 a3 : Int) (σ : xS) : X iBook_placeAt 0 [(2, 216), (0, a1), (0, a2), (0, a3), (9, 0)] [] σ =
  (X iBook_lastOf 0 [(2, 216), (0, a1), (0, a2), (0, a3), (9, 0), (9, 0), (9, 0)] [] σ).bind fun q1 => X iBook_placeAt 7 [(2, 216), (0, a1), (0, a2), (0, a3), (9, 0)] [q1.1] q1.2 :=
  xev_eq (E := xE1) (F := xFk) (P := xPg) (inl := []) (stop := [7]) 7 iBook_placeAt 0 [(2, 216), (0, a1), (0, a2), (0, a3), (9, 0)] [] σ
set_option maxRecDepth 20000 in
theorem qBook_placeAt_7 (t0 : Int) (vw1 vw2 vw3 vw4 : xAV) (σ : xS) : X iBook_placeAt 7 [(2, 216), vw1, vw2, vw3, vw4] [(0, t0)] σ =
  if t0 = (-1) then some ((0, 0), σ)
  else if xin t0 600 then some ((0, (σ.1 224 t0.toNat)), σ)
  else none :=
  xev_eq (E := xE1) (F := xFk) (P := xPg) (inl := []) (stop := [7]) 11 iBook_placeAt 7 [(2, 216), vw1, vw2, vw3, vw4] [(0, t0)] σ
set_option maxRecDepth 20000 in
theorem qBook_sinceAt_0 (a1 a2 a3 : Int) (σ : xS) : X iBook_sinceAt 0 [(2, 216), (0, a1), (0, a2), (0, a3), (9, 0)] [] σ =
  (X iBook_lastOf 0 [(2, 216), (0, a1), (0, a2), (0, a3), (9, 0), (9, 0), (9, 0)] [] σ).bind fun q1 => X iBook_sinceAt 7 [(2, 216), (0, a1), (0, a2), (0, a3), (9, 0)] [q1.1] q1.2 :=
  xev_eq (E := xE1) (F := xFk) (P := xPg) (inl := []) (stop := [7]) 7 iBook_sinceAt 0 [(2, 216), (0, a1), (0, a2), (0, a3), (9, 0)] [] σ
set_option maxRecDepth 20000 in
theorem qBook_sinceAt_7 (v1 t0 : Int) (vw2 vw3 vw4 : xAV) (σ : xS) : X iBook_sinceAt 7 [(2, 216), (0, v1), vw2, vw3, vw4] [(0, t0)] σ =
  if t0 = (-1) then (if xin v1 150 then some ((0, (σ.1 219 v1.toNat)), σ)
    else none)
  else if xin t0 600 then some ((0, (σ.1 223 t0.toNat)), σ)
  else none :=
  xev_eq (E := xE1) (F := xFk) (P := xPg) (inl := []) (stop := [7]) 12 iBook_sinceAt 7 [(2, 216), (0, v1), vw2, vw3, vw4] [(0, t0)] σ
set_option maxRecDepth 20000 in
theorem qBook_washesAt_0 (a1 a2 a3 : Int) (σ : xS) : X iBook_washesAt 0 [(2, 216), (0, a1), (0, a2), (0, a3), (9, 0), (9, 0), (9, 0), (9, 0)] [] σ =
  if xin a1 150 then X iBook_washesAt 17 [(2, 216), (0, a1), (0, a2), (0, a3), (0, 0), (0, 0), (0, (σ.1 220 a1.toNat)), (0, 0)] [] σ
  else none :=
  xev_eq (E := xE1) (F := xFk) (P := xPg) (inl := [173, 188, 189]) (stop := [17, 42]) 13 iBook_washesAt 0 [(2, 216), (0, a1), (0, a2), (0, a3), (9, 0), (9, 0), (9, 0), (9, 0)] [] σ
set_option maxRecDepth 20000 in
theorem qBook_washesAt_17 (v1 v2 v3 v4 v5 v6 v7 : Int) (σ : xS) : X iBook_washesAt 17 [(2, 216), (0, v1), (0, v2), (0, v3), (0, v4), (0, v5), (0, v6), (0, v7)] [] σ =
  if xin v1 150 then (if v7 < (σ.1 221 v1.toNat) then (if v6 = (-1) then some ((0, v4), σ)
      else if xin v6 600 then (if v2 < (σ.1 223 v6.toNat) then X iBook_washesAt 42 [(2, 216), (0, v1), (0, v2), (0, v3), (0, v4), (0, v5), (0, v6), (0, v7)] [(0, 0)] σ
        else if xin v6 600 then (if v3 < (σ.1 225 v6.toNat) then X iBook_washesAt 42 [(2, 216), (0, v1), (0, v2), (0, v3), (0, v4), (0, v5), (0, v6), (0, v7)] [(0, 0)] σ
          else if xin v6 600 then (if (σ.1 226 v6.toNat) = (-1) then X iBook_washesAt 42 [(2, 216), (0, v1), (0, v2), (0, v3), (0, v4), (0, v5), (0, v6), (0, v7)] [(0, 1)] σ
            else if xin v6 600 then (if v3 < (σ.1 226 v6.toNat) then X iBook_washesAt 42 [(2, 216), (0, v1), (0, v2), (0, v3), (0, v4), (0, v5), (0, v6), (0, v7)] [(0, 1)] σ
              else X iBook_washesAt 42 [(2, 216), (0, v1), (0, v2), (0, v3), (0, v4), (0, v5), (0, v6), (0, v7)] [(0, 0)] σ)
            else none)
          else none)
        else none)
      else none)
    else some ((0, v4), σ))
  else none :=
  xev_eq (E := xE1) (F := xFk) (P := xPg) (inl := [173, 188, 189]) (stop := [17, 42]) 51 iBook_washesAt 17 [(2, 216), (0, v1), (0, v2), (0, v3), (0, v4), (0, v5), (0, v6), (0, v7)] [] σ
set_option maxRecDepth 20000 in
theorem qBook_washesAt_42 (v1 v2 v3 v4 v5 v6 v7 t0 : Int) (σ : xS) : X iBook_washesAt 42 [(2, 216), (0, v1), (0, v2), (0, v3), (0, v4), (0, v5), (0, v6), (0, v7)] [(0, t0)] σ =
  if t0 = 0 then (if xin v6 600 then X iBook_washesAt 17 [(2, 216), (0, v1), (0, v2), (0, v3), (0, v4), (0, v5), (0, (σ.1 228 v6.toNat)), (0, (xw (v7 + 1)))] [] σ
    else none)
  else if v5 = 2 then (if xin v6 600 then (if (σ.1 224 v6.toNat) = 0 then (if xin v6 600 then (if xin v6 600 then X iBook_washesAt 17 [(2, 216), (0, v1), (0, v2), (0, v3), (0, (xw (v4 + 1))), (0, (σ.1 224 v6.toNat)), (0, (σ.1 228 v6.toNat)), (0, (xw (v7 + 1)))] [] σ
          else none)
        else none)
      else if xin v6 600 then (if xin v6 600 then X iBook_washesAt 17 [(2, 216), (0, v1), (0, v2), (0, v3), (0, (xw (v4 + 0))), (0, (σ.1 224 v6.toNat)), (0, (σ.1 228 v6.toNat)), (0, (xw (v7 + 1)))] [] σ
        else none)
      else none)
    else none)
  else if xin v6 600 then (if xin v6 600 then X iBook_washesAt 17 [(2, 216), (0, v1), (0, v2), (0, v3), (0, (xw (v4 + 0))), (0, (σ.1 224 v6.toNat)), (0, (σ.1 228 v6.toNat)), (0, (xw (v7 + 1)))] [] σ
    else none)
  else none :=
  xev_eq (E := xE1) (F := xFk) (P := xPg) (inl := [173, 188, 189]) (stop := [17, 42]) 34 iBook_washesAt 42 [(2, 216), (0, v1), (0, v2), (0, v3), (0, v4), (0, v5), (0, v6), (0, v7)] [(0, t0)] σ
set_option maxRecDepth 20000 in
theorem qBook_nightsAt_0 (a1 a2 a3 a4 : Int) (σ : xS) : X iBook_nightsAt 0 [(2, 216), (0, a1), (0, a2), (0, a3), (0, a4), (9, 0), (9, 0), (9, 0), (9, 0), (9, 0)] [] σ =
  if xin a1 150 then (if xin a1 150 then X iBook_nightsAt 25 [(2, 216), (0, a1), (0, a2), (0, a3), (0, a4), (0, 0), (0, 0), (0, (σ.1 219 a1.toNat)), (0, (σ.1 220 a1.toNat)), (0, 0)] [] σ
    else none)
  else none :=
  xev_eq (E := xE1) (F := xFk) (P := xPg) (inl := [188, 189]) (stop := [25, 51]) 18 iBook_nightsAt 0 [(2, 216), (0, a1), (0, a2), (0, a3), (0, a4), (9, 0), (9, 0), (9, 0), (9, 0), (9, 0)] [] σ
set_option maxRecDepth 20000 in
theorem qBook_nightsAt_25 (v1 v2 v3 v4 v5 v6 v7 v8 v9 : Int) (σ : xS) : X iBook_nightsAt 25 [(2, 216), (0, v1), (0, v2), (0, v3), (0, v4), (0, v5), (0, v6), (0, v7), (0, v8), (0, v9)] [] σ =
  if xin v1 150 then (if v9 < (σ.1 221 v1.toNat) then (if v8 = (-1) then (if v6 = v2 then some ((0, (xw (v5 + (xw ((xw (v3 + 1)) - v7))))), σ)
        else some ((0, (xw (v5 + 0))), σ))
      else if xin v8 600 then (if v3 < (σ.1 223 v8.toNat) then X iBook_nightsAt 51 [(2, 216), (0, v1), (0, v2), (0, v3), (0, v4), (0, v5), (0, v6), (0, v7), (0, v8), (0, v9)] [(0, 0)] σ
        else if xin v8 600 then (if v4 < (σ.1 225 v8.toNat) then X iBook_nightsAt 51 [(2, 216), (0, v1), (0, v2), (0, v3), (0, v4), (0, v5), (0, v6), (0, v7), (0, v8), (0, v9)] [(0, 0)] σ
          else if xin v8 600 then (if (σ.1 226 v8.toNat) = (-1) then X iBook_nightsAt 51 [(2, 216), (0, v1), (0, v2), (0, v3), (0, v4), (0, v5), (0, v6), (0, v7), (0, v8), (0, v9)] [(0, 1)] σ
            else if xin v8 600 then (if v4 < (σ.1 226 v8.toNat) then X iBook_nightsAt 51 [(2, 216), (0, v1), (0, v2), (0, v3), (0, v4), (0, v5), (0, v6), (0, v7), (0, v8), (0, v9)] [(0, 1)] σ
              else X iBook_nightsAt 51 [(2, 216), (0, v1), (0, v2), (0, v3), (0, v4), (0, v5), (0, v6), (0, v7), (0, v8), (0, v9)] [(0, 0)] σ)
            else none)
          else none)
        else none)
      else none)
    else if v6 = v2 then some ((0, (xw (v5 + (xw ((xw (v3 + 1)) - v7))))), σ)
    else some ((0, (xw (v5 + 0))), σ))
  else none :=
  xev_eq (E := xE1) (F := xFk) (P := xPg) (inl := [188, 189]) (stop := [25, 51]) 51 iBook_nightsAt 25 [(2, 216), (0, v1), (0, v2), (0, v3), (0, v4), (0, v5), (0, v6), (0, v7), (0, v8), (0, v9)] [] σ
set_option maxRecDepth 20000 in
theorem qBook_nightsAt_51 (v1 v2 v3 v4 v5 v6 v7 v8 v9 t0 : Int) (σ : xS) : X iBook_nightsAt 51 [(2, 216), (0, v1), (0, v2), (0, v3), (0, v4), (0, v5), (0, v6), (0, v7), (0, v8), (0, v9)] [(0, t0)] σ =
  if t0 = 0 then (if xin v8 600 then X iBook_nightsAt 25 [(2, 216), (0, v1), (0, v2), (0, v3), (0, v4), (0, v5), (0, v6), (0, v7), (0, (σ.1 228 v8.toNat)), (0, (xw (v9 + 1)))] [] σ
    else none)
  else if v6 = v2 then (if xin v8 600 then (if xin v8 600 then (if xin v8 600 then (if xin v8 600 then X iBook_nightsAt 25 [(2, 216), (0, v1), (0, v2), (0, v3), (0, v4), (0, (xw (v5 + (xw ((σ.1 223 v8.toNat) - v7))))), (0, (σ.1 224 v8.toNat)), (0, (σ.1 223 v8.toNat)), (0, (σ.1 228 v8.toNat)), (0, (xw (v9 + 1)))] [] σ
          else none)
        else none)
      else none)
    else none)
  else if xin v8 600 then (if xin v8 600 then (if xin v8 600 then X iBook_nightsAt 25 [(2, 216), (0, v1), (0, v2), (0, v3), (0, v4), (0, (xw (v5 + 0))), (0, (σ.1 224 v8.toNat)), (0, (σ.1 223 v8.toNat)), (0, (σ.1 228 v8.toNat)), (0, (xw (v9 + 1)))] [] σ
      else none)
    else none)
  else none :=
  xev_eq (E := xE1) (F := xFk) (P := xPg) (inl := [188, 189]) (stop := [25, 51]) 33 iBook_nightsAt 51 [(2, 216), (0, v1), (0, v2), (0, v3), (0, v4), (0, v5), (0, v6), (0, v7), (0, v8), (0, v9)] [(0, t0)] σ
set_option maxRecDepth 20000 in
theorem qBook_isAt_0 (a1 a2 a3 a4 : Int) (σ : xS) : X iBook_isAt 0 [(2, 216), (0, a1), (0, a2), (0, a3), (0, a4)] [] σ =
  if xin a2 150 then (if a3 < (σ.1 219 a2.toNat) then some ((0, 0), σ)
    else if xin a2 150 then (if a4 < (σ.1 219 a2.toNat) then some ((0, 0), σ)
      else (X iBook_placeAt 0 [(2, 216), (0, a2), (0, a3), (0, a4), (9, 0)] [] σ).bind fun q1 => X iBook_isAt 19 [(2, 216), (0, a1), (0, a2), (0, a3), (0, a4)] [q1.1] q1.2)
    else none)
  else none :=
  xev_eq (E := xE1) (F := xFk) (P := xPg) (inl := [187]) (stop := [19]) 28 iBook_isAt 0 [(2, 216), (0, a1), (0, a2), (0, a3), (0, a4)] [] σ
set_option maxRecDepth 20000 in
theorem qBook_isAt_19 (v1 t0 : Int) (vw0 vw2 vw3 vw4 : xAV) (σ : xS) : X iBook_isAt 19 [vw0, (0, v1), vw2, vw3, vw4] [(0, t0)] σ =
  if t0 = v1 then some ((0, 1), σ)
  else some ((0, 0), σ) :=
  xev_eq (E := xE1) (F := xFk) (P := xPg) (inl := [187]) (stop := [19]) 7 iBook_isAt 19 [vw0, (0, v1), vw2, vw3, vw4] [(0, t0)] σ
set_option maxRecDepth 20000 in
theorem qBook_manyAt_0 (a1 a2 a3 a4 : Int) (σ : xS) : X iBook_manyAt 0 [(2, 216), (0, a1), (0, a2), (0, a3), (0, a4), (9, 0), (9, 0)] [] σ =
  X iBook_manyAt 6 [(2, 216), (0, a1), (0, a2), (0, a3), (0, a4), (0, 0), (0, 0)] [] σ :=
  xev_eq (E := xE1) (F := xFk) (P := xPg) (inl := [173]) (stop := [6, 38]) 6 iBook_manyAt 0 [(2, 216), (0, a1), (0, a2), (0, a3), (0, a4), (9, 0), (9, 0)] [] σ
set_option maxRecDepth 20000 in
theorem qBook_manyAt_6 (v1 v2 v3 v4 v5 v6 : Int) (σ : xS) : X iBook_manyAt 6 [(2, 216), (0, v1), (0, v2), (0, v3), (0, v4), (0, v5), (0, v6)] [] σ =
  if v6 < (σ.1 216 6) then (if xin v6 150 then (if (σ.1 217 v6.toNat) = v2 then ((X iBook_isAt 0 [(2, 216), (0, v1), (0, v6), (0, v3), (0, v4)] [] σ).bind fun q1 => X iBook_manyAt 38 [(2, 216), (0, v1), (0, v2), (0, v3), (0, v4), (0, v5), (0, v6)] [q1.1, (0, v5)] q1.2)
      else X iBook_manyAt 6 [(2, 216), (0, v1), (0, v2), (0, v3), (0, v4), (0, (xw (v5 + 0))), (0, (xw (v6 + 1)))] [] σ)
    else none)
  else some ((0, v5), σ) :=
  xev_eq (E := xE1) (F := xFk) (P := xPg) (inl := [173]) (stop := [6, 38]) 23 iBook_manyAt 6 [(2, 216), (0, v1), (0, v2), (0, v3), (0, v4), (0, v5), (0, v6)] [] σ
set_option maxRecDepth 20000 in
theorem qBook_manyAt_38 (v1 v2 v3 v4 v6 t0 t1 : Int) (vw5 : xAV) (σ : xS) : X iBook_manyAt 38 [(2, 216), (0, v1), (0, v2), (0, v3), (0, v4), vw5, (0, v6)] [(0, t0), (0, t1)] σ =
  if t0 = 0 then X iBook_manyAt 6 [(2, 216), (0, v1), (0, v2), (0, v3), (0, v4), (0, (xw (t1 + 0))), (0, (xw (v6 + 1)))] [] σ
  else X iBook_manyAt 6 [(2, 216), (0, v1), (0, v2), (0, v3), (0, v4), (0, (xw (t1 + 1))), (0, (xw (v6 + 1)))] [] σ :=
  xev_eq (E := xE1) (F := xFk) (P := xPg) (inl := [173]) (stop := [6, 38]) 15 iBook_manyAt 38 [(2, 216), (0, v1), (0, v2), (0, v3), (0, v4), vw5, (0, v6)] [(0, t0), (0, t1)] σ

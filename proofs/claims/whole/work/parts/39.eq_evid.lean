/-! equations, written by a program (wip/whole/gen) -/
set_option maxRecDepth 20000 in
theorem qM_max_0 (a0 a1 : Int) (σ : xS) : X iM_max 0 [(0, a0), (0, a1)] [] σ =
  if a1 < a0 then some ((0, a0), σ)
  else some ((0, a1), σ) :=
  xev_eq (E := xE1) (F := xFk) (P := xPg) (inl := []) (stop := []) 8 iM_max 0 [(0, a0), (0, a1)] [] σ
set_option maxRecDepth 20000 in
theorem qM_min_0 (a0 a1 : Int) (σ : xS) : X iM_min 0 [(0, a0), (0, a1)] [] σ =
  if a0 < a1 then some ((0, a0), σ)
  else some ((0, a1), σ) :=
  xev_eq (E := xE1) (F := xFk) (P := xPg) (inl := []) (stop := []) 8 iM_min 0 [(0, a0), (0, a1)] [] σ
set_option maxRecDepth 20000 in
theorem qM_sort_0 (a1 a2 a3 a4 a5 : Int) (σ : xS) : X iM_sort 0 [(2, 305), (0, a1), (0, a2), (0, a3), (0, a4), (0, a5)] [] σ =
  if a1 < 1 then some ((0, (-1)), σ)
  else if 60 < a1 then some ((0, (-1)), σ)
  else if a2 < 0 then some ((0, (-1)), σ)
  else if 3 < a2 then some ((0, (-1)), σ)
  else if a3 < 1 then some ((0, (-1)), σ)
  else if 90 < a3 then some ((0, (-1)), σ)
  else if a4 < 1 then some ((0, (-1)), σ)
  else if 250 < a4 then some ((0, (-1)), σ)
  else if a5 < 1 then some ((0, (-1)), σ)
  else if 1000 < a5 then some ((0, (-1)), σ)
  else if (σ.1 305 6) = 6 then some ((0, (-1)), σ)
  else if xin (σ.1 305 6) 6 then (if xin (σ.1 305 6) 6 then (if xin (σ.1 305 6) 6 then (if xin (σ.1 305 6) 6 then (if xin (σ.1 305 6) 6 then some ((0, (xw ((xw ((σ.1 305 6) + 1)) - 1))), (xs (xs (xs (xs (xs (xs σ 306 (σ.1 305 6).toNat a1) 307 (σ.1 305 6).toNat a2) 308 (σ.1 305 6).toNat a3) 309 (σ.1 305 6).toNat a4) 310 (σ.1 305 6).toNat a5) 305 6 (xw ((σ.1 305 6) + 1))))
          else none)
        else none)
      else none)
    else none)
  else none :=
  xev_eq (E := xE1) (F := xFk) (P := xPg) (inl := [1]) (stop := []) 117 iM_sort 0 [(2, 305), (0, a1), (0, a2), (0, a3), (0, a4), (0, a5)] [] σ
set_option maxRecDepth 20000 in
theorem qM_house_0 (a1 a2 a3 a4 : Int) (σ : xS) : X iM_house 0 [(2, 305), (0, a1), (0, a2), (0, a3), (0, a4)] [] σ =
  if a1 < 0 then some ((0, (-1)), σ)
  else if 3 < a1 then some ((0, (-1)), σ)
  else if a2 < 0 then some ((0, (-1)), σ)
  else if 99 < a2 then some ((0, (-1)), σ)
  else if a3 < 0 then some ((0, (-1)), σ)
  else if 99 < a3 then some ((0, (-1)), σ)
  else if a4 < 0 then some ((0, (-1)), σ)
  else if 1440 < a4 then some ((0, (-1)), σ)
  else if (σ.1 305 11) = 8 then some ((0, (-1)), σ)
  else if xin (σ.1 305 11) 8 then (if xin (σ.1 305 11) 8 then (if xin (σ.1 305 11) 8 then (if xin (σ.1 305 11) 8 then some ((0, (xw ((xw ((σ.1 305 11) + 1)) - 1))), (xs (xs (xs (xs (xs σ 311 (σ.1 305 11).toNat a1) 312 (σ.1 305 11).toNat a2) 313 (σ.1 305 11).toNat a3) 314 (σ.1 305 11).toNat a4) 305 11 (xw ((σ.1 305 11) + 1))))
        else none)
      else none)
    else none)
  else none :=
  xev_eq (E := xE1) (F := xFk) (P := xPg) (inl := [1]) (stop := []) 97 iM_house 0 [(2, 305), (0, a1), (0, a2), (0, a3), (0, a4)] [] σ
set_option maxRecDepth 20000 in
theorem qM_heat_0 (a1 a2 a3 : Int) (σ : xS) : X iM_heat 0 [(2, 305), (0, a1), (0, a2), (0, a3)] [] σ =
  if a1 < 0 then some ((0, (-1)), σ)
  else if (σ.1 305 0) < a1 then some ((0, (-1)), σ)
  else if a2 < 0 then some ((0, (-1)), σ)
  else if 120 < a2 then some ((0, (-1)), σ)
  else if a3 < 0 then some ((0, (-1)), σ)
  else if 200 < a3 then some ((0, (-1)), σ)
  else if (σ.1 305 30) = 60 then some ((0, (-1)), σ)
  else if xin (σ.1 305 30) 60 then (if xin (σ.1 305 30) 60 then (if xin (σ.1 305 30) 60 then (if xin (σ.1 305 30) 60 then some ((0, (xw ((σ.1 305 30) + 1))), (xs (xs (xs (xs (xs σ 325 (σ.1 305 30).toNat a1) 326 (σ.1 305 30).toNat a2) 327 (σ.1 305 30).toNat a3) 328 (σ.1 305 30).toNat (σ.1 305 0)) 305 30 (xw ((σ.1 305 30) + 1))))
        else none)
      else none)
    else none)
  else none :=
  xev_eq (E := xE1) (F := xFk) (P := xPg) (inl := [1]) (stop := []) 74 iM_heat 0 [(2, 305), (0, a1), (0, a2), (0, a3)] [] σ
set_option maxRecDepth 20000 in
theorem qM_lot_0 (a1 a2 : Int) (σ : xS) : X iM_lot 0 [(2, 305), (0, a1), (0, a2)] [] σ =
  if a1 < 0 then some ((0, 0), σ)
  else if 3 < a1 then some ((0, 0), σ)
  else if a2 < 0 then some ((0, 0), σ)
  else if 15 < a2 then some ((0, 0), σ)
  else if xin a1 4 then some ((0, 1), (xs σ 329 a1.toNat a2))
  else none :=
  xev_eq (E := xE1) (F := xFk) (P := xPg) (inl := [1]) (stop := []) 37 iM_lot 0 [(2, 305), (0, a1), (0, a2)] [] σ
set_option maxRecDepth 20000 in
theorem qM_beyond_0 (a1 : Int) (σ : xS) : X iM_beyond 0 [(2, 305), (0, a1)] [] σ =
  if a1 < 2 then some ((0, 0), σ)
  else if 10000 < a1 then some ((0, 0), σ)
  else some ((0, 1), (xs σ 305 32 a1)) :=
  xev_eq (E := xE1) (F := xFk) (P := xPg) (inl := [1]) (stop := []) 21 iM_beyond 0 [(2, 305), (0, a1)] [] σ
set_option maxRecDepth 20000 in
theorem qM_bag_0 (a1 a2 : Int) (σ : xS) : X iM_bag 0 [(2, 305), (0, a1), (0, a2)] [] σ =
  if a1 < 0 then some ((0, (-1)), σ)
  else if a1 < (σ.1 305 11) then (if a2 < 0 then some ((0, (-1)), σ)
    else if (σ.1 305 0) < a2 then some ((0, (-1)), σ)
    else if (σ.1 305 36) = 60 then some ((0, (-1)), σ)
    else if xin (σ.1 305 36) 60 then (if xin (σ.1 305 36) 60 then (if xin (σ.1 305 36) 60 then some ((0, (xw ((xw ((σ.1 305 36) + 1)) - 1))), (xs (xs (xs (xs σ 330 (σ.1 305 36).toNat a1) 331 (σ.1 305 36).toNat a2) 332 (σ.1 305 36).toNat (σ.1 305 0)) 305 36 (xw ((σ.1 305 36) + 1))))
        else none)
      else none)
    else none)
  else some ((0, (-1)), σ) :=
  xev_eq (E := xE1) (F := xFk) (P := xPg) (inl := [6]) (stop := []) 55 iM_bag 0 [(2, 305), (0, a1), (0, a2)] [] σ
set_option maxRecDepth 20000 in
theorem qM_read_0 (a1 a2 : Int) (σ : xS) : X iM_read 0 [(2, 305), (0, a1), (0, a2), (9, 0)] [] σ =
  if a1 < 0 then some ((0, (-1)), σ)
  else if a1 < (σ.1 305 36) then (if a2 < 0 then some ((0, (-1)), σ)
    else if a2 < (σ.1 305 15) then X iM_read 24 [(2, 305), (0, a1), (0, a2), (0, 0)] [] σ
    else some ((0, (-1)), σ))
  else some ((0, (-1)), σ) :=
  xev_eq (E := xE1) (F := xFk) (P := xPg) (inl := [7]) (stop := [24, 114]) 23 iM_read 0 [(2, 305), (0, a1), (0, a2), (9, 0)] [] σ
set_option maxRecDepth 20000 in
theorem qM_read_24 (v1 v2 v3 : Int) (σ : xS) : X iM_read 24 [(2, 305), (0, v1), (0, v2), (0, v3)] [] σ =
  if v3 < (σ.1 305 22) then (if xin v3 600 then (if (σ.1 323 v3.toNat) = v1 then (if xin v3 600 then (if (σ.1 318 v3.toNat) = v2 then (if xin v3 600 then (if (σ.1 322 v3.toNat) < 0 then some ((0, (-2)), σ)
              else X iM_read 24 [(2, 305), (0, v1), (0, v2), (0, (xw (v3 + 1)))] [] σ)
            else none)
          else X iM_read 24 [(2, 305), (0, v1), (0, v2), (0, (xw (v3 + 1)))] [] σ)
        else none)
      else X iM_read 24 [(2, 305), (0, v1), (0, v2), (0, (xw (v3 + 1)))] [] σ)
    else none)
  else if xin v2 150 then (if xin v1 60 then (if (σ.1 331 v1.toNat) < (σ.1 317 v2.toNat) then some ((0, (-3)), σ)
      else if (σ.1 305 22) = 600 then some ((0, (-4)), σ)
      else if xin v1 60 then ((X iM_addMove 0 [(2, 305), (0, v2), (0, (σ.1 331 v1.toNat)), (0, 1), (0, v1)] [] σ).bind fun q1 => X iM_read 114 [(2, 305), (0, v1), (0, v2), (0, v3)] [q1.1] q1.2)
      else none)
    else none)
  else none :=
  xev_eq (E := xE1) (F := xFk) (P := xPg) (inl := [7]) (stop := [24, 114]) 28 iM_read 24 [(2, 305), (0, v1), (0, v2), (0, v3)] [] σ
set_option maxRecDepth 20000 in
theorem qM_read_114 (t0 : Int) (vw0 vw1 vw2 vw3 : xAV) (σ : xS) : X iM_read 114 [vw0, vw1, vw2, vw3] [(0, t0)] σ =
  some ((0, t0), σ) :=
  xev_eq (E := xE1) (F := xFk) (P := xPg) (inl := [7]) (stop := [24, 114]) 3 iM_read 114 [vw0, vw1, vw2, vw3] [(0, t0)] σ
set_option maxRecDepth 20000 in
theorem qM_missesOf_0 (a1 a2 a3 : Int) (σ : xS) : X iM_missesOf 0 [(2, 305), (0, a1), (0, a2), (0, a3), (9, 0), (9, 0), (9, 0), (9, 0)] [] σ =
  (X iM_placeOf 0 [(2, 305), (0, a1), (0, a2), (0, a3), (9, 0)] [] σ).bind fun q1 => X iM_missesOf 7 [(2, 305), (0, a1), (0, a2), (0, a3), (9, 0), (9, 0), (9, 0), (9, 0)] [q1.1] q1.2 :=
  xev_eq (E := xE1) (F := xFk) (P := xPg) (inl := []) (stop := [7, 25, 33, 107]) 7 iM_missesOf 0 [(2, 305), (0, a1), (0, a2), (0, a3), (9, 0), (9, 0), (9, 0), (9, 0)] [] σ
set_option maxRecDepth 20000 in
theorem qM_missesOf_7 (v1 v2 v3 t0 : Int) (vw4 vw5 vw6 vw7 : xAV) (σ : xS) : X iM_missesOf 7 [(2, 305), (0, v1), (0, v2), (0, v3), vw4, vw5, vw6, vw7] [(0, t0)] σ =
  if t0 < 10 then some ((0, 0), σ)
  else (X iM_sinceOf 0 [(2, 305), (0, v1), (0, v2), (0, v3), (9, 0)] [] σ).bind fun q1 => X iM_missesOf 25 [(2, 305), (0, v1), (0, v2), (0, v3), (0, t0), vw5, vw6, vw7] [q1.1] q1.2 :=
  xev_eq (E := xE1) (F := xFk) (P := xPg) (inl := []) (stop := [7, 25, 33, 107]) 11 iM_missesOf 7 [(2, 305), (0, v1), (0, v2), (0, v3), vw4, vw5, vw6, vw7] [(0, t0)] σ
set_option maxRecDepth 20000 in
theorem qM_missesOf_25 (v2 v3 v4 t0 : Int) (vw1 vw5 vw6 vw7 : xAV) (σ : xS) : X iM_missesOf 25 [(2, 305), vw1, (0, v2), (0, v3), (0, v4), vw5, vw6, vw7] [(0, t0)] σ =
  X iM_missesOf 33 [(2, 305), vw1, (0, v2), (0, v3), (0, v4), (0, t0), (0, 0), (0, 0)] [] σ :=
  xev_eq (E := xE1) (F := xFk) (P := xPg) (inl := []) (stop := [7, 25, 33, 107]) 7 iM_missesOf 25 [(2, 305), vw1, (0, v2), (0, v3), (0, v4), vw5, vw6, vw7] [(0, t0)] σ
set_option maxRecDepth 20000 in
theorem qM_missesOf_33 (v2 v3 v4 v5 v6 v7 : Int) (vw1 : xAV) (σ : xS) : X iM_missesOf 33 [(2, 305), vw1, (0, v2), (0, v3), (0, v4), (0, v5), (0, v6), (0, v7)] [] σ =
  if v7 < (σ.1 305 36) then (if xin v7 60 then (if (σ.1 330 v7.toNat) = (xw (v4 - 10)) then (if xin v7 60 then (if v3 < (σ.1 332 v7.toNat) then X iM_missesOf 33 [(2, 305), vw1, (0, v2), (0, v3), (0, v4), (0, v5), (0, v6), (0, (xw (v7 + 1)))] [] σ
          else if xin v7 60 then (if v5 < (σ.1 331 v7.toNat) then (if xin v7 60 then (if v2 < (σ.1 331 v7.toNat) then X iM_missesOf 33 [(2, 305), vw1, (0, v2), (0, v3), (0, v4), (0, v5), (0, v6), (0, (xw (v7 + 1)))] [] σ
                else X iM_missesOf 33 [(2, 305), vw1, (0, v2), (0, v3), (0, v4), (0, v5), (0, (xw (v6 + 1))), (0, (xw (v7 + 1)))] [] σ)
              else none)
            else X iM_missesOf 33 [(2, 305), vw1, (0, v2), (0, v3), (0, v4), (0, v5), (0, v6), (0, (xw (v7 + 1)))] [] σ)
          else none)
        else none)
      else X iM_missesOf 33 [(2, 305), vw1, (0, v2), (0, v3), (0, v4), (0, v5), (0, v6), (0, (xw (v7 + 1)))] [] σ)
    else none)
  else (X iM_min 0 [(0, 12), (0, v6)] [] σ).bind fun q1 => X iM_missesOf 107 [(2, 305), vw1, (0, v2), (0, v3), (0, v4), (0, v5), (0, v6), (0, v7)] [q1.1] q1.2 :=
  xev_eq (E := xE1) (F := xFk) (P := xPg) (inl := []) (stop := [7, 25, 33, 107]) 35 iM_missesOf 33 [(2, 305), vw1, (0, v2), (0, v3), (0, v4), (0, v5), (0, v6), (0, v7)] [] σ
set_option maxRecDepth 20000 in
theorem qM_missesOf_107 (t0 : Int) (vw0 vw1 vw2 vw3 vw4 vw5 vw6 vw7 : xAV) (σ : xS) : X iM_missesOf 107 [vw0, vw1, vw2, vw3, vw4, vw5, vw6, vw7] [(0, t0)] σ =
  some ((0, t0), σ) :=
  xev_eq (E := xE1) (F := xFk) (P := xPg) (inl := []) (stop := [7, 25, 33, 107]) 3 iM_missesOf 107 [vw0, vw1, vw2, vw3, vw4, vw5, vw6, vw7] [(0, t0)] σ
set_option maxRecDepth 20000 in
theorem qM_misses_0 (a1 a2 a3 : Int) (σ : xS) : X iM_misses 0 [(2, 305), (0, a1), (0, a2), (0, a3)] [] σ =
  (X iM_isAsked 0 [(2, 305), (0, a1), (0, a2), (0, a3)] [] σ).bind fun q1 => X iM_misses 7 [(2, 305), (0, a1), (0, a2), (0, a3)] [q1.1] q1.2 :=
  xev_eq (E := xE1) (F := xFk) (P := xPg) (inl := []) (stop := [7, 17]) 7 iM_misses 0 [(2, 305), (0, a1), (0, a2), (0, a3)] [] σ
set_option maxRecDepth 20000 in
theorem qM_misses_7 (v1 v2 v3 t0 : Int) (σ : xS) : X iM_misses 7 [(2, 305), (0, v1), (0, v2), (0, v3)] [(0, t0)] σ =
  if t0 = 0 then some ((0, (-1)), σ)
  else (X iM_missesOf 0 [(2, 305), (0, v1), (0, v2), (0, v3), (9, 0), (9, 0), (9, 0), (9, 0)] [] σ).bind fun q1 => X iM_misses 17 [(2, 305), (0, v1), (0, v2), (0, v3)] [q1.1] q1.2 :=
  xev_eq (E := xE1) (F := xFk) (P := xPg) (inl := []) (stop := [7, 17]) 8 iM_misses 7 [(2, 305), (0, v1), (0, v2), (0, v3)] [(0, t0)] σ
set_option maxRecDepth 20000 in
theorem qM_misses_17 (t0 : Int) (vw0 vw1 vw2 vw3 : xAV) (σ : xS) : X iM_misses 17 [vw0, vw1, vw2, vw3] [(0, t0)] σ =
  some ((0, t0), σ) :=
  xev_eq (E := xE1) (F := xFk) (P := xPg) (inl := []) (stop := [7, 17]) 4 iM_misses 17 [vw0, vw1, vw2, vw3] [(0, t0)] σ
set_option maxRecDepth 20000 in
theorem qM_isDoubt_0 (a1 a2 a3 : Int) (σ : xS) : X iM_isDoubt 0 [(2, 305), (0, a1), (0, a2), (0, a3), (9, 0), (9, 0), (9, 0), (9, 0), (9, 0), (9, 0)] [] σ =
  (X iM_missesOf 0 [(2, 305), (0, a1), (0, a2), (0, a3), (9, 0), (9, 0), (9, 0), (9, 0)] [] σ).bind fun q1 => X iM_isDoubt 7 [(2, 305), (0, a1), (0, a2), (0, a3), (9, 0), (9, 0), (9, 0), (9, 0), (9, 0), (9, 0)] [q1.1] q1.2 :=
  xev_eq (E := xE1) (F := xFk) (P := xPg) (inl := []) (stop := [7, 18]) 7 iM_isDoubt 0 [(2, 305), (0, a1), (0, a2), (0, a3), (9, 0), (9, 0), (9, 0), (9, 0), (9, 0), (9, 0)] [] σ
set_option maxRecDepth 20000 in
theorem qM_isDoubt_7 (v1 t0 : Int) (vw2 vw3 vw4 vw5 vw6 vw7 vw8 vw9 : xAV) (σ : xS) : X iM_isDoubt 7 [(2, 305), (0, v1), vw2, vw3, vw4, vw5, vw6, vw7, vw8, vw9] [(0, t0)] σ =
  X iM_isDoubt 18 [(2, 305), (0, v1), vw2, (xkl vw3), (0, t0), (1, 1), (8, 0), (1, 1), (8, 0), (0, 0)] [] σ :=
  xev_eq (E := xE1) (F := xFk) (P := xPg) (inl := []) (stop := [7, 18]) 9 iM_isDoubt 7 [(2, 305), (0, v1), vw2, vw3, vw4, vw5, vw6, vw7, vw8, vw9] [(0, t0)] σ
set_option maxRecDepth 20000 in
theorem qM_isDoubt_18 (v1 v4 v5 v7 v9 : Int) (vw2 vw3 : xAV) (σ : xS) : X iM_isDoubt 18 [(2, 305), (0, v1), vw2, vw3, (0, v4), (1, v5), (8, 0), (1, v7), (8, 0), (0, v9)] [] σ =
  if v9 < v4 then (if xin v1 150 then (if xin (σ.1 316 v1.toNat) 4 then X iM_isDoubt 18 [(2, 305), (0, v1), vw2, vw3, (0, v4), (1, (xW (v5 * (σ.1 329 (σ.1 316 v1.toNat).toNat)))), (8, 0), (1, (xW (v7 * 16))), (8, 0), (0, (xw (v9 + 1)))] [] σ
      else none)
    else none)
  else if (xW (v5 * (σ.1 305 32))) < v7 then some ((0, 1), σ)
  else some ((0, 0), σ) :=
  xev_eq (E := xE1) (F := xFk) (P := xPg) (inl := []) (stop := [7, 18]) 22 iM_isDoubt 18 [(2, 305), (0, v1), vw2, vw3, (0, v4), (1, v5), (8, 0), (1, v7), (8, 0), (0, v9)] [] σ
set_option maxRecDepth 20000 in
theorem qM_doubt_0 (a1 a2 a3 : Int) (σ : xS) : X iM_doubt 0 [(2, 305), (0, a1), (0, a2), (0, a3)] [] σ =
  (X iM_isAsked 0 [(2, 305), (0, a1), (0, a2), (0, a3)] [] σ).bind fun q1 => X iM_doubt 7 [(2, 305), (0, a1), (0, a2), (0, a3)] [q1.1] q1.2 :=
  xev_eq (E := xE1) (F := xFk) (P := xPg) (inl := []) (stop := [7, 21]) 7 iM_doubt 0 [(2, 305), (0, a1), (0, a2), (0, a3)] [] σ
set_option maxRecDepth 20000 in
theorem qM_doubt_7 (v1 v2 v3 t0 : Int) (σ : xS) : X iM_doubt 7 [(2, 305), (0, v1), (0, v2), (0, v3)] [(0, t0)] σ =
  if t0 = 0 then some ((0, (-1)), σ)
  else (X iM_isDoubt 0 [(2, 305), (0, v1), (0, v2), (0, v3), (9, 0), (9, 0), (9, 0), (9, 0), (9, 0), (9, 0)] [] σ).bind fun q1 => X iM_doubt 21 [(2, 305), (0, v1), (0, v2), (0, v3)] [q1.1] q1.2 :=
  xev_eq (E := xE1) (F := xFk) (P := xPg) (inl := []) (stop := [7, 21]) 8 iM_doubt 7 [(2, 305), (0, v1), (0, v2), (0, v3)] [(0, t0)] σ
set_option maxRecDepth 20000 in
theorem qM_doubt_21 (t0 : Int) (vw0 vw1 vw2 vw3 : xAV) (σ : xS) : X iM_doubt 21 [vw0, vw1, vw2, vw3] [(0, t0)] σ =
  if t0 = 0 then some ((0, 0), σ)
  else some ((0, 1), σ) :=
  xev_eq (E := xE1) (F := xFk) (P := xPg) (inl := []) (stop := [7, 21]) 6 iM_doubt 21 [vw0, vw1, vw2, vw3] [(0, t0)] σ
set_option maxRecDepth 20000 in
theorem qM_isLost_0 (a1 a2 a3 a4 : Int) (σ : xS) : X iM_isLost 0 [(2, 305), (0, a1), (0, a2), (0, a3), (0, a4)] [] σ =
  (X iM_isAsked 0 [(2, 305), (0, a1), (0, a3), (0, a4)] [] σ).bind fun q1 => X iM_isLost 8 [(2, 305), (0, a1), (0, a2), (0, a3), (0, a4)] [q1.1] q1.2 :=
  xev_eq (E := xE1) (F := xFk) (P := xPg) (inl := []) (stop := [8, 19, 34]) 7 iM_isLost 0 [(2, 305), (0, a1), (0, a2), (0, a3), (0, a4)] [] σ
set_option maxRecDepth 20000 in
theorem qM_isLost_8 (v1 v2 v3 v4 t0 : Int) (σ : xS) : X iM_isLost 8 [(2, 305), (0, v1), (0, v2), (0, v3), (0, v4)] [(0, t0)] σ =
  if t0 = 0 then some ((0, 0), σ)
  else (X iM_placeOf 0 [(2, 305), (0, v1), (0, v3), (0, v4), (9, 0)] [] σ).bind fun q1 => X iM_isLost 19 [(2, 305), (0, v1), (0, v2), (0, v3), (0, v4)] [q1.1] q1.2 :=
  xev_eq (E := xE1) (F := xFk) (P := xPg) (inl := []) (stop := [8, 19, 34]) 8 iM_isLost 8 [(2, 305), (0, v1), (0, v2), (0, v3), (0, v4)] [(0, t0)] σ
set_option maxRecDepth 20000 in
theorem qM_isLost_19 (v1 v2 v3 v4 t0 : Int) (σ : xS) : X iM_isLost 19 [(2, 305), (0, v1), (0, v2), (0, v3), (0, v4)] [(0, t0)] σ =
  if t0 = (xw (10 + v2)) then ((X iM_isDoubt 0 [(2, 305), (0, v1), (0, v3), (0, v4), (9, 0), (9, 0), (9, 0), (9, 0), (9, 0), (9, 0)] [] σ).bind fun q1 => X iM_isLost 34 [(2, 305), (0, v1), (0, v2), (0, v3), (0, v4)] [q1.1] q1.2)
  else some ((0, 0), σ) :=
  xev_eq (E := xE1) (F := xFk) (P := xPg) (inl := []) (stop := [8, 19, 34]) 11 iM_isLost 19 [(2, 305), (0, v1), (0, v2), (0, v3), (0, v4)] [(0, t0)] σ
set_option maxRecDepth 20000 in
theorem qM_isLost_34 (t0 : Int) (vw0 vw1 vw2 vw3 vw4 : xAV) (σ : xS) : X iM_isLost 34 [vw0, vw1, vw2, vw3, vw4] [(0, t0)] σ =
  if t0 = 0 then some ((0, 0), σ)
  else some ((0, 1), σ) :=
  xev_eq (E := xE1) (F := xFk) (P := xPg) (inl := []) (stop := [8, 19, 34]) 6 iM_isLost 34 [vw0, vw1, vw2, vw3, vw4] [(0, t0)] σ
set_option maxRecDepth 20000 in
theorem qM_lost_0 (a1 a2 a3 a4 : Int) (σ : xS) : X iM_lost 0 [(2, 305), (0, a1), (0, a2), (0, a3), (0, a4), (9, 0), (9, 0)] [] σ =
  if a1 < 0 then some ((0, (-1)), σ)
  else if a1 < (σ.1 305 11) then (if a2 < 0 then some ((0, (-1)), σ)
    else if a2 < (σ.1 305 6) then (if a3 < 0 then some ((0, (-1)), σ)
      else if 1000 < a3 then some ((0, (-1)), σ)
      else if a4 < 0 then some ((0, (-1)), σ)
      else if 1000 < a4 then some ((0, (-1)), σ)
      else X iM_lost 39 [(2, 305), (0, a1), (0, a2), (0, a3), (0, a4), (0, 0), (0, 0)] [] σ)
    else some ((0, (-1)), σ))
  else some ((0, (-1)), σ) :=
  xev_eq (E := xE1) (F := xFk) (P := xPg) (inl := [5, 6, 8]) (stop := [39, 69]) 54 iM_lost 0 [(2, 305), (0, a1), (0, a2), (0, a3), (0, a4), (9, 0), (9, 0)] [] σ
set_option maxRecDepth 20000 in
theorem qM_lost_39 (v1 v2 v3 v4 v5 v6 : Int) (σ : xS) : X iM_lost 39 [(2, 305), (0, v1), (0, v2), (0, v3), (0, v4), (0, v5), (0, v6)] [] σ =
  if v6 < (σ.1 305 15) then (if xin v6 150 then (if (σ.1 315 v6.toNat) = v2 then ((X iM_isLost 0 [(2, 305), (0, v6), (0, v1), (0, v3), (0, v4)] [] σ).bind fun q1 => X iM_lost 69 [(2, 305), (0, v1), (0, v2), (0, v3), (0, v4), (0, v5), (0, v6)] [q1.1] q1.2)
      else X iM_lost 39 [(2, 305), (0, v1), (0, v2), (0, v3), (0, v4), (0, v5), (0, (xw (v6 + 1)))] [] σ)
    else none)
  else some ((0, v5), σ) :=
  xev_eq (E := xE1) (F := xFk) (P := xPg) (inl := [5, 6, 8]) (stop := [39, 69]) 18 iM_lost 39 [(2, 305), (0, v1), (0, v2), (0, v3), (0, v4), (0, v5), (0, v6)] [] σ
set_option maxRecDepth 20000 in
theorem qM_lost_69 (v1 v2 v3 v4 v5 v6 t0 : Int) (σ : xS) : X iM_lost 69 [(2, 305), (0, v1), (0, v2), (0, v3), (0, v4), (0, v5), (0, v6)] [(0, t0)] σ =
  if t0 = 0 then X iM_lost 39 [(2, 305), (0, v1), (0, v2), (0, v3), (0, v4), (0, v5), (0, (xw (v6 + 1)))] [] σ
  else X iM_lost 39 [(2, 305), (0, v1), (0, v2), (0, v3), (0, v4), (0, (xw (v5 + 1))), (0, (xw (v6 + 1)))] [] σ :=
  xev_eq (E := xE1) (F := xFk) (P := xPg) (inl := [5, 6, 8]) (stop := [39, 69]) 6 iM_lost 69 [(2, 305), (0, v1), (0, v2), (0, v3), (0, v4), (0, v5), (0, v6)] [(0, t0)] σ
set_option maxRecDepth 20000 in
theorem qM_counted_0 (a1 a2 a3 a4 : Int) (σ : xS) : X iM_counted 0 [(2, 305), (0, a1), (0, a2), (0, a3), (0, a4)] [] σ =
  if a1 < 0 then some ((0, (-1)), σ)
  else if a1 < (σ.1 305 11) then (if a2 < 0 then some ((0, (-1)), σ)
    else if a2 < (σ.1 305 6) then (if a3 < 0 then some ((0, (-1)), σ)
      else if (σ.1 305 0) < a3 then some ((0, (-1)), σ)
      else if a4 < 0 then some ((0, (-1)), σ)
      else if 1000 < a4 then some ((0, (-1)), σ)
      else if (σ.1 305 42) = 60 then some ((0, (-1)), σ)
      else if xin (σ.1 305 42) 60 then (if xin (σ.1 305 42) 60 then (if xin (σ.1 305 42) 60 then (if xin (σ.1 305 42) 60 then (if xin (σ.1 305 42) 60 then some ((0, (xw ((σ.1 305 42) + 1))), (xs (xs (xs (xs (xs (xs σ 333 (σ.1 305 42).toNat a1) 334 (σ.1 305 42).toNat a2) 335 (σ.1 305 42).toNat a3) 336 (σ.1 305 42).toNat a4) 337 (σ.1 305 42).toNat (σ.1 305 0)) 305 42 (xw ((σ.1 305 42) + 1))))
              else none)
            else none)
          else none)
        else none)
      else none)
    else some ((0, (-1)), σ))
  else some ((0, (-1)), σ) :=
  xev_eq (E := xE1) (F := xFk) (P := xPg) (inl := [1, 5, 6]) (stop := []) 92 iM_counted 0 [(2, 305), (0, a1), (0, a2), (0, a3), (0, a4)] [] σ
set_option maxRecDepth 20000 in
theorem qM_shortOf_0 (a1 a2 a3 a4 : Int) (σ : xS) : X iM_shortOf 0 [(2, 305), (0, a1), (0, a2), (0, a3), (0, a4), (9, 0), (9, 0)] [] σ =
  if a1 < 0 then some ((0, (-1)), σ)
  else if a1 < (σ.1 305 11) then (if a2 < 0 then some ((0, (-1)), σ)
    else if a2 < (σ.1 305 6) then (if a3 < 0 then some ((0, (-1)), σ)
      else if 1000 < a3 then some ((0, (-1)), σ)
      else if a4 < 0 then some ((0, (-1)), σ)
      else if 1000 < a4 then some ((0, (-1)), σ)
      else X iM_shortOf 39 [(2, 305), (0, a1), (0, a2), (0, a3), (0, a4), (0, 0), (0, 0)] [] σ)
    else some ((0, (-1)), σ))
  else some ((0, (-1)), σ) :=
  xev_eq (E := xE1) (F := xFk) (P := xPg) (inl := [5, 6, 8]) (stop := [39, 116, 127]) 54 iM_shortOf 0 [(2, 305), (0, a1), (0, a2), (0, a3), (0, a4), (9, 0), (9, 0)] [] σ
set_option maxRecDepth 20000 in
theorem qM_shortOf_39 (v1 v2 v3 v4 v5 v6 : Int) (σ : xS) : X iM_shortOf 39 [(2, 305), (0, v1), (0, v2), (0, v3), (0, v4), (0, v5), (0, v6)] [] σ =
  if v6 < (σ.1 305 42) then (if xin v6 60 then (if (σ.1 333 v6.toNat) = v1 then (if xin v6 60 then (if (σ.1 334 v6.toNat) = v2 then (if xin v6 60 then (if v4 < (σ.1 337 v6.toNat) then X iM_shortOf 39 [(2, 305), (0, v1), (0, v2), (0, v3), (0, v4), (0, v5), (0, (xw (v6 + 1)))] [] σ
              else if xin v6 60 then (if v3 < (σ.1 335 v6.toNat) then X iM_shortOf 39 [(2, 305), (0, v1), (0, v2), (0, v3), (0, v4), (0, v5), (0, (xw (v6 + 1)))] [] σ
                else if xin v6 60 then ((X iM_manyAt 0 [(2, 305), (0, (xw (10 + v1))), (0, v2), (0, (σ.1 335 v6.toNat)), (0, v4), (9, 0), (9, 0)] [] σ).bind fun q1 => X iM_shortOf 116 [(2, 305), (0, v1), (0, v2), (0, v3), (0, v4), (0, v5), (0, v6)] [q1.1, (0, v5)] q1.2)
                else none)
              else none)
            else none)
          else X iM_shortOf 39 [(2, 305), (0, v1), (0, v2), (0, v3), (0, v4), (0, v5), (0, (xw (v6 + 1)))] [] σ)
        else none)
      else X iM_shortOf 39 [(2, 305), (0, v1), (0, v2), (0, v3), (0, v4), (0, v5), (0, (xw (v6 + 1)))] [] σ)
    else none)
  else some ((0, v5), σ) :=
  xev_eq (E := xE1) (F := xFk) (P := xPg) (inl := [5, 6, 8]) (stop := [39, 116, 127]) 42 iM_shortOf 39 [(2, 305), (0, v1), (0, v2), (0, v3), (0, v4), (0, v5), (0, v6)] [] σ
set_option maxRecDepth 20000 in
theorem qM_shortOf_116 (v1 v2 v3 v4 v6 t0 t1 : Int) (vw5 : xAV) (σ : xS) : X iM_shortOf 116 [(2, 305), (0, v1), (0, v2), (0, v3), (0, v4), vw5, (0, v6)] [(0, t0), (0, t1)] σ =
  if xin v6 60 then ((X iM_max 0 [(0, t1), (0, (xw (t0 - (σ.1 336 v6.toNat))))] [] σ).bind fun q1 => X iM_shortOf 127 [(2, 305), (0, v1), (0, v2), (0, v3), (0, v4), vw5, (0, v6)] [q1.1] q1.2)
  else none :=
  xev_eq (E := xE1) (F := xFk) (P := xPg) (inl := [5, 6, 8]) (stop := [39, 116, 127]) 8 iM_shortOf 116 [(2, 305), (0, v1), (0, v2), (0, v3), (0, v4), vw5, (0, v6)] [(0, t0), (0, t1)] σ
set_option maxRecDepth 20000 in
theorem qM_shortOf_127 (v1 v2 v3 v4 v6 t0 : Int) (vw5 : xAV) (σ : xS) : X iM_shortOf 127 [(2, 305), (0, v1), (0, v2), (0, v3), (0, v4), vw5, (0, v6)] [(0, t0)] σ =
  X iM_shortOf 39 [(2, 305), (0, v1), (0, v2), (0, v3), (0, v4), (0, t0), (0, (xw (v6 + 1)))] [] σ :=
  xev_eq (E := xE1) (F := xFk) (P := xPg) (inl := [5, 6, 8]) (stop := [39, 116, 127]) 5 iM_shortOf 127 [(2, 305), (0, v1), (0, v2), (0, v3), (0, v4), vw5, (0, v6)] [(0, t0)] σ
set_option maxRecDepth 20000 in
theorem qM_fault_0 (σ : xS) : X iM_fault 0 [(2, 305)] [] σ =
  some ((0, (σ.1 305 67)), σ) :=
  xev_eq (E := xE1) (F := xFk) (P := xPg) (inl := []) (stop := []) 5 iM_fault 0 [(2, 305)] [] σ
set_option maxRecDepth 20000 in
theorem qM_want_0 (a1 a2 a3 a4 : Int) (σ : xS) : X iM_want 0 [(2, 305), (0, a1), (0, a2), (0, a3), (0, a4)] [] σ =
  if a1 < 0 then some ((0, 0), σ)
  else if a1 < (σ.1 305 11) then (if a2 < 0 then some ((0, 0), σ)
    else if a2 < (σ.1 305 6) then (if a3 < 0 then some ((0, 0), σ)
      else if 6 < a3 then some ((0, 0), σ)
      else if a4 < 0 then some ((0, 0), σ)
      else if 50 < a4 then some ((0, 0), σ)
      else if xin (xw ((xw ((xw (42 * a1)) + (xw (7 * a2)))) + a3)) 336 then some ((0, 1), (xs σ 369 (xw ((xw ((xw (42 * a1)) + (xw (7 * a2)))) + a3)).toNat a4))
      else none)
    else some ((0, 0), σ))
  else some ((0, 0), σ) :=
  xev_eq (E := xE1) (F := xFk) (P := xPg) (inl := [1, 5, 6]) (stop := []) 71 iM_want 0 [(2, 305), (0, a1), (0, a2), (0, a3), (0, a4)] [] σ
set_option maxRecDepth 20000 in
theorem qM_washer_0 (a1 a2 a3 : Int) (σ : xS) : X iM_washer 0 [(2, 305), (0, a1), (0, a2), (0, a3)] [] σ =
  if a1 < 1 then some ((0, (-1)), σ)
  else if 5000 < a1 then some ((0, (-1)), σ)
  else if a2 < 1 then some ((0, (-1)), σ)
  else if 200 < a2 then some ((0, (-1)), σ)
  else if a3 < 0 then some ((0, (-1)), σ)
  else if 100 < a3 then some ((0, (-1)), σ)
  else if (σ.1 305 102) = 3 then some ((0, (-1)), σ)
  else if xin (σ.1 305 102) 3 then (if xin (σ.1 305 102) 3 then (if xin (σ.1 305 102) 3 then some ((0, (xw ((xw ((σ.1 305 102) + 1)) - 1))), (xs (xs (xs (xs σ 375 (σ.1 305 102).toNat a1) 376 (σ.1 305 102).toNat a2) 377 (σ.1 305 102).toNat a3) 305 102 (xw ((σ.1 305 102) + 1))))
      else none)
    else none)
  else none :=
  xev_eq (E := xE1) (F := xFk) (P := xPg) (inl := [1]) (stop := []) 77 iM_washer 0 [(2, 305), (0, a1), (0, a2), (0, a3)] [] σ
set_option maxRecDepth 20000 in
theorem qM_dryers_0 (a1 : Int) (σ : xS) : X iM_dryers 0 [(2, 305), (0, a1)] [] σ =
  if a1 < 1 then some ((0, 0), σ)
  else if 3 < a1 then some ((0, 0), σ)
  else some ((0, 1), (xs σ 305 103 a1)) :=
  xev_eq (E := xE1) (F := xFk) (P := xPg) (inl := [1]) (stop := []) 21 iM_dryers 0 [(2, 305), (0, a1)] [] σ
set_option maxRecDepth 20000 in
theorem qM_job_0 (a1 a2 a3 : Int) (σ : xS) : X iM_job 0 [(2, 305), (0, a1), (0, a2), (0, a3)] [] σ =
  if a1 < 0 then some ((0, (-1)), σ)
  else if a1 < (σ.1 305 6) then (if a2 < 1 then some ((0, (-1)), σ)
    else if 200 < a2 then some ((0, (-1)), σ)
    else if a3 < 0 then some ((0, (-1)), σ)
    else if 1440 < a3 then some ((0, (-1)), σ)
    else if (σ.1 305 107) = 7 then some ((0, (-1)), σ)
    else if xin (σ.1 305 107) 7 then (if xin (σ.1 305 107) 7 then (if xin (σ.1 305 107) 7 then some ((0, (xw ((xw ((σ.1 305 107) + 1)) - 1))), (xs (xs (xs (xs σ 378 (σ.1 305 107).toNat a1) 379 (σ.1 305 107).toNat a2) 380 (σ.1 305 107).toNat a3) 305 107 (xw ((σ.1 305 107) + 1))))
        else none)
      else none)
    else none)
  else some ((0, (-1)), σ) :=
  xev_eq (E := xE1) (F := xFk) (P := xPg) (inl := [1, 5]) (stop := []) 76 iM_job 0 [(2, 305), (0, a1), (0, a2), (0, a3)] [] σ
set_option maxRecDepth 20000 in
theorem qM_clear_0 (σ : xS) : X iM_clear 0 [(2, 305), (9, 0)] [] σ =
  some ((0, (σ.1 305 107)), (xs σ 305 107 0)) :=
  xev_eq (E := xE1) (F := xFk) (P := xPg) (inl := []) (stop := []) 10 iM_clear 0 [(2, 305), (9, 0)] [] σ
set_option maxRecDepth 20000 in
theorem qM_supply_0 (a1 a2 a3 a4 : Int) (σ : xS) : X iM_supply 0 [(2, 305), (0, a1), (0, a2), (0, a3), (0, a4)] [] σ =
  if a1 < 1 then some ((0, 0), σ)
  else if 20 < a1 then some ((0, 0), σ)
  else if a2 < 0 then some ((0, 0), σ)
  else if 1000 < a2 then some ((0, 0), σ)
  else if a3 < 0 then some ((0, 0), σ)
  else if 100 < a3 then some ((0, 0), σ)
  else if a4 < 1 then some ((0, 0), σ)
  else if 10 < a4 then some ((0, 0), σ)
  else some ((0, 1), (xs (xs (xs (xs σ 305 121 a1) 305 122 a2) 305 123 a3) 305 124 a4)) :=
  xev_eq (E := xE1) (F := xFk) (P := xPg) (inl := [1]) (stop := []) 72 iM_supply 0 [(2, 305), (0, a1), (0, a2), (0, a3), (0, a4)] [] σ
set_option maxRecDepth 20000 in
theorem qM_told_0 (a1 a2 : Int) (σ : xS) : X iM_told 0 [(2, 305), (0, a1), (0, a2), (9, 0), (9, 0)] [] σ =
  if a2 < 0 then X iM_told 88 [(2, 305), (0, a1), (0, a2), (9, 0), (9, 0)] [] σ
  else if 3 < a2 then X iM_told 88 [(2, 305), (0, a1), (0, a2), (9, 0), (9, 0)] [] σ
  else if a1 < 0 then X iM_told 14 [(2, 305), (0, a1), (0, a2), (9, 0), (9, 0)] [(0, 0)] σ
  else if a1 < (σ.1 305 15) then X iM_told 14 [(2, 305), (0, a1), (0, a2), (9, 0), (9, 0)] [(0, 1)] σ
  else X iM_told 14 [(2, 305), (0, a1), (0, a2), (9, 0), (9, 0)] [(0, 0)] σ :=
  xev_eq (E := xE1) (F := xFk) (P := xPg) (inl := [7]) (stop := [14, 57, 88]) 19 iM_told 0 [(2, 305), (0, a1), (0, a2), (9, 0), (9, 0)] [] σ
set_option maxRecDepth 20000 in
theorem qM_told_14 (v1 v2 t0 : Int) (vw3 vw4 : xAV) (σ : xS) : X iM_told 14 [(2, 305), (0, v1), (0, v2), vw3, vw4] [(0, t0)] σ =
  if t0 = 0 then X iM_told 88 [(2, 305), (0, v1), (0, v2), vw3, vw4] [] σ
  else if v2 = 0 then (if xin v1 150 then some ((0, (σ.1 315 v1.toNat)), σ)
    else none)
  else if v2 = 1 then (if xin v1 150 then some ((0, (σ.1 316 v1.toNat)), σ)
    else none)
  else if v2 = 2 then (if xin v1 150 then some ((0, (σ.1 317 v1.toNat)), σ)
    else none)
  else X iM_told 57 [(2, 305), (0, v1), (0, v2), (0, 0), (0, 0)] [] σ :=
  xev_eq (E := xE1) (F := xFk) (P := xPg) (inl := [7]) (stop := [14, 57, 88]) 16 iM_told 14 [(2, 305), (0, v1), (0, v2), vw3, vw4] [(0, t0)] σ
set_option maxRecDepth 20000 in
theorem qM_told_57 (v1 v3 v4 : Int) (vw2 : xAV) (σ : xS) : X iM_told 57 [(2, 305), (0, v1), vw2, (0, v3), (0, v4)] [] σ =
  if v4 < (σ.1 305 22) then (if xin v4 600 then (if (σ.1 318 v4.toNat) = v1 then X iM_told 57 [(2, 305), (0, v1), vw2, (0, (xw (v3 + 1))), (0, (xw (v4 + 1)))] [] σ
      else X iM_told 57 [(2, 305), (0, v1), vw2, (0, v3), (0, (xw (v4 + 1)))] [] σ)
    else none)
  else some ((0, v3), σ) :=
  xev_eq (E := xE1) (F := xFk) (P := xPg) (inl := [7]) (stop := [14, 57, 88]) 15 iM_told 57 [(2, 305), (0, v1), vw2, (0, v3), (0, v4)] [] σ
set_option maxRecDepth 20000 in
theorem qM_told_88 (v1 v2 : Int) (vw3 vw4 : xAV) (σ : xS) : X iM_told 88 [(2, 305), (0, v1), (0, v2), vw3, vw4] [] σ =
  if v2 < 10 then some ((0, (-1)), σ)
  else if 14 < v2 then some ((0, (-1)), σ)
  else if v1 < 0 then some ((0, (-1)), σ)
  else if v1 < (σ.1 305 22) then (if v2 = 10 then (if xin v1 600 then some ((0, (σ.1 318 v1.toNat)), σ)
      else none)
    else if v2 = 11 then (if xin v1 600 then some ((0, (σ.1 319 v1.toNat)), σ)
      else none)
    else if v2 = 12 then (if xin v1 600 then some ((0, (σ.1 320 v1.toNat)), σ)
      else none)
    else if v2 = 13 then (if xin v1 600 then some ((0, (σ.1 321 v1.toNat)), σ)
      else none)
    else if xin v1 600 then some ((0, (σ.1 322 v1.toNat)), σ)
    else none)
  else some ((0, (-1)), σ) :=
  xev_eq (E := xE1) (F := xFk) (P := xPg) (inl := [7]) (stop := [14, 57, 88]) 32 iM_told 88 [(2, 305), (0, v1), (0, v2), vw3, vw4] [] σ
set_option maxRecDepth 20000 in
theorem qM_count_0 (a1 : Int) (σ : xS) : X iM_count 0 [(2, 305), (0, a1)] [] σ =
  if a1 = 0 then some ((0, (σ.1 305 0)), σ)
  else if a1 = 1 then some ((0, (σ.1 305 6)), σ)
  else if a1 = 2 then some ((0, (σ.1 305 11)), σ)
  else if a1 = 3 then some ((0, (σ.1 305 15)), σ)
  else if a1 = 4 then some ((0, (σ.1 305 22)), σ)
  else if a1 = 5 then some ((0, (σ.1 305 36)), σ)
  else if a1 = 6 then some ((0, (σ.1 305 49)), σ)
  else if a1 = 7 then some ((0, (σ.1 305 102)), σ)
  else if a1 = 8 then some ((0, (σ.1 305 107)), σ)
  else if a1 = 9 then some ((0, (σ.1 305 66)), σ)
  else if a1 = 10 then some ((0, (σ.1 305 30)), σ)
  else if a1 = 11 then some ((0, (σ.1 305 42)), σ)
  else if a1 = 12 then some ((0, (σ.1 305 23)), σ)
  else some ((0, (-1)), σ) :=
  xev_eq (E := xE1) (F := xFk) (P := xPg) (inl := []) (stop := []) 7 iM_count 0 [(2, 305), (0, a1)] [] σ
set_option maxRecDepth 20000 in
theorem qC_sort_0 (a1 a2 a3 a4 a5 : Int) (σ : xS) : X iC_sort 0 [(2, 200), (0, a1), (0, a2), (0, a3), (0, a4), (0, a5), (9, 0)] [] σ =
  if a1 < 1 then some ((0, (-1)), σ)
  else if 60 < a1 then some ((0, (-1)), σ)
  else if a2 < 0 then some ((0, (-1)), σ)
  else if 3 < a2 then some ((0, (-1)), σ)
  else if a3 < 1 then some ((0, (-1)), σ)
  else if 90 < a3 then some ((0, (-1)), σ)
  else if a4 < 1 then some ((0, (-1)), σ)
  else if 250 < a4 then some ((0, (-1)), σ)
  else if a5 < 1 then some ((0, (-1)), σ)
  else if 1000 < a5 then some ((0, (-1)), σ)
  else if (σ.1 201 5) < 6 then ((X iSorts_add 0 [(2, 201), (0, a1), (0, a2), (0, a3), (0, a4), (0, a5)] [] σ).bind fun q1 => X iC_sort 91 [(2, 200), (0, a1), (0, a2), (0, a3), (0, a4), (0, a5), (0, 1)] [q1.1] q1.2)
  else some ((0, (-1)), σ) :=
  xev_eq (E := xE1) (F := xFk) (P := xPg) (inl := [172]) (stop := [91]) 90 iC_sort 0 [(2, 200), (0, a1), (0, a2), (0, a3), (0, a4), (0, a5), (9, 0)] [] σ
set_option maxRecDepth 20000 in
theorem qC_sort_91 (t0 : Int) (vw0 vw1 vw2 vw3 vw4 vw5 vw6 : xAV) (σ : xS) : X iC_sort 91 [vw0, vw1, vw2, vw3, vw4, vw5, vw6] [(0, t0)] σ =
  some ((0, t0), σ) :=
  xev_eq (E := xE1) (F := xFk) (P := xPg) (inl := [172]) (stop := [91]) 4 iC_sort 91 [vw0, vw1, vw2, vw3, vw4, vw5, vw6] [(0, t0)] σ
set_option maxRecDepth 20000 in
theorem qC_house_0 (a1 a2 a3 a4 : Int) (σ : xS) : X iC_house 0 [(2, 200), (0, a1), (0, a2), (0, a3), (0, a4), (9, 0)] [] σ =
  if a1 < 0 then some ((0, (-1)), σ)
  else if 3 < a1 then some ((0, (-1)), σ)
  else if a2 < 0 then some ((0, (-1)), σ)
  else if 99 < a2 then some ((0, (-1)), σ)
  else if a3 < 0 then some ((0, (-1)), σ)
  else if 99 < a3 then some ((0, (-1)), σ)
  else if a4 < 0 then some ((0, (-1)), σ)
  else if 1440 < a4 then some ((0, (-1)), σ)
  else if (σ.1 209 4) < 8 then ((X iHouses_add 0 [(2, 209), (0, a1), (0, a2), (0, a3), (0, a4)] [] σ).bind fun q1 => X iC_house 77 [(2, 200), (0, a1), (0, a2), (0, a3), (0, a4), (0, 1)] [q1.1] q1.2)
  else some ((0, (-1)), σ) :=
  xev_eq (E := xE1) (F := xFk) (P := xPg) (inl := [172]) (stop := [77]) 75 iC_house 0 [(2, 200), (0, a1), (0, a2), (0, a3), (0, a4), (9, 0)] [] σ
set_option maxRecDepth 20000 in
theorem qC_house_77 (t0 : Int) (vw0 vw1 vw2 vw3 vw4 vw5 : xAV) (σ : xS) : X iC_house 77 [vw0, vw1, vw2, vw3, vw4, vw5] [(0, t0)] σ =
  some ((0, t0), σ) :=
  xev_eq (E := xE1) (F := xFk) (P := xPg) (inl := [172]) (stop := [77]) 4 iC_house 77 [vw0, vw1, vw2, vw3, vw4, vw5] [(0, t0)] σ
set_option maxRecDepth 20000 in
theorem qC_heat_0 (a1 a2 a3 : Int) (σ : xS) : X iC_heat 0 [(2, 200), (0, a1), (0, a2), (0, a3), (9, 0)] [] σ =
  if a1 < 0 then some ((0, (-1)), σ)
  else if (σ.1 216 0) < a1 then some ((0, (-1)), σ)
  else if a2 < 0 then some ((0, (-1)), σ)
  else if 120 < a2 then some ((0, (-1)), σ)
  else if a3 < 0 then some ((0, (-1)), σ)
  else if 200 < a3 then some ((0, (-1)), σ)
  else if (σ.1 229 17) < 60 then ((X iEvidence_addHeat 0 [(2, 229), (0, a1), (0, a2), (0, a3)] [] σ).bind fun q1 => X iC_heat 70 [(2, 200), (0, a1), (0, a2), (0, a3), (0, 1)] [q1.1] q1.2)
  else some ((0, (-1)), σ) :=
  xev_eq (E := xE1) (F := xFk) (P := xPg) (inl := [172]) (stop := [70]) 62 iC_heat 0 [(2, 200), (0, a1), (0, a2), (0, a3), (9, 0)] [] σ
set_option maxRecDepth 20000 in
theorem qC_heat_70 (t0 : Int) (vw0 vw1 vw2 vw3 vw4 : xAV) (σ : xS) : X iC_heat 70 [vw0, vw1, vw2, vw3, vw4] [(0, t0)] σ =
  some ((0, t0), σ) :=
  xev_eq (E := xE1) (F := xFk) (P := xPg) (inl := [172]) (stop := [70]) 4 iC_heat 70 [vw0, vw1, vw2, vw3, vw4] [(0, t0)] σ
set_option maxRecDepth 20000 in
theorem qC_lot_0 (a1 a2 : Int) (σ : xS) : X iC_lot 0 [(2, 200), (0, a1), (0, a2)] [] σ =
  if a1 < 0 then some ((0, 0), σ)
  else if 3 < a1 then some ((0, 0), σ)
  else if a2 < 0 then some ((0, 0), σ)
  else if 15 < a2 then some ((0, 0), σ)
  else if xin a1 4 then some ((0, 1), (xs σ 230 a1.toNat a2))
  else none :=
  xev_eq (E := xE1) (F := xFk) (P := xPg) (inl := [172]) (stop := []) 38 iC_lot 0 [(2, 200), (0, a1), (0, a2)] [] σ
set_option maxRecDepth 20000 in
theorem qC_beyond_0 (a1 : Int) (σ : xS) : X iC_beyond 0 [(2, 200), (0, a1)] [] σ =
  if a1 < 2 then some ((0, 0), σ)
  else if 10000 < a1 then some ((0, 0), σ)
  else some ((0, 1), (xs σ 229 2 a1)) :=
  xev_eq (E := xE1) (F := xFk) (P := xPg) (inl := [172]) (stop := []) 22 iC_beyond 0 [(2, 200), (0, a1)] [] σ
set_option maxRecDepth 20000 in
theorem qC_bag_0 (a1 a2 : Int) (σ : xS) : X iC_bag 0 [(2, 200), (0, a1), (0, a2), (9, 0)] [] σ =
  if a1 < 0 then some ((0, (-1)), σ)
  else if (xw ((σ.1 209 4) - 1)) < a1 then some ((0, (-1)), σ)
  else if a2 < 0 then some ((0, (-1)), σ)
  else if (σ.1 216 0) < a2 then some ((0, (-1)), σ)
  else if (σ.1 229 6) < 60 then ((X iEvidence_addBag 0 [(2, 229), (0, a1), (0, a2)] [] σ).bind fun q1 => X iC_bag 57 [(2, 200), (0, a1), (0, a2), (0, 1)] [q1.1] q1.2)
  else some ((0, (-1)), σ) :=
  xev_eq (E := xE1) (F := xFk) (P := xPg) (inl := [172, 211]) (stop := [57]) 55 iC_bag 0 [(2, 200), (0, a1), (0, a2), (9, 0)] [] σ
set_option maxRecDepth 20000 in
theorem qC_bag_57 (t0 : Int) (vw0 vw1 vw2 vw3 : xAV) (σ : xS) : X iC_bag 57 [vw0, vw1, vw2, vw3] [(0, t0)] σ =
  some ((0, t0), σ) :=
  xev_eq (E := xE1) (F := xFk) (P := xPg) (inl := [172, 211]) (stop := [57]) 4 iC_bag 57 [vw0, vw1, vw2, vw3] [(0, t0)] σ
set_option maxRecDepth 20000 in
theorem qC_read_0 (a1 a2 : Int) (σ : xS) : X iC_read 0 [(2, 200), (0, a1), (0, a2), (9, 0)] [] σ =
  if a1 < 0 then some ((0, (-1)), σ)
  else if (xw ((σ.1 229 6) - 1)) < a1 then some ((0, (-1)), σ)
  else if a2 < 0 then some ((0, (-1)), σ)
  else if (xw ((σ.1 216 6) - 1)) < a2 then some ((0, (-1)), σ)
  else (X iBook_isRead 0 [(2, 216), (0, a2), (0, a1), (9, 0), (9, 0)] [] σ).bind fun q1 => X iC_read 39 [(2, 200), (0, a1), (0, a2), (9, 0)] [q1.1] q1.2 :=
  xev_eq (E := xE1) (F := xFk) (P := xPg) (inl := [172, 180, 181]) (stop := [39, 97]) 47 iC_read 0 [(2, 200), (0, a1), (0, a2), (9, 0)] [] σ
set_option maxRecDepth 20000 in
theorem qC_read_39 (v1 v2 t0 : Int) (vw3 : xAV) (σ : xS) : X iC_read 39 [(2, 200), (0, v1), (0, v2), vw3] [(0, t0)] σ =
  if t0 = 0 then (if xin v1 60 then (if xin v2 150 then (if (σ.1 232 v1.toNat) < (σ.1 219 v2.toNat) then some ((0, (-3)), σ)
        else if (σ.1 216 14) < 600 then ((X iBook_addMove 0 [(2, 216), (0, v2), (0, (σ.1 232 v1.toNat)), (0, 1), (0, v1), (9, 0)] [] σ).bind fun q1 => X iC_read 97 [(2, 200), (0, v1), (0, v2), (0, (σ.1 232 v1.toNat))] [q1.1] q1.2)
        else X iC_read 97 [(2, 200), (0, v1), (0, v2), (0, (σ.1 232 v1.toNat))] [(0, (-4))] σ)
      else none)
    else none)
  else some ((0, (-2)), σ) :=
  xev_eq (E := xE1) (F := xFk) (P := xPg) (inl := [172, 180, 181]) (stop := [39, 97]) 33 iC_read 39 [(2, 200), (0, v1), (0, v2), vw3] [(0, t0)] σ
set_option maxRecDepth 20000 in
theorem qC_read_97 (t0 : Int) (vw0 vw1 vw2 vw3 : xAV) (σ : xS) : X iC_read 97 [vw0, vw1, vw2, vw3] [(0, t0)] σ =
  some ((0, t0), σ) :=
  xev_eq (E := xE1) (F := xFk) (P := xPg) (inl := [172, 180, 181]) (stop := [39, 97]) 3 iC_read 97 [vw0, vw1, vw2, vw3] [(0, t0)] σ
set_option maxRecDepth 20000 in
theorem qC_misses_0 (a1 a2 a3 : Int) (σ : xS) : X iC_misses 0 [(2, 200), (0, a1), (0, a2), (0, a3)] [] σ =
  (X iC_isAsked 0 [(2, 200), (0, a1), (0, a2), (0, a3)] [] σ).bind fun q1 => X iC_misses 7 [(2, 200), (0, a1), (0, a2), (0, a3)] [q1.1] q1.2 :=
  xev_eq (E := xE1) (F := xFk) (P := xPg) (inl := []) (stop := [7, 20]) 7 iC_misses 0 [(2, 200), (0, a1), (0, a2), (0, a3)] [] σ
set_option maxRecDepth 20000 in
theorem qC_misses_7 (v1 v2 v3 t0 : Int) (σ : xS) : X iC_misses 7 [(2, 200), (0, v1), (0, v2), (0, v3)] [(0, t0)] σ =
  if t0 = 0 then some ((0, (-1)), σ)
  else (X iEvidence_missesOf 0 [(2, 229), (0, v1), (0, v2), (0, v3), (9, 0), (9, 0), (9, 0), (9, 0)] [] σ).bind fun q1 => X iC_misses 20 [(2, 200), (0, v1), (0, v2), (0, v3)] [q1.1] q1.2 :=
  xev_eq (E := xE1) (F := xFk) (P := xPg) (inl := []) (stop := [7, 20]) 9 iC_misses 7 [(2, 200), (0, v1), (0, v2), (0, v3)] [(0, t0)] σ
set_option maxRecDepth 20000 in
theorem qC_misses_20 (t0 : Int) (vw0 vw1 vw2 vw3 : xAV) (σ : xS) : X iC_misses 20 [vw0, vw1, vw2, vw3] [(0, t0)] σ =
  some ((0, t0), σ) :=
  xev_eq (E := xE1) (F := xFk) (P := xPg) (inl := []) (stop := [7, 20]) 4 iC_misses 20 [vw0, vw1, vw2, vw3] [(0, t0)] σ
set_option maxRecDepth 20000 in
theorem qC_doubt_0 (a1 a2 a3 : Int) (σ : xS) : X iC_doubt 0 [(2, 200), (0, a1), (0, a2), (0, a3)] [] σ =
  (X iC_isAsked 0 [(2, 200), (0, a1), (0, a2), (0, a3)] [] σ).bind fun q1 => X iC_doubt 7 [(2, 200), (0, a1), (0, a2), (0, a3)] [q1.1] q1.2 :=
  xev_eq (E := xE1) (F := xFk) (P := xPg) (inl := [173]) (stop := [7, 20]) 7 iC_doubt 0 [(2, 200), (0, a1), (0, a2), (0, a3)] [] σ
set_option maxRecDepth 20000 in
theorem qC_doubt_7 (v1 v2 v3 t0 : Int) (σ : xS) : X iC_doubt 7 [(2, 200), (0, v1), (0, v2), (0, v3)] [(0, t0)] σ =
  if t0 = 0 then some ((0, (-1)), σ)
  else (X iEvidence_isDoubted 0 [(2, 229), (0, v1), (0, v2), (0, v3), (9, 0), (9, 0), (9, 0), (9, 0), (9, 0), (9, 0)] [] σ).bind fun q1 => X iC_doubt 20 [(2, 200), (0, v1), (0, v2), (0, v3)] [q1.1] q1.2 :=
  xev_eq (E := xE1) (F := xFk) (P := xPg) (inl := [173]) (stop := [7, 20]) 9 iC_doubt 7 [(2, 200), (0, v1), (0, v2), (0, v3)] [(0, t0)] σ
set_option maxRecDepth 20000 in
theorem qC_doubt_20 (t0 : Int) (vw0 vw1 vw2 vw3 : xAV) (σ : xS) : X iC_doubt 20 [vw0, vw1, vw2, vw3] [(0, t0)] σ =
  if t0 = 0 then some ((0, 0), σ)
  else some ((0, 1), σ) :=
  xev_eq (E := xE1) (F := xFk) (P := xPg) (inl := [173]) (stop := [7, 20]) 10 iC_doubt 20 [vw0, vw1, vw2, vw3] [(0, t0)] σ
set_option maxRecDepth 20000 in
theorem qC_lost_0 (a1 a2 a3 a4 : Int) (σ : xS) : X iC_lost 0 [(2, 200), (0, a1), (0, a2), (0, a3), (0, a4), (9, 0)] [] σ =
  if a1 < 0 then some ((0, (-1)), σ)
  else if (xw ((σ.1 209 4) - 1)) < a1 then some ((0, (-1)), σ)
  else if a2 < 0 then some ((0, (-1)), σ)
  else if (xw ((σ.1 201 5) - 1)) < a2 then some ((0, (-1)), σ)
  else if a3 < 0 then some ((0, (-1)), σ)
  else if 1000 < a3 then some ((0, (-1)), σ)
  else if a4 < 0 then some ((0, (-1)), σ)
  else if 1000 < a4 then some ((0, (-1)), σ)
  else (X iEvidence_lostAt 0 [(2, 229), (0, a1), (0, a2), (0, a3), (0, a4), (9, 0), (9, 0)] [] σ).bind fun q1 => X iC_lost 55 [(2, 200), (0, a1), (0, a2), (0, a3), (0, a4), (0, 1)] [q1.1] q1.2 :=
  xev_eq (E := xE1) (F := xFk) (P := xPg) (inl := [172, 174, 175, 211, 307]) (stop := [55]) 99 iC_lost 0 [(2, 200), (0, a1), (0, a2), (0, a3), (0, a4), (9, 0)] [] σ
set_option maxRecDepth 20000 in
theorem qC_lost_55 (t0 : Int) (vw0 vw1 vw2 vw3 vw4 vw5 : xAV) (σ : xS) : X iC_lost 55 [vw0, vw1, vw2, vw3, vw4, vw5] [(0, t0)] σ =
  some ((0, t0), σ) :=
  xev_eq (E := xE1) (F := xFk) (P := xPg) (inl := [172, 174, 175, 211, 307]) (stop := [55]) 4 iC_lost 55 [vw0, vw1, vw2, vw3, vw4, vw5] [(0, t0)] σ
set_option maxRecDepth 20000 in
theorem qC_counted_0 (a1 a2 a3 a4 : Int) (σ : xS) : X iC_counted 0 [(2, 200), (0, a1), (0, a2), (0, a3), (0, a4), (9, 0)] [] σ =
  if a1 < 0 then some ((0, (-1)), σ)
  else if (xw ((σ.1 209 4) - 1)) < a1 then some ((0, (-1)), σ)
  else if a2 < 0 then some ((0, (-1)), σ)
  else if (xw ((σ.1 201 5) - 1)) < a2 then some ((0, (-1)), σ)
  else if a3 < 0 then some ((0, (-1)), σ)
  else if (σ.1 216 0) < a3 then some ((0, (-1)), σ)
  else if a4 < 0 then some ((0, (-1)), σ)
  else if 1000 < a4 then some ((0, (-1)), σ)
  else if (σ.1 229 12) < 60 then ((X iEvidence_addCount 0 [(2, 229), (0, a1), (0, a2), (0, a3), (0, a4)] [] σ).bind fun q1 => X iC_counted 85 [(2, 200), (0, a1), (0, a2), (0, a3), (0, a4), (0, 1)] [q1.1] q1.2)
  else some ((0, (-1)), σ) :=
  xev_eq (E := xE1) (F := xFk) (P := xPg) (inl := [172, 211, 307]) (stop := [85]) 93 iC_counted 0 [(2, 200), (0, a1), (0, a2), (0, a3), (0, a4), (9, 0)] [] σ
set_option maxRecDepth 20000 in
theorem qC_counted_85 (t0 : Int) (vw0 vw1 vw2 vw3 vw4 vw5 : xAV) (σ : xS) : X iC_counted 85 [vw0, vw1, vw2, vw3, vw4, vw5] [(0, t0)] σ =
  some ((0, t0), σ) :=
  xev_eq (E := xE1) (F := xFk) (P := xPg) (inl := [172, 211, 307]) (stop := [85]) 4 iC_counted 85 [vw0, vw1, vw2, vw3, vw4, vw5] [(0, t0)] σ
set_option maxRecDepth 20000 in
theorem qC_shortOf_0 (a1 a2 a3 a4 : Int) (σ : xS) : X iC_shortOf 0 [(2, 200), (0, a1), (0, a2), (0, a3), (0, a4), (9, 0)] [] σ =
  if a1 < 0 then some ((0, (-1)), σ)
  else if (xw ((σ.1 209 4) - 1)) < a1 then some ((0, (-1)), σ)
  else if a2 < 0 then some ((0, (-1)), σ)
  else if (xw ((σ.1 201 5) - 1)) < a2 then some ((0, (-1)), σ)
  else if a3 < 0 then some ((0, (-1)), σ)
  else if 1000 < a3 then some ((0, (-1)), σ)
  else if a4 < 0 then some ((0, (-1)), σ)
  else if 1000 < a4 then some ((0, (-1)), σ)
  else (X iEvidence_shortAt 0 [(2, 229), (0, a1), (0, a2), (0, a3), (0, a4), (9, 0), (9, 0), (9, 0)] [] σ).bind fun q1 => X iC_shortOf 55 [(2, 200), (0, a1), (0, a2), (0, a3), (0, a4), (0, 1)] [q1.1] q1.2 :=
  xev_eq (E := xE1) (F := xFk) (P := xPg) (inl := [172, 174, 175, 211, 307]) (stop := [55]) 99 iC_shortOf 0 [(2, 200), (0, a1), (0, a2), (0, a3), (0, a4), (9, 0)] [] σ
set_option maxRecDepth 20000 in
theorem qC_shortOf_55 (t0 : Int) (vw0 vw1 vw2 vw3 vw4 vw5 : xAV) (σ : xS) : X iC_shortOf 55 [vw0, vw1, vw2, vw3, vw4, vw5] [(0, t0)] σ =
  some ((0, t0), σ) :=
  xev_eq (E := xE1) (F := xFk) (P := xPg) (inl := [172, 174, 175, 211, 307]) (stop := [55]) 4 iC_shortOf 55 [vw0, vw1, vw2, vw3, vw4, vw5] [(0, t0)] σ
set_option maxRecDepth 20000 in
theorem qC_fault_0 (σ : xS) : X iC_fault 0 [(2, 200)] [] σ =
  some ((0, (σ.1 200 10)), σ) :=
  xev_eq (E := xE1) (F := xFk) (P := xPg) (inl := []) (stop := []) 5 iC_fault 0 [(2, 200)] [] σ
set_option maxRecDepth 20000 in
theorem qC_want_0 (a1 a2 a3 a4 : Int) (σ : xS) : X iC_want 0 [(2, 200), (0, a1), (0, a2), (0, a3), (0, a4)] [] σ =
  if a1 < 0 then some ((0, 0), σ)
  else if (xw ((σ.1 209 4) - 1)) < a1 then some ((0, 0), σ)
  else if a2 < 0 then some ((0, 0), σ)
  else if (xw ((σ.1 201 5) - 1)) < a2 then some ((0, 0), σ)
  else if a3 < 0 then some ((0, 0), σ)
  else if 6 < a3 then some ((0, 0), σ)
  else if a4 < 0 then some ((0, 0), σ)
  else if 50 < a4 then some ((0, 0), σ)
  else if xin a1 8 then (xob (xarr xE1 σ (xag xE1 σ 245 a1.toNat) 0) none fun n1 => if xin (xw ((xw (a2 * 7)) + a3)) n1 then (xob (xwr xE1 σ (xag xE1 σ 245 a1.toNat) (xw ((xw (a2 * 7)) + a3)).toNat a4) none fun s2 => some ((0, 1), s2))
    else none)
  else none :=
  xev_eq (E := xE1) (F := xFk) (P := xPg) (inl := [172, 211, 307]) (stop := []) 88 iC_want 0 [(2, 200), (0, a1), (0, a2), (0, a3), (0, a4)] [] σ
set_option maxRecDepth 20000 in
theorem qC_washer_0 (a1 a2 a3 : Int) (σ : xS) : X iC_washer 0 [(2, 200), (0, a1), (0, a2), (0, a3), (9, 0)] [] σ =
  if a1 < 1 then some ((0, (-1)), σ)
  else if 5000 < a1 then some ((0, (-1)), σ)
  else if a2 < 1 then some ((0, (-1)), σ)
  else if 200 < a2 then some ((0, (-1)), σ)
  else if a3 < 0 then some ((0, (-1)), σ)
  else if 100 < a3 then some ((0, (-1)), σ)
  else if (σ.1 258 4) < 3 then ((X iNight_addWasher 0 [(2, 258), (0, a1), (0, a2), (0, a3)] [] σ).bind fun q1 => X iC_washer 65 [(2, 200), (0, a1), (0, a2), (0, a3), (0, 1)] [q1.1] q1.2)
  else some ((0, (-1)), σ) :=
  xev_eq (E := xE1) (F := xFk) (P := xPg) (inl := [172]) (stop := [65]) 60 iC_washer 0 [(2, 200), (0, a1), (0, a2), (0, a3), (9, 0)] [] σ
set_option maxRecDepth 20000 in
theorem qC_washer_65 (t0 : Int) (vw0 vw1 vw2 vw3 vw4 : xAV) (σ : xS) : X iC_washer 65 [vw0, vw1, vw2, vw3, vw4] [(0, t0)] σ =
  some ((0, t0), σ) :=
  xev_eq (E := xE1) (F := xFk) (P := xPg) (inl := [172]) (stop := [65]) 4 iC_washer 65 [vw0, vw1, vw2, vw3, vw4] [(0, t0)] σ
set_option maxRecDepth 20000 in
theorem qC_dryers_0 (a1 : Int) (σ : xS) : X iC_dryers 0 [(2, 200), (0, a1)] [] σ =
  if a1 < 1 then some ((0, 0), σ)
  else if 3 < a1 then some ((0, 0), σ)
  else some ((0, 1), (xs σ 258 5 a1)) :=
  xev_eq (E := xE1) (F := xFk) (P := xPg) (inl := [172]) (stop := []) 22 iC_dryers 0 [(2, 200), (0, a1)] [] σ
set_option maxRecDepth 20000 in
theorem qC_job_0 (a1 a2 a3 : Int) (σ : xS) : X iC_job 0 [(2, 200), (0, a1), (0, a2), (0, a3), (9, 0)] [] σ =
  if a1 < 0 then some ((0, (-1)), σ)
  else if (xw ((σ.1 201 5) - 1)) < a1 then some ((0, (-1)), σ)
  else if a2 < 1 then some ((0, (-1)), σ)
  else if 200 < a2 then some ((0, (-1)), σ)
  else if a3 < 0 then some ((0, (-1)), σ)
  else if 1440 < a3 then some ((0, (-1)), σ)
  else if (σ.1 258 9) < 7 then ((X iNight_addJob 0 [(2, 258), (0, a1), (0, a2), (0, a3)] [] σ).bind fun q1 => X iC_job 67 [(2, 200), (0, a1), (0, a2), (0, a3), (0, 1)] [q1.1] q1.2)
  else some ((0, (-1)), σ) :=
  xev_eq (E := xE1) (F := xFk) (P := xPg) (inl := [172, 307]) (stop := [67]) 68 iC_job 0 [(2, 200), (0, a1), (0, a2), (0, a3), (9, 0)] [] σ
set_option maxRecDepth 20000 in
theorem qC_job_67 (t0 : Int) (vw0 vw1 vw2 vw3 vw4 : xAV) (σ : xS) : X iC_job 67 [vw0, vw1, vw2, vw3, vw4] [(0, t0)] σ =
  some ((0, t0), σ) :=
  xev_eq (E := xE1) (F := xFk) (P := xPg) (inl := [172, 307]) (stop := [67]) 4 iC_job 67 [vw0, vw1, vw2, vw3, vw4] [(0, t0)] σ
set_option maxRecDepth 20000 in
theorem qC_clear_0 (σ : xS) : X iC_clear 0 [(2, 200), (9, 0)] [] σ =
  some ((0, (σ.1 258 9)), (xs σ 258 9 0)) :=
  xev_eq (E := xE1) (F := xFk) (P := xPg) (inl := []) (stop := []) 12 iC_clear 0 [(2, 200), (9, 0)] [] σ
set_option maxRecDepth 20000 in
theorem qC_supply_0 (a1 a2 a3 a4 : Int) (σ : xS) : X iC_supply 0 [(2, 200), (0, a1), (0, a2), (0, a3), (0, a4)] [] σ =
  if a1 < 1 then some ((0, 0), σ)
  else if 20 < a1 then some ((0, 0), σ)
  else if a2 < 0 then some ((0, 0), σ)
  else if 1000 < a2 then some ((0, 0), σ)
  else if a3 < 0 then some ((0, 0), σ)
  else if 100 < a3 then some ((0, 0), σ)
  else if a4 < 1 then some ((0, 0), σ)
  else if 10 < a4 then some ((0, 0), σ)
  else some ((0, 1), (xs (xs (xs (xs σ 272 0 a1) 272 1 a2) 272 2 a3) 272 3 a4)) :=
  xev_eq (E := xE1) (F := xFk) (P := xPg) (inl := [172]) (stop := []) 76 iC_supply 0 [(2, 200), (0, a1), (0, a2), (0, a3), (0, a4)] [] σ
set_option maxRecDepth 20000 in
theorem qC_told_0 (a1 a2 : Int) (σ : xS) : X iC_told 0 [(2, 200), (0, a1), (0, a2)] [] σ =
  if a2 < 10 then (if a1 < 0 then some ((0, (-1)), σ)
    else if (xw ((σ.1 216 6) - 1)) < a1 then some ((0, (-1)), σ)
    else (X iBook_toldOfSheet 0 [(2, 216), (0, a1), (0, a2)] [] σ).bind fun q1 => X iC_told 26 [(2, 200), (0, a1), (0, a2)] [q1.1] q1.2)
  else if a1 < 0 then some ((0, (-1)), σ)
  else if (xw ((σ.1 216 14) - 1)) < a1 then some ((0, (-1)), σ)
  else (X iBook_toldOfMove 0 [(2, 216), (0, a1), (0, a2)] [] σ).bind fun q2 => X iC_told 57 [(2, 200), (0, a1), (0, a2)] [q2.1] q2.2 :=
  xev_eq (E := xE1) (F := xFk) (P := xPg) (inl := [172, 180]) (stop := [26, 57]) 32 iC_told 0 [(2, 200), (0, a1), (0, a2)] [] σ
set_option maxRecDepth 20000 in
theorem qC_told_26 (t0 : Int) (vw0 vw1 vw2 : xAV) (σ : xS) : X iC_told 26 [vw0, vw1, vw2] [(0, t0)] σ =
  some ((0, t0), σ) :=
  xev_eq (E := xE1) (F := xFk) (P := xPg) (inl := [172, 180]) (stop := [26, 57]) 4 iC_told 26 [vw0, vw1, vw2] [(0, t0)] σ
set_option maxRecDepth 20000 in
theorem qC_told_57 (t0 : Int) (vw0 vw1 vw2 : xAV) (σ : xS) : X iC_told 57 [vw0, vw1, vw2] [(0, t0)] σ =
  some ((0, t0), σ) :=
  xev_eq (E := xE1) (F := xFk) (P := xPg) (inl := [172, 180]) (stop := [26, 57]) 4 iC_told 57 [vw0, vw1, vw2] [(0, t0)] σ
set_option maxRecDepth 20000 in
theorem qC_count_0 (a1 : Int) (σ : xS) : X iC_count 0 [(2, 200), (0, a1)] [] σ =
  if a1 = 0 then some ((0, (σ.1 216 0)), σ)
  else if a1 = 1 then some ((0, (σ.1 201 5)), σ)
  else if a1 = 2 then some ((0, (σ.1 209 4)), σ)
  else if a1 = 3 then some ((0, (σ.1 216 6)), σ)
  else if a1 = 4 then some ((0, (σ.1 216 14)), σ)
  else if a1 = 5 then some ((0, (σ.1 229 6)), σ)
  else if a1 = 6 then some ((0, (σ.1 243 5)), σ)
  else if a1 = 7 then some ((0, (σ.1 258 4)), σ)
  else if a1 = 8 then some ((0, (σ.1 258 9)), σ)
  else if a1 = 9 then some ((0, (σ.1 200 9)), σ)
  else if a1 = 10 then some ((0, (σ.1 229 17)), σ)
  else if a1 = 11 then some ((0, (σ.1 229 12)), σ)
  else if a1 = 12 then some ((0, (σ.1 216 15)), σ)
  else some ((0, (-1)), σ) :=
  xev_eq (E := xE1) (F := xFk) (P := xPg) (inl := []) (stop := []) 8 iC_count 0 [(2, 200), (0, a1)] [] σ
set_option maxRecDepth 20000 in
theorem qBook_toldOfSheet_0 (a1 a2 : Int) (σ : xS) : X iBook_toldOfSheet 0 [(2, 216), (0, a1), (0, a2)] [] σ =
  if a2 = 0 then (if xin a1 150 then some ((0, (σ.1 217 a1.toNat)), σ)
    else none)
  else if a2 = 1 then (if xin a1 150 then some ((0, (σ.1 218 a1.toNat)), σ)
    else none)
  else if a2 = 2 then (if xin a1 150 then some ((0, (σ.1 219 a1.toNat)), σ)
    else none)
  else if a2 = 3 then (if xin a1 150 then some ((0, (σ.1 221 a1.toNat)), σ)
    else none)
  else some ((0, (-1)), σ) :=
  xev_eq (E := xE1) (F := xFk) (P := xPg) (inl := []) (stop := []) 9 iBook_toldOfSheet 0 [(2, 216), (0, a1), (0, a2)] [] σ
set_option maxRecDepth 20000 in
theorem qBook_toldOfMove_0 (a1 a2 : Int) (σ : xS) : X iBook_toldOfMove 0 [(2, 216), (0, a1), (0, a2)] [] σ =
  if a2 = 10 then (if xin a1 600 then some ((0, (σ.1 222 a1.toNat)), σ)
    else none)
  else if a2 = 11 then (if xin a1 600 then some ((0, (σ.1 223 a1.toNat)), σ)
    else none)
  else if a2 = 12 then (if xin a1 600 then some ((0, (σ.1 224 a1.toNat)), σ)
    else none)
  else if a2 = 13 then (if xin a1 600 then some ((0, (σ.1 225 a1.toNat)), σ)
    else none)
  else if a2 = 14 then (if xin a1 600 then some ((0, (σ.1 226 a1.toNat)), σ)
    else none)
  else some ((0, (-1)), σ) :=
  xev_eq (E := xE1) (F := xFk) (P := xPg) (inl := []) (stop := []) 9 iBook_toldOfMove 0 [(2, 216), (0, a1), (0, a2)] [] σ
set_option maxRecDepth 20000 in
theorem qEvidence_addBag_0 (a1 a2 : Int) (σ : xS) : X iEvidence_addBag 0 [(2, 229), (0, a1), (0, a2)] [] σ =
  if xin (σ.1 229 6) 60 then (if xin (σ.1 229 6) 60 then (if xin (σ.1 229 6) 60 then some ((0, (xw ((xw ((σ.1 229 6) + 1)) - 1))), (xs (xs (xs (xs σ 231 (σ.1 229 6).toNat a1) 232 (σ.1 229 6).toNat a2) 233 (σ.1 229 6).toNat (σ.1 216 0)) 229 6 (xw ((σ.1 229 6) + 1))))
      else none)
    else none)
  else none :=
  xev_eq (E := xE1) (F := xFk) (P := xPg) (inl := []) (stop := []) 33 iEvidence_addBag 0 [(2, 229), (0, a1), (0, a2)] [] σ
set_option maxRecDepth 20000 in
theorem qEvidence_addCount_0 (a1 a2 a3 a4 : Int) (σ : xS) : X iEvidence_addCount 0 [(2, 229), (0, a1), (0, a2), (0, a3), (0, a4)] [] σ =
  if xin (σ.1 229 12) 60 then (if xin (σ.1 229 12) 60 then (if xin (σ.1 229 12) 60 then (if xin (σ.1 229 12) 60 then (if xin (σ.1 229 12) 60 then some ((0, (xw ((σ.1 229 12) + 1))), (xs (xs (xs (xs (xs (xs σ 234 (σ.1 229 12).toNat a1) 235 (σ.1 229 12).toNat a2) 236 (σ.1 229 12).toNat a3) 237 (σ.1 229 12).toNat a4) 238 (σ.1 229 12).toNat (σ.1 216 0)) 229 12 (xw ((σ.1 229 12) + 1))))
          else none)
        else none)
      else none)
    else none)
  else none :=
  xev_eq (E := xE1) (F := xFk) (P := xPg) (inl := []) (stop := []) 43 iEvidence_addCount 0 [(2, 229), (0, a1), (0, a2), (0, a3), (0, a4)] [] σ
set_option maxRecDepth 20000 in
theorem qEvidence_addHeat_0 (a1 a2 a3 : Int) (σ : xS) : X iEvidence_addHeat 0 [(2, 229), (0, a1), (0, a2), (0, a3)] [] σ =
  if xin (σ.1 229 17) 60 then (if xin (σ.1 229 17) 60 then (if xin (σ.1 229 17) 60 then (if xin (σ.1 229 17) 60 then some ((0, (xw ((σ.1 229 17) + 1))), (xs (xs (xs (xs (xs σ 239 (σ.1 229 17).toNat a1) 240 (σ.1 229 17).toNat a2) 241 (σ.1 229 17).toNat a3) 242 (σ.1 229 17).toNat (σ.1 216 0)) 229 17 (xw ((σ.1 229 17) + 1))))
        else none)
      else none)
    else none)
  else none :=
  xev_eq (E := xE1) (F := xFk) (P := xPg) (inl := []) (stop := []) 37 iEvidence_addHeat 0 [(2, 229), (0, a1), (0, a2), (0, a3)] [] σ
set_option maxRecDepth 20000 in
theorem qEvidence_hasHeat_0 (a1 a2 a3 a4 : Int) (σ : xS) : X iEvidence_hasHeat 0 [(2, 229), (0, a1), (0, a2), (0, a3), (0, a4), (9, 0)] [] σ =
  X iEvidence_hasHeat 3 [(2, 229), (0, a1), (0, a2), (0, a3), (0, a4), (0, 0)] [] σ :=
  xev_eq (E := xE1) (F := xFk) (P := xPg) (inl := []) (stop := [3]) 4 iEvidence_hasHeat 0 [(2, 229), (0, a1), (0, a2), (0, a3), (0, a4), (9, 0)] [] σ
set_option maxRecDepth 20000 in
theorem qEvidence_hasHeat_3 (v1 v2 v3 v4 v5 : Int) (σ : xS) : X iEvidence_hasHeat 3 [(2, 229), (0, v1), (0, v2), (0, v3), (0, v4), (0, v5)] [] σ =
  if v5 < (σ.1 229 17) then (if xin v5 60 then (if (σ.1 239 v5.toNat) = v1 then (if xin v5 60 then (if v2 < (σ.1 242 v5.toNat) then X iEvidence_hasHeat 3 [(2, 229), (0, v1), (0, v2), (0, v3), (0, v4), (0, (xw (v5 + 1)))] [] σ
          else if xin v5 60 then (if (σ.1 240 v5.toNat) < v3 then X iEvidence_hasHeat 3 [(2, 229), (0, v1), (0, v2), (0, v3), (0, v4), (0, (xw (v5 + 1)))] [] σ
            else if xin v5 60 then (if (σ.1 241 v5.toNat) < v4 then X iEvidence_hasHeat 3 [(2, 229), (0, v1), (0, v2), (0, v3), (0, v4), (0, (xw (v5 + 1)))] [] σ
              else some ((0, 1), σ))
            else none)
          else none)
        else none)
      else X iEvidence_hasHeat 3 [(2, 229), (0, v1), (0, v2), (0, v3), (0, v4), (0, (xw (v5 + 1)))] [] σ)
    else none)
  else some ((0, 0), σ) :=
  xev_eq (E := xE1) (F := xFk) (P := xPg) (inl := []) (stop := [3]) 32 iEvidence_hasHeat 3 [(2, 229), (0, v1), (0, v2), (0, v3), (0, v4), (0, v5)] [] σ
set_option maxRecDepth 20000 in
theorem qEvidence_missesOf_0 (a1 a2 a3 : Int) (σ : xS) : X iEvidence_missesOf 0 [(2, 229), (0, a1), (0, a2), (0, a3), (9, 0), (9, 0), (9, 0), (9, 0)] [] σ =
  (X iBook_lastOf 0 [(2, 216), (0, a1), (0, a2), (0, a3), (9, 0), (9, 0), (9, 0)] [] σ).bind fun q1 => X iEvidence_missesOf 10 [(2, 229), (0, a1), (0, a2), (0, a3), (9, 0), (9, 0), (9, 0), (9, 0)] [q1.1] q1.2 :=
  xev_eq (E := xE1) (F := xFk) (P := xPg) (inl := [173]) (stop := [10, 56]) 8 iEvidence_missesOf 0 [(2, 229), (0, a1), (0, a2), (0, a3), (9, 0), (9, 0), (9, 0), (9, 0)] [] σ
set_option maxRecDepth 20000 in
theorem qEvidence_missesOf_10 (v2 v3 t0 : Int) (vw1 vw4 vw5 vw6 vw7 : xAV) (σ : xS) : X iEvidence_missesOf 10 [(2, 229), vw1, (0, v2), (0, v3), vw4, vw5, vw6, vw7] [(0, t0)] σ =
  if t0 = (-1) then some ((0, 0), σ)
  else if xin t0 600 then (if (σ.1 224 t0.toNat) < 10 then some ((0, 0), σ)
    else if xin t0 600 then X iEvidence_missesOf 56 [(2, 229), vw1, (0, v2), (0, v3), (0, t0), (0, (xw ((σ.1 224 t0.toNat) - 10))), (0, 0), (0, 0)] [] σ
    else none)
  else none :=
  xev_eq (E := xE1) (F := xFk) (P := xPg) (inl := [173]) (stop := [10, 56]) 25 iEvidence_missesOf 10 [(2, 229), vw1, (0, v2), (0, v3), vw4, vw5, vw6, vw7] [(0, t0)] σ
set_option maxRecDepth 20000 in
theorem qEvidence_missesOf_56 (v2 v3 v4 v5 v6 v7 : Int) (vw1 : xAV) (σ : xS) : X iEvidence_missesOf 56 [(2, 229), vw1, (0, v2), (0, v3), (0, v4), (0, v5), (0, v6), (0, v7)] [] σ =
  if v7 < (σ.1 229 6) then (if xin v7 60 then (if (σ.1 231 v7.toNat) = v5 then (if xin v7 60 then (if v3 < (σ.1 233 v7.toNat) then X iEvidence_missesOf 56 [(2, 229), vw1, (0, v2), (0, v3), (0, v4), (0, v5), (0, (xw (v6 + 0))), (0, (xw (v7 + 1)))] [] σ
          else if xin v7 60 then (if xin v4 600 then (if (σ.1 223 v4.toNat) < (σ.1 232 v7.toNat) then (if xin v7 60 then (if v2 < (σ.1 232 v7.toNat) then X iEvidence_missesOf 56 [(2, 229), vw1, (0, v2), (0, v3), (0, v4), (0, v5), (0, (xw (v6 + 0))), (0, (xw (v7 + 1)))] [] σ
                  else X iEvidence_missesOf 56 [(2, 229), vw1, (0, v2), (0, v3), (0, v4), (0, v5), (0, (xw (v6 + 1))), (0, (xw (v7 + 1)))] [] σ)
                else none)
              else X iEvidence_missesOf 56 [(2, 229), vw1, (0, v2), (0, v3), (0, v4), (0, v5), (0, (xw (v6 + 0))), (0, (xw (v7 + 1)))] [] σ)
            else none)
          else none)
        else none)
      else X iEvidence_missesOf 56 [(2, 229), vw1, (0, v2), (0, v3), (0, v4), (0, v5), (0, (xw (v6 + 0))), (0, (xw (v7 + 1)))] [] σ)
    else none)
  else some ((0, (xmm 1 v6 12)), σ) :=
  xev_eq (E := xE1) (F := xFk) (P := xPg) (inl := [173]) (stop := [10, 56]) 47 iEvidence_missesOf 56 [(2, 229), vw1, (0, v2), (0, v3), (0, v4), (0, v5), (0, v6), (0, v7)] [] σ
set_option maxRecDepth 20000 in
theorem qEvidence_isDoubted_0 (a1 a2 a3 : Int) (σ : xS) : X iEvidence_isDoubted 0 [(2, 229), (0, a1), (0, a2), (0, a3), (9, 0), (9, 0), (9, 0), (9, 0), (9, 0), (9, 0)] [] σ =
  (X iEvidence_missesOf 0 [(2, 229), (0, a1), (0, a2), (0, a3), (9, 0), (9, 0), (9, 0), (9, 0)] [] σ).bind fun q1 => X iEvidence_isDoubted 7 [(2, 229), (0, a1), (0, a2), (0, a3), (9, 0), (9, 0), (9, 0), (9, 0), (9, 0), (9, 0)] [q1.1] q1.2 :=
  xev_eq (E := xE1) (F := xFk) (P := xPg) (inl := []) (stop := [7, 22]) 7 iEvidence_isDoubted 0 [(2, 229), (0, a1), (0, a2), (0, a3), (9, 0), (9, 0), (9, 0), (9, 0), (9, 0), (9, 0)] [] σ
set_option maxRecDepth 20000 in
theorem qEvidence_isDoubted_7 (v1 t0 : Int) (vw2 vw3 vw4 vw5 vw6 vw7 vw8 vw9 : xAV) (σ : xS) : X iEvidence_isDoubted 7 [(2, 229), (0, v1), vw2, vw3, vw4, vw5, vw6, vw7, vw8, vw9] [(0, t0)] σ =
  X iEvidence_isDoubted 22 [(2, 229), (0, v1), vw2, (xkl vw3), (0, t0), (1, (σ.1 229 2)), (8, 0), (1, 1), (8, 0), (0, 0)] [] σ :=
  xev_eq (E := xE1) (F := xFk) (P := xPg) (inl := []) (stop := [7, 22]) 11 iEvidence_isDoubted 7 [(2, 229), (0, v1), vw2, vw3, vw4, vw5, vw6, vw7, vw8, vw9] [(0, t0)] σ
set_option maxRecDepth 20000 in
theorem qEvidence_isDoubted_22 (v1 v4 v5 v7 v9 : Int) (vw2 vw3 : xAV) (σ : xS) : X iEvidence_isDoubted 22 [(2, 229), (0, v1), vw2, vw3, (0, v4), (1, v5), (8, 0), (1, v7), (8, 0), (0, v9)] [] σ =
  if v9 < v4 then (if xin v1 150 then (if xin (σ.1 218 v1.toNat) 4 then X iEvidence_isDoubted 22 [(2, 229), (0, v1), vw2, vw3, (0, v4), (1, (xW (v5 * (σ.1 230 (σ.1 218 v1.toNat).toNat)))), (8, 0), (1, (xW (v7 * 16))), (8, 0), (0, (xw (v9 + 1)))] [] σ
      else none)
    else none)
  else if v5 < v7 then some ((0, 1), σ)
  else some ((0, 0), σ) :=
  xev_eq (E := xE1) (F := xFk) (P := xPg) (inl := []) (stop := [7, 22]) 23 iEvidence_isDoubted 22 [(2, 229), (0, v1), vw2, vw3, (0, v4), (1, v5), (8, 0), (1, v7), (8, 0), (0, v9)] [] σ
set_option maxRecDepth 20000 in
theorem qEvidence_isLostAt_0 (a1 a2 a3 a4 : Int) (σ : xS) : X iEvidence_isLostAt 0 [(2, 229), (0, a1), (0, a2), (0, a3), (0, a4)] [] σ =
  (X iBook_isAt 0 [(2, 216), (0, (xw (10 + a1))), (0, a2), (0, a3), (0, a4)] [] σ).bind fun q1 => X iEvidence_isLostAt 15 [(2, 229), (0, a1), (0, a2), (0, a3), (0, a4)] [q1.1] q1.2 :=
  xev_eq (E := xE1) (F := xFk) (P := xPg) (inl := []) (stop := [15, 26]) 11 iEvidence_isLostAt 0 [(2, 229), (0, a1), (0, a2), (0, a3), (0, a4)] [] σ
set_option maxRecDepth 20000 in
theorem qEvidence_isLostAt_15 (v2 v3 v4 t0 : Int) (vw1 : xAV) (σ : xS) : X iEvidence_isLostAt 15 [(2, 229), vw1, (0, v2), (0, v3), (0, v4)] [(0, t0)] σ =
  if t0 = 0 then some ((0, 0), σ)
  else (X iEvidence_isDoubted 0 [(2, 229), (0, v2), (0, v3), (0, v4), (9, 0), (9, 0), (9, 0), (9, 0), (9, 0), (9, 0)] [] σ).bind fun q1 => X iEvidence_isLostAt 26 [(2, 229), vw1, (0, v2), (0, v3), (0, v4)] [q1.1] q1.2 :=
  xev_eq (E := xE1) (F := xFk) (P := xPg) (inl := []) (stop := [15, 26]) 8 iEvidence_isLostAt 15 [(2, 229), vw1, (0, v2), (0, v3), (0, v4)] [(0, t0)] σ
set_option maxRecDepth 20000 in
theorem qEvidence_isLostAt_26 (t0 : Int) (vw0 vw1 vw2 vw3 vw4 : xAV) (σ : xS) : X iEvidence_isLostAt 26 [vw0, vw1, vw2, vw3, vw4] [(0, t0)] σ =
  if t0 = 0 then some ((0, 0), σ)
  else some ((0, 1), σ) :=
  xev_eq (E := xE1) (F := xFk) (P := xPg) (inl := []) (stop := [15, 26]) 6 iEvidence_isLostAt 26 [vw0, vw1, vw2, vw3, vw4] [(0, t0)] σ
set_option maxRecDepth 20000 in
theorem qEvidence_lostAt_0 (a1 a2 a3 a4 : Int) (σ : xS) : X iEvidence_lostAt 0 [(2, 229), (0, a1), (0, a2), (0, a3), (0, a4), (9, 0), (9, 0)] [] σ =
  X iEvidence_lostAt 6 [(2, 229), (0, a1), (0, a2), (0, a3), (0, a4), (0, 0), (0, 0)] [] σ :=
  xev_eq (E := xE1) (F := xFk) (P := xPg) (inl := [173]) (stop := [6, 44]) 6 iEvidence_lostAt 0 [(2, 229), (0, a1), (0, a2), (0, a3), (0, a4), (9, 0), (9, 0)] [] σ
set_option maxRecDepth 20000 in
theorem qEvidence_lostAt_6 (v1 v2 v3 v4 v5 v6 : Int) (σ : xS) : X iEvidence_lostAt 6 [(2, 229), (0, v1), (0, v2), (0, v3), (0, v4), (0, v5), (0, v6)] [] σ =
  if v6 < (σ.1 216 6) then (if xin v6 150 then (if (σ.1 217 v6.toNat) = v2 then ((X iEvidence_isLostAt 0 [(2, 229), (0, v1), (0, v6), (0, v3), (0, v4)] [] σ).bind fun q1 => X iEvidence_lostAt 44 [(2, 229), (0, v1), (0, v2), (0, v3), (0, v4), (0, v5), (0, v6)] [q1.1, (0, v5)] q1.2)
      else X iEvidence_lostAt 6 [(2, 229), (0, v1), (0, v2), (0, v3), (0, v4), (0, (xw (v5 + 0))), (0, (xw (v6 + 1)))] [] σ)
    else none)
  else some ((0, v5), σ) :=
  xev_eq (E := xE1) (F := xFk) (P := xPg) (inl := [173]) (stop := [6, 44]) 25 iEvidence_lostAt 6 [(2, 229), (0, v1), (0, v2), (0, v3), (0, v4), (0, v5), (0, v6)] [] σ
set_option maxRecDepth 20000 in
theorem qEvidence_lostAt_44 (v1 v2 v3 v4 v6 t0 t1 : Int) (vw5 : xAV) (σ : xS) : X iEvidence_lostAt 44 [(2, 229), (0, v1), (0, v2), (0, v3), (0, v4), vw5, (0, v6)] [(0, t0), (0, t1)] σ =
  if t0 = 0 then X iEvidence_lostAt 6 [(2, 229), (0, v1), (0, v2), (0, v3), (0, v4), (0, (xw (t1 + 0))), (0, (xw (v6 + 1)))] [] σ
  else X iEvidence_lostAt 6 [(2, 229), (0, v1), (0, v2), (0, v3), (0, v4), (0, (xw (t1 + 1))), (0, (xw (v6 + 1)))] [] σ :=
  xev_eq (E := xE1) (F := xFk) (P := xPg) (inl := [173]) (stop := [6, 44]) 15 iEvidence_lostAt 44 [(2, 229), (0, v1), (0, v2), (0, v3), (0, v4), vw5, (0, v6)] [(0, t0), (0, t1)] σ
set_option maxRecDepth 20000 in
theorem qEvidence_shortAt_0 (a1 a2 a3 a4 : Int) (σ : xS) : X iEvidence_shortAt 0 [(2, 229), (0, a1), (0, a2), (0, a3), (0, a4), (9, 0), (9, 0), (9, 0)] [] σ =
  X iEvidence_shortAt 6 [(2, 229), (0, a1), (0, a2), (0, a3), (0, a4), (0, 0), (0, 0), (9, 0)] [] σ :=
  xev_eq (E := xE1) (F := xFk) (P := xPg) (inl := []) (stop := [6, 81]) 6 iEvidence_shortAt 0 [(2, 229), (0, a1), (0, a2), (0, a3), (0, a4), (9, 0), (9, 0), (9, 0)] [] σ
set_option maxRecDepth 20000 in
theorem qEvidence_shortAt_6 (v1 v2 v3 v4 v5 v6 : Int) (vw7 : xAV) (σ : xS) : X iEvidence_shortAt 6 [(2, 229), (0, v1), (0, v2), (0, v3), (0, v4), (0, v5), (0, v6), vw7] [] σ =
  if v6 < (σ.1 229 12) then (if xin v6 60 then (if (σ.1 234 v6.toNat) = v1 then (if xin v6 60 then (if (σ.1 235 v6.toNat) = v2 then (if xin v6 60 then (if v4 < (σ.1 238 v6.toNat) then X iEvidence_shortAt 6 [(2, 229), (0, v1), (0, v2), (0, v3), (0, v4), (0, v5), (0, (xw (v6 + 1))), vw7] [] σ
              else if xin v6 60 then (if v3 < (σ.1 236 v6.toNat) then X iEvidence_shortAt 6 [(2, 229), (0, v1), (0, v2), (0, v3), (0, v4), (0, v5), (0, (xw (v6 + 1))), vw7] [] σ
                else if xin v6 60 then ((X iBook_manyAt 0 [(2, 216), (0, (xw (10 + v1))), (0, v2), (0, (σ.1 236 v6.toNat)), (0, v4), (9, 0), (9, 0)] [] σ).bind fun q1 => X iEvidence_shortAt 81 [(2, 229), (0, v1), (0, v2), (0, v3), (0, v4), (0, v5), (0, v6), vw7] [q1.1] q1.2)
                else none)
              else none)
            else none)
          else X iEvidence_shortAt 6 [(2, 229), (0, v1), (0, v2), (0, v3), (0, v4), (0, v5), (0, (xw (v6 + 1))), vw7] [] σ)
        else none)
      else X iEvidence_shortAt 6 [(2, 229), (0, v1), (0, v2), (0, v3), (0, v4), (0, v5), (0, (xw (v6 + 1))), vw7] [] σ)
    else none)
  else some ((0, v5), σ) :=
  xev_eq (E := xE1) (F := xFk) (P := xPg) (inl := []) (stop := [6, 81]) 42 iEvidence_shortAt 6 [(2, 229), (0, v1), (0, v2), (0, v3), (0, v4), (0, v5), (0, v6), vw7] [] σ
set_option maxRecDepth 20000 in
theorem qEvidence_shortAt_81 (v1 v2 v3 v4 v5 v6 t0 : Int) (vw7 : xAV) (σ : xS) : X iEvidence_shortAt 81 [(2, 229), (0, v1), (0, v2), (0, v3), (0, v4), (0, v5), (0, v6), vw7] [(0, t0)] σ =
  if xin v6 60 then X iEvidence_shortAt 6 [(2, 229), (0, v1), (0, v2), (0, v3), (0, v4), (0, (xmm 0 v5 (xw (t0 - (σ.1 237 v6.toNat))))), (0, (xw (v6 + 1))), (0, t0)] [] σ
  else none :=
  xev_eq (E := xE1) (F := xFk) (P := xPg) (inl := []) (stop := [6, 81]) 14 iEvidence_shortAt 81 [(2, 229), (0, v1), (0, v2), (0, v3), (0, v4), (0, v5), (0, v6), vw7] [(0, t0)] σ
set_option maxRecDepth 20000 in
theorem qHouses_add_0 (a1 a2 a3 a4 : Int) (σ : xS) : X iHouses_add 0 [(2, 209), (0, a1), (0, a2), (0, a3), (0, a4)] [] σ =
  if xin (σ.1 209 4) 8 then (if xin (σ.1 209 4) 8 then (if xin (σ.1 209 4) 8 then (if xin (σ.1 209 4) 8 then some ((0, (xw ((xw ((σ.1 209 4) + 1)) - 1))), (xs (xs (xs (xs (xs σ 210 (σ.1 209 4).toNat a1) 211 (σ.1 209 4).toNat a2) 212 (σ.1 209 4).toNat a3) 213 (σ.1 209 4).toNat a4) 209 4 (xw ((σ.1 209 4) + 1))))
        else none)
      else none)
    else none)
  else none :=
  xev_eq (E := xE1) (F := xFk) (P := xPg) (inl := []) (stop := []) 37 iHouses_add 0 [(2, 209), (0, a1), (0, a2), (0, a3), (0, a4)] [] σ
set_option maxRecDepth 20000 in
theorem qNight_addWasher_0 (a1 a2 a3 : Int) (σ : xS) : X iNight_addWasher 0 [(2, 258), (0, a1), (0, a2), (0, a3)] [] σ =
  if xin (σ.1 258 4) 3 then (if xin (σ.1 258 4) 3 then (if xin (σ.1 258 4) 3 then some ((0, (xw ((xw ((σ.1 258 4) + 1)) - 1))), (xs (xs (xs (xs σ 259 (σ.1 258 4).toNat a1) 260 (σ.1 258 4).toNat a2) 261 (σ.1 258 4).toNat a3) 258 4 (xw ((σ.1 258 4) + 1))))
      else none)
    else none)
  else none :=
  xev_eq (E := xE1) (F := xFk) (P := xPg) (inl := []) (stop := []) 31 iNight_addWasher 0 [(2, 258), (0, a1), (0, a2), (0, a3)] [] σ
set_option maxRecDepth 20000 in
theorem qNight_addJob_0 (a1 a2 a3 : Int) (σ : xS) : X iNight_addJob 0 [(2, 258), (0, a1), (0, a2), (0, a3)] [] σ =
  if xin (σ.1 258 9) 7 then (if xin (σ.1 258 9) 7 then (if xin (σ.1 258 9) 7 then some ((0, (xw ((xw ((σ.1 258 9) + 1)) - 1))), (xs (xs (xs (xs σ 262 (σ.1 258 9).toNat a1) 263 (σ.1 258 9).toNat a2) 264 (σ.1 258 9).toNat a3) 258 9 (xw ((σ.1 258 9) + 1))))
      else none)
    else none)
  else none :=
  xev_eq (E := xE1) (F := xFk) (P := xPg) (inl := []) (stop := []) 31 iNight_addJob 0 [(2, 258), (0, a1), (0, a2), (0, a3)] [] σ
set_option maxRecDepth 20000 in
theorem qSorts_add_0 (a1 a2 a3 a4 a5 : Int) (σ : xS) : X iSorts_add 0 [(2, 201), (0, a1), (0, a2), (0, a3), (0, a4), (0, a5)] [] σ =
  if xin (σ.1 201 5) 6 then (if xin (σ.1 201 5) 6 then (if xin (σ.1 201 5) 6 then (if xin (σ.1 201 5) 6 then (if xin (σ.1 201 5) 6 then some ((0, (xw ((xw ((σ.1 201 5) + 1)) - 1))), (xs (xs (xs (xs (xs (xs σ 202 (σ.1 201 5).toNat a1) 203 (σ.1 201 5).toNat a2) 204 (σ.1 201 5).toNat a3) 205 (σ.1 201 5).toNat a4) 206 (σ.1 201 5).toNat a5) 201 5 (xw ((σ.1 201 5) + 1))))
          else none)
        else none)
      else none)
    else none)
  else none :=
  xev_eq (E := xE1) (F := xFk) (P := xPg) (inl := []) (stop := []) 43 iSorts_add 0 [(2, 201), (0, a1), (0, a2), (0, a3), (0, a4), (0, a5)] [] σ

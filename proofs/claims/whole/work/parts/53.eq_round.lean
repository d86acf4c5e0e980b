/-! equations, written by a program (wip/whole/gen) -/
set_option maxRecDepth 20000 in
theorem qM_abs_0 (a0 : Int) (σ : xS) : X iM_abs 0 [(0, a0)] [] σ =
  if a0 < 0 then some ((0, (xw (-a0))), σ)
  else some ((0, a0), σ) :=
  xev_eq (E := xE1) (F := xFk) (P := xPg) (inl := []) (stop := []) 8 iM_abs 0 [(0, a0)] [] σ
set_option maxRecDepth 20000 in
theorem qM_first_0 (a1 : Int) (σ : xS) : X iM_first 0 [(2, 305), (0, a1), (9, 0)] [] σ =
  X iM_first 2 [(2, 305), (0, a1), (0, 0)] [] σ :=
  xev_eq (E := xE1) (F := xFk) (P := xPg) (inl := []) (stop := [2]) 4 iM_first 0 [(2, 305), (0, a1), (9, 0)] [] σ
set_option maxRecDepth 20000 in
theorem qM_first_2 (v1 v2 : Int) (σ : xS) : X iM_first 2 [(2, 305), (0, v1), (0, v2)] [] σ =
  if v2 < v1 then (if xin v2 8 then X iM_first 2 [(2, 305), (0, v1), (0, (xw (v2 + 1)))] [] (xs σ 381 v2.toNat v2)
    else none)
  else some ((9, 0), σ) :=
  xev_eq (E := xE1) (F := xFk) (P := xPg) (inl := []) (stop := [2]) 12 iM_first 2 [(2, 305), (0, v1), (0, v2)] [] σ
set_option maxRecDepth 20000 in
theorem qM_follows_0 (a1 : Int) (σ : xS) : X iM_follows 0 [(2, 305), (0, a1), (9, 0), (9, 0), (9, 0), (9, 0), (9, 0)] [] σ =
  X iM_follows 4 [(2, 305), (0, a1), (0, (xw (a1 - 2))), (9, 0), (9, 0), (9, 0), (9, 0)] [] σ :=
  xev_eq (E := xE1) (F := xFk) (P := xPg) (inl := []) (stop := [4, 41, 100]) 6 iM_follows 0 [(2, 305), (0, a1), (9, 0), (9, 0), (9, 0), (9, 0), (9, 0)] [] σ
set_option maxRecDepth 20000 in
theorem qM_follows_4 (v1 v2 : Int) (vw3 vw4 vw5 vw6 : xAV) (σ : xS) : X iM_follows 4 [(2, 305), (0, v1), (0, v2), vw3, vw4, vw5, vw6] [] σ =
  if v2 < 0 then (if v2 < 0 then some ((0, 0), σ)
    else X iM_follows 41 [(2, 305), (0, v1), (0, v2), (0, (xw (v1 - 1))), vw4, vw5, vw6] [] σ)
  else if xin v2 8 then (if xin (xw (v2 + 1)) 8 then (if (σ.1 381 (xw (v2 + 1)).toNat) < (σ.1 381 v2.toNat) then X iM_follows 4 [(2, 305), (0, v1), (0, (xw (v2 + (-1)))), vw3, vw4, vw5, vw6] [] σ
      else if v2 < 0 then some ((0, 0), σ)
      else X iM_follows 41 [(2, 305), (0, v1), (0, v2), (0, (xw (v1 - 1))), vw4, vw5, vw6] [] σ)
    else none)
  else none :=
  xev_eq (E := xE1) (F := xFk) (P := xPg) (inl := []) (stop := [4, 41, 100]) 21 iM_follows 4 [(2, 305), (0, v1), (0, v2), vw3, vw4, vw5, vw6] [] σ
set_option maxRecDepth 20000 in
theorem qM_follows_41 (v1 v2 v3 : Int) (vw4 vw5 vw6 : xAV) (σ : xS) : X iM_follows 41 [(2, 305), (0, v1), (0, v2), (0, v3), vw4, vw5, vw6] [] σ =
  if xin v3 8 then (if xin v2 8 then (if (σ.1 381 v3.toNat) < (σ.1 381 v2.toNat) then X iM_follows 41 [(2, 305), (0, v1), (0, v2), (0, (xw (v3 + (-1)))), vw4, vw5, vw6] [] σ
      else if xin v2 8 then (if xin v3 8 then (if xin v2 8 then (if xin v3 8 then X iM_follows 100 [(2, 305), (0, v1), (0, v2), (0, v3), (0, (σ.1 381 v2.toNat)), (0, (xw (v2 + 1))), (0, (xw (v1 - 1)))] [] (xs (xs σ 381 v2.toNat (σ.1 381 v3.toNat)) 381 v3.toNat (σ.1 381 v2.toNat))
            else none)
          else none)
        else none)
      else none)
    else none)
  else none :=
  xev_eq (E := xE1) (F := xFk) (P := xPg) (inl := []) (stop := [4, 41, 100]) 37 iM_follows 41 [(2, 305), (0, v1), (0, v2), (0, v3), vw4, vw5, vw6] [] σ
set_option maxRecDepth 20000 in
theorem qM_follows_100 (v5 v6 : Int) (vw1 vw2 vw3 vw4 : xAV) (σ : xS) : X iM_follows 100 [(2, 305), vw1, vw2, vw3, vw4, (0, v5), (0, v6)] [] σ =
  if v5 < v6 then (if xin v5 8 then (if xin v6 8 then (if xin v5 8 then (if xin v6 8 then X iM_follows 100 [(2, 305), vw1, vw2, (xkl vw3), (0, (σ.1 381 v5.toNat)), (0, (xw (v5 + 1))), (0, (xw (v6 + (-1))))] [] (xs (xs σ 381 v5.toNat (σ.1 381 v6.toNat)) 381 v6.toNat (σ.1 381 v5.toNat))
          else none)
        else none)
      else none)
    else none)
  else some ((0, 1), σ) :=
  xev_eq (E := xE1) (F := xFk) (P := xPg) (inl := []) (stop := [4, 41, 100]) 26 iM_follows 100 [(2, 305), vw1, vw2, vw3, vw4, (0, v5), (0, v6)] [] σ
set_option maxRecDepth 20000 in
theorem qM_apart_0 (a0 a1 a2 a3 : Int) (σ : xS) : X iM_apart 0 [(0, a0), (0, a1), (0, a2), (0, a3)] [] σ =
  (X iM_abs 0 [(0, (xw (a0 - a2)))] [] σ).bind fun q1 => X iM_apart 6 [(0, a0), (0, a1), (0, a2), (0, a3)] [q1.1] q1.2 :=
  xev_eq (E := xE1) (F := xFk) (P := xPg) (inl := []) (stop := [6, 12]) 6 iM_apart 0 [(0, a0), (0, a1), (0, a2), (0, a3)] [] σ
set_option maxRecDepth 20000 in
theorem qM_apart_6 (v1 v3 t0 : Int) (vw0 vw2 : xAV) (σ : xS) : X iM_apart 6 [vw0, (0, v1), vw2, (0, v3)] [(0, t0)] σ =
  (X iM_abs 0 [(0, (xw (v1 - v3)))] [] σ).bind fun q1 => X iM_apart 12 [vw0, (0, v1), vw2, (0, v3)] [q1.1, (0, t0)] q1.2 :=
  xev_eq (E := xE1) (F := xFk) (P := xPg) (inl := []) (stop := [6, 12]) 6 iM_apart 6 [vw0, (0, v1), vw2, (0, v3)] [(0, t0)] σ
set_option maxRecDepth 20000 in
theorem qM_apart_12 (t0 t1 : Int) (vw0 vw1 vw2 vw3 : xAV) (σ : xS) : X iM_apart 12 [vw0, vw1, vw2, vw3] [(0, t0), (0, t1)] σ =
  some ((0, (xw (t1 + t0))), σ) :=
  xev_eq (E := xE1) (F := xFk) (P := xPg) (inl := []) (stop := [6, 12]) 4 iM_apart 12 [vw0, vw1, vw2, vw3] [(0, t0), (0, t1)] σ
set_option maxRecDepth 20000 in
theorem qM_round_0 (a1 a2 a3 : Int) (σ : xS) : X iM_round 0 [(2, 305), (0, a1), (0, a2), (0, a3), (9, 0), (9, 0), (9, 0), (9, 0), (9, 0), (9, 0), (9, 0), (9, 0), (9, 0)] [] σ =
  if a1 < 0 then some ((0, (-1)), σ)
  else if a1 < (xshl 1 (σ.1 305 11)) then (if a2 < 0 then some ((0, (-1)), σ)
    else if 1440 < a2 then some ((0, (-1)), σ)
    else X iM_round 33 [(2, 305), (0, a1), (0, a2), (0, a3), (0, 0), (0, 0), (9, 0), (9, 0), (9, 0), (9, 0), (9, 0), (9, 0), (9, 0)] [] σ)
  else some ((0, (-1)), σ) :=
  xev_eq (E := xE1) (F := xFk) (P := xPg) (inl := [1]) (stop := [33, 78, 84, 104, 148, 255, 293]) 28 iM_round 0 [(2, 305), (0, a1), (0, a2), (0, a3), (9, 0), (9, 0), (9, 0), (9, 0), (9, 0), (9, 0), (9, 0), (9, 0), (9, 0)] [] σ
set_option maxRecDepth 20000 in
theorem qM_round_33 (v1 v2 v3 v4 v5 : Int) (vw6 vw7 vw8 vw9 vw10 vw11 vw12 : xAV) (σ : xS) : X iM_round 33 [(2, 305), (0, v1), (0, v2), (0, v3), (0, v4), (0, v5), vw6, vw7, vw8, vw9, vw10, vw11, vw12] [] σ =
  if v5 < (σ.1 305 11) then (if (xiand (xshr v1 v5) 1) = 0 then X iM_round 33 [(2, 305), (0, v1), (0, v2), (0, v3), (0, v4), (0, (xw (v5 + 1))), vw6, vw7, vw8, vw9, vw10, vw11, vw12] [] σ
    else if xin v4 8 then X iM_round 33 [(2, 305), (0, v1), (0, v2), (0, v3), (0, (xw (v4 + 1))), (0, (xw (v5 + 1))), vw6, vw7, vw8, vw9, vw10, vw11, vw12] [] (xs σ 389 v4.toNat v5)
    else none)
  else (X iM_first 0 [(2, 305), (0, v4), (9, 0)] [] σ).bind fun q1 => X iM_round 78 [(2, 305), (0, v1), (0, v2), (0, v3), (0, v4), (0, v5), vw6, vw7, vw8, vw9, vw10, vw11, vw12] [] q1.2 :=
  xev_eq (E := xE1) (F := xFk) (P := xPg) (inl := [1]) (stop := [33, 78, 84, 104, 148, 255, 293]) 20 iM_round 33 [(2, 305), (0, v1), (0, v2), (0, v3), (0, v4), (0, v5), vw6, vw7, vw8, vw9, vw10, vw11, vw12] [] σ
set_option maxRecDepth 20000 in
theorem qM_round_78 (v2 v3 v4 : Int) (vw1 vw5 vw6 vw7 vw8 vw9 vw10 vw11 vw12 : xAV) (σ : xS) : X iM_round 78 [(2, 305), vw1, (0, v2), (0, v3), (0, v4), vw5, vw6, vw7, vw8, vw9, vw10, vw11, vw12] [] σ =
  X iM_round 84 [(2, 305), vw1, (0, v2), (0, v3), (0, v4), (0, 1), (0, 0), vw7, vw8, vw9, vw10, vw11, vw12] [] σ :=
  xev_eq (E := xE1) (F := xFk) (P := xPg) (inl := [1]) (stop := [33, 78, 84, 104, 148, 255, 293]) 6 iM_round 78 [(2, 305), vw1, (0, v2), (0, v3), (0, v4), vw5, vw6, vw7, vw8, vw9, vw10, vw11, vw12] [] σ
set_option maxRecDepth 20000 in
theorem qM_round_84 (v2 v3 v4 v5 v6 : Int) (vw1 vw7 vw8 vw9 vw10 vw11 vw12 : xAV) (σ : xS) : X iM_round 84 [(2, 305), vw1, (0, v2), (0, v3), (0, v4), (0, v5), (0, v6), vw7, vw8, vw9, vw10, vw11, vw12] [] σ =
  if v5 = 0 then (if v3 = 0 then some ((0, (σ.1 305 118)), σ)
    else if v3 = 1 then some ((0, (σ.1 305 119)), σ)
    else if v3 < 10 then some ((0, (-1)), σ)
    else if v3 < (xw (10 + v4)) then (if xin (xw (v3 - 10)) 8 then some ((0, (σ.1 382 (xw (v3 - 10)).toNat)), σ)
      else none)
    else some ((0, (-1)), σ))
  else X iM_round 104 [(2, 305), vw1, (0, v2), (0, v3), (0, v4), (0, v5), (0, v6), (0, v2), (0, 0), (0, 0), (0, 0), (0, 0), vw12] [] σ :=
  xev_eq (E := xE1) (F := xFk) (P := xPg) (inl := [1]) (stop := [33, 78, 84, 104, 148, 255, 293]) 25 iM_round 84 [(2, 305), vw1, (0, v2), (0, v3), (0, v4), (0, v5), (0, v6), vw7, vw8, vw9, vw10, vw11, vw12] [] σ
set_option maxRecDepth 20000 in
theorem qM_round_104 (v2 v3 v4 v6 v7 v8 v9 v10 v11 : Int) (vw1 vw5 vw12 : xAV) (σ : xS) : X iM_round 104 [(2, 305), vw1, (0, v2), (0, v3), (0, v4), vw5, (0, v6), (0, v7), (0, v8), (0, v9), (0, v10), (0, v11), vw12] [] σ =
  if v11 < v4 then (if xin v11 8 then (if xin (σ.1 381 v11.toNat) 8 then (if xin (σ.1 389 (σ.1 381 v11.toNat).toNat) 8 then (if xin (σ.1 389 (σ.1 381 v11.toNat).toNat) 8 then ((X iM_apart 0 [(0, v8), (0, v9), (0, (σ.1 312 (σ.1 389 (σ.1 381 v11.toNat).toNat).toNat)), (0, (σ.1 313 (σ.1 389 (σ.1 381 v11.toNat).toNat).toNat))] [] σ).bind fun q1 => X iM_round 148 [(2, 305), vw1, (0, v2), (0, v3), (0, v4), vw5, (0, v6), (0, v7), (0, v8), (0, v9), (0, v10), (0, v11), (0, (σ.1 389 (σ.1 381 v11.toNat).toNat))] [q1.1, (0, v7)] q1.2)
          else none)
        else none)
      else none)
    else none)
  else if v6 = 0 then X iM_round 255 [(2, 305), vw1, (0, v2), (0, v3), (0, v4), (xkl vw5), (0, 1), (0, (xw (v7 + (xw ((xw (v8 + v9)) - v2))))), (0, v8), (0, v9), (0, v10), (0, 0), vw12] [] (xs (xs σ 305 118 v10) 305 119 (xw (v7 + (xw ((xw (v8 + v9)) - v2)))))
  else if v10 < (σ.1 305 118) then X iM_round 255 [(2, 305), vw1, (0, v2), (0, v3), (0, v4), (xkl vw5), (0, 1), (0, (xw (v7 + (xw ((xw (v8 + v9)) - v2))))), (0, v8), (0, v9), (0, v10), (0, 0), vw12] [] (xs (xs σ 305 118 v10) 305 119 (xw (v7 + (xw ((xw (v8 + v9)) - v2)))))
  else if v10 = (σ.1 305 118) then (if (xw (v7 + (xw ((xw (v8 + v9)) - v2)))) < (σ.1 305 119) then X iM_round 255 [(2, 305), vw1, (0, v2), (0, v3), (0, v4), (xkl vw5), (0, 1), (0, (xw (v7 + (xw ((xw (v8 + v9)) - v2))))), (0, v8), (0, v9), (0, v10), (0, 0), vw12] [] (xs (xs σ 305 118 v10) 305 119 (xw (v7 + (xw ((xw (v8 + v9)) - v2)))))
    else (X iM_follows 0 [(2, 305), (0, v4), (9, 0), (9, 0), (9, 0), (9, 0), (9, 0)] [] σ).bind fun q2 => X iM_round 293 [(2, 305), vw1, (0, v2), (0, v3), (0, v4), vw5, (0, v6), (0, (xw (v7 + (xw ((xw (v8 + v9)) - v2))))), (0, v8), (0, v9), (0, v10), (0, v11), vw12] [q2.1] q2.2)
  else (X iM_follows 0 [(2, 305), (0, v4), (9, 0), (9, 0), (9, 0), (9, 0), (9, 0)] [] σ).bind fun q3 => X iM_round 293 [(2, 305), vw1, (0, v2), (0, v3), (0, v4), vw5, (0, v6), (0, (xw (v7 + (xw ((xw (v8 + v9)) - v2))))), (0, v8), (0, v9), (0, v10), (0, v11), vw12] [q3.1] q3.2 :=
  xev_eq (E := xE1) (F := xFk) (P := xPg) (inl := [1]) (stop := [33, 78, 84, 104, 148, 255, 293]) 37 iM_round 104 [(2, 305), vw1, (0, v2), (0, v3), (0, v4), vw5, (0, v6), (0, v7), (0, v8), (0, v9), (0, v10), (0, v11), vw12] [] σ
set_option maxRecDepth 20000 in
theorem qM_round_148 (v2 v3 v4 v6 v10 v11 v12 t0 t1 : Int) (vw1 vw5 vw7 vw8 vw9 : xAV) (σ : xS) : X iM_round 148 [(2, 305), vw1, (0, v2), (0, v3), (0, v4), vw5, (0, v6), vw7, vw8, vw9, (0, v10), (0, v11), (0, v12)] [(0, t0), (0, t1)] σ =
  if xin v12 8 then (if (σ.1 314 v12.toNat) < (xw (t1 + t0)) then (if xin v12 8 then (if xin v12 8 then X iM_round 104 [(2, 305), vw1, (0, v2), (0, v3), (0, v4), vw5, (0, v6), (0, (xw ((xw (t1 + t0)) + 5))), (0, (σ.1 312 v12.toNat)), (0, (σ.1 313 v12.toNat)), (0, (xw (v10 + 1))), (0, (xw (v11 + 1))), (0, v12)] [] σ
        else none)
      else none)
    else if xin v12 8 then (if xin v12 8 then X iM_round 104 [(2, 305), vw1, (0, v2), (0, v3), (0, v4), vw5, (0, v6), (0, (xw ((xw (t1 + t0)) + 5))), (0, (σ.1 312 v12.toNat)), (0, (σ.1 313 v12.toNat)), (0, v10), (0, (xw (v11 + 1))), (0, v12)] [] σ
      else none)
    else none)
  else none :=
  xev_eq (E := xE1) (F := xFk) (P := xPg) (inl := [1]) (stop := [33, 78, 84, 104, 148, 255, 293]) 24 iM_round 148 [(2, 305), vw1, (0, v2), (0, v3), (0, v4), vw5, (0, v6), vw7, vw8, vw9, (0, v10), (0, v11), (0, v12)] [(0, t0), (0, t1)] σ
set_option maxRecDepth 20000 in
theorem qM_round_255 (v2 v3 v4 v6 v11 : Int) (vw1 vw5 vw7 vw8 vw9 vw10 vw12 : xAV) (σ : xS) : X iM_round 255 [(2, 305), vw1, (0, v2), (0, v3), (0, v4), vw5, (0, v6), vw7, vw8, vw9, vw10, (0, v11), vw12] [] σ =
  if v11 < v4 then (if xin v11 8 then (if xin (σ.1 381 v11.toNat) 8 then (if xin v11 8 then X iM_round 255 [(2, 305), vw1, (0, v2), (0, v3), (0, v4), vw5, (0, v6), vw7, vw8, vw9, vw10, (0, (xw (v11 + 1))), vw12] [] (xs σ 382 v11.toNat (σ.1 389 (σ.1 381 v11.toNat).toNat))
        else none)
      else none)
    else none)
  else (X iM_follows 0 [(2, 305), (0, v4), (9, 0), (9, 0), (9, 0), (9, 0), (9, 0)] [] σ).bind fun q1 => X iM_round 293 [(2, 305), vw1, (0, v2), (0, v3), (0, v4), vw5, (0, v6), vw7, vw8, vw9, vw10, (0, v11), vw12] [q1.1] q1.2 :=
  xev_eq (E := xE1) (F := xFk) (P := xPg) (inl := [1]) (stop := [33, 78, 84, 104, 148, 255, 293]) 18 iM_round 255 [(2, 305), vw1, (0, v2), (0, v3), (0, v4), vw5, (0, v6), vw7, vw8, vw9, vw10, (0, v11), vw12] [] σ
set_option maxRecDepth 20000 in
theorem qM_round_293 (v2 v3 v4 v6 t0 : Int) (vw1 vw5 vw7 vw8 vw9 vw10 vw11 vw12 : xAV) (σ : xS) : X iM_round 293 [(2, 305), vw1, (0, v2), (0, v3), (0, v4), vw5, (0, v6), vw7, vw8, vw9, vw10, vw11, vw12] [(0, t0)] σ =
  X iM_round 84 [(2, 305), vw1, (0, v2), (0, v3), (0, v4), (0, t0), (0, v6), vw7, vw8, vw9, vw10, vw11, vw12] [] σ :=
  xev_eq (E := xE1) (F := xFk) (P := xPg) (inl := [1]) (stop := [33, 78, 84, 104, 148, 255, 293]) 4 iM_round 293 [(2, 305), vw1, (0, v2), (0, v3), (0, v4), vw5, (0, v6), vw7, vw8, vw9, vw10, vw11, vw12] [(0, t0)] σ
set_option maxRecDepth 20000 in
theorem qC_round_0 (a1 a2 a3 : Int) (σ : xS) : X iC_round 0 [(2, 200), (0, a1), (0, a2), (0, a3), (9, 0)] [] σ =
  if a1 < 0 then some ((0, (-1)), σ)
  else if a1 < (xshl 1 (σ.1 209 4)) then (if a2 < 0 then some ((0, (-1)), σ)
    else if 1440 < a2 then some ((0, (-1)), σ)
    else (X iJI_bitCount 0 [(0, a1)] [] σ).bind fun q1 => X iC_round 39 [(2, 200), (0, a1), (0, a2), (0, a3), (9, 0)] [q1.1, (0, 9), (0, 10), (0, a3)] q1.2)
  else some ((0, (-1)), σ) :=
  xev_eq (E := xE1) (F := xFk) (P := xPg) (inl := [172]) (stop := [39, 70]) 30 iC_round 0 [(2, 200), (0, a1), (0, a2), (0, a3), (9, 0)] [] σ
set_option maxRecDepth 20000 in
theorem qC_round_39 (v1 v2 v3 t0 t1 t2 t3 : Int) (vw4 : xAV) (σ : xS) : X iC_round 39 [(2, 200), (0, v1), (0, v2), (0, v3), vw4] [(0, t0), (0, t1), (0, t2), (0, t3)] σ =
  if t3 < t2 then (if v3 < 0 then some ((0, (-1)), σ)
    else if 1 < v3 then some ((0, (-1)), σ)
    else (X iHouses_planRound 0 [(2, 209), (0, v1), (0, v2)] [] σ).bind fun q1 => X iC_round 70 [(2, 200), (0, v1), (0, v2), (0, v3), (0, 0)] [] q1.2)
  else if (xw (t1 + t0)) < t3 then (if v3 < 0 then some ((0, (-1)), σ)
    else if 1 < v3 then some ((0, (-1)), σ)
    else (X iHouses_planRound 0 [(2, 209), (0, v1), (0, v2)] [] σ).bind fun q2 => X iC_round 70 [(2, 200), (0, v1), (0, v2), (0, v3), (0, 0)] [] q2.2)
  else if v3 < 0 then ((X iHouses_planRound 0 [(2, 209), (0, v1), (0, v2)] [] σ).bind fun q3 => X iC_round 70 [(2, 200), (0, v1), (0, v2), (0, v3), (0, 1)] [] q3.2)
  else if 1 < v3 then ((X iHouses_planRound 0 [(2, 209), (0, v1), (0, v2)] [] σ).bind fun q4 => X iC_round 70 [(2, 200), (0, v1), (0, v2), (0, v3), (0, 1)] [] q4.2)
  else (X iHouses_planRound 0 [(2, 209), (0, v1), (0, v2)] [] σ).bind fun q5 => X iC_round 70 [(2, 200), (0, v1), (0, v2), (0, v3), (0, 1)] [] q5.2 :=
  xev_eq (E := xE1) (F := xFk) (P := xPg) (inl := [172]) (stop := [39, 70]) 34 iC_round 39 [(2, 200), (0, v1), (0, v2), (0, v3), vw4] [(0, t0), (0, t1), (0, t2), (0, t3)] σ
set_option maxRecDepth 20000 in
theorem qC_round_70 (v3 v4 : Int) (vw1 vw2 : xAV) (σ : xS) : X iC_round 70 [(2, 200), vw1, vw2, (0, v3), (0, v4)] [] σ =
  if v4 = 0 then (if v3 = 0 then some ((0, (σ.1 209 7)), σ)
    else some ((0, (σ.1 209 8)), σ))
  else if xin (xw (v3 - 10)) 8 then some ((0, (σ.1 215 (xw (v3 - 10)).toNat)), σ)
  else none :=
  xev_eq (E := xE1) (F := xFk) (P := xPg) (inl := [172]) (stop := [39, 70]) 12 iC_round 70 [(2, 200), vw1, vw2, (0, v3), (0, v4)] [] σ
set_option maxRecDepth 20000 in
theorem qHouses_planRound_0 (a1 a2 : Int) (σ : xS) : X iHouses_planRound 0 [(2, 209), (0, a1), (0, a2)] [] σ =
  (X iHouses_visitRest 0 [(2, 209), (0, 0), (0, a1), (0, a2), (0, a2), (0, 0), (9, 0)] [] (xs (xs σ 209 7 1000000000) 209 8 1000000000)).bind fun q1 => X iHouses_planRound 21 [(2, 209), (0, a1), (0, a2)] [] q1.2 :=
  xev_eq (E := xE1) (F := xFk) (P := xPg) (inl := []) (stop := [21]) 15 iHouses_planRound 0 [(2, 209), (0, a1), (0, a2)] [] σ
set_option maxRecDepth 20000 in
theorem qHouses_planRound_21 (vw0 vw1 vw2 : xAV) (σ : xS) : X iHouses_planRound 21 [vw0, vw1, vw2] [] σ =
  some ((9, 0), σ) :=
  xev_eq (E := xE1) (F := xFk) (P := xPg) (inl := []) (stop := [21]) 3 iHouses_planRound 21 [vw0, vw1, vw2] [] σ
set_option maxRecDepth 20000 in
theorem qHouses_visitRest_0 (a1 a2 a3 a4 a5 : Int) (σ : xS) : X iHouses_visitRest 0 [(2, 209), (0, a1), (0, a2), (0, a3), (0, a4), (0, a5), (9, 0)] [] σ =
  if a5 < (σ.1 209 7) then (if a2 = 0 then ((X iHouses_goBack 0 [(2, 209), (0, a1), (0, a3), (0, a4), (0, a5), (9, 0)] [] σ).bind fun q1 => X iHouses_visitRest 28 [(2, 209), (0, a1), (0, a2), (0, a3), (0, a4), (0, a5), (9, 0)] [] q1.2)
    else X iHouses_visitRest 32 [(2, 209), (0, a1), (0, a2), (0, a3), (0, a4), (0, a5), (0, 0)] [] σ)
  else if a5 = (σ.1 209 7) then (if (xw (a4 - a3)) < (σ.1 209 8) then (if a2 = 0 then ((X iHouses_goBack 0 [(2, 209), (0, a1), (0, a3), (0, a4), (0, a5), (9, 0)] [] σ).bind fun q2 => X iHouses_visitRest 28 [(2, 209), (0, a1), (0, a2), (0, a3), (0, a4), (0, a5), (9, 0)] [] q2.2)
      else X iHouses_visitRest 32 [(2, 209), (0, a1), (0, a2), (0, a3), (0, a4), (0, a5), (0, 0)] [] σ)
    else some ((9, 0), σ))
  else some ((9, 0), σ) :=
  xev_eq (E := xE1) (F := xFk) (P := xPg) (inl := [217]) (stop := [28, 32, 69]) 32 iHouses_visitRest 0 [(2, 209), (0, a1), (0, a2), (0, a3), (0, a4), (0, a5), (9, 0)] [] σ
set_option maxRecDepth 20000 in
theorem qHouses_visitRest_28 (vw0 vw1 vw2 vw3 vw4 vw5 vw6 : xAV) (σ : xS) : X iHouses_visitRest 28 [vw0, vw1, vw2, vw3, vw4, vw5, vw6] [] σ =
  some ((9, 0), σ) :=
  xev_eq (E := xE1) (F := xFk) (P := xPg) (inl := [217]) (stop := [28, 32, 69]) 3 iHouses_visitRest 28 [vw0, vw1, vw2, vw3, vw4, vw5, vw6] [] σ
set_option maxRecDepth 20000 in
theorem qHouses_visitRest_32 (v1 v2 v3 v4 v5 v6 : Int) (σ : xS) : X iHouses_visitRest 32 [(2, 209), (0, v1), (0, v2), (0, v3), (0, v4), (0, v5), (0, v6)] [] σ =
  if v6 < (σ.1 209 4) then (if (xiand (xshr v2 v6) 1) = 0 then X iHouses_visitRest 69 [(2, 209), (0, v1), (0, v2), (0, v3), (0, v4), (0, v5), (0, v6)] [] σ
    else if xin v1 8 then (bif Nat.beq (xdp (xs σ 214 v1.toNat v6)) 0 then none
      else (X iHouses_visitNext 0 [(2, 209), (0, v1), (0, v2), (0, v3), (0, v4), (0, v5), (9, 0), (9, 0), (9, 0)] [] (xsetdp (xs σ 214 v1.toNat v6) (xdp (xs σ 214 v1.toNat v6) - 1))).bind fun q1 => X iHouses_visitRest 69 [(2, 209), (0, v1), (0, v2), (0, v3), (0, v4), (0, v5), (0, v6)] [] (xsetdp q1.2 (xdp (xs σ 214 v1.toNat v6))))
    else none)
  else some ((9, 0), σ) :=
  xev_eq (E := xE1) (F := xFk) (P := xPg) (inl := [217]) (stop := [28, 32, 69]) 24 iHouses_visitRest 32 [(2, 209), (0, v1), (0, v2), (0, v3), (0, v4), (0, v5), (0, v6)] [] σ
set_option maxRecDepth 20000 in
theorem qHouses_visitRest_69 (v1 v2 v3 v4 v5 v6 : Int) (σ : xS) : X iHouses_visitRest 69 [(2, 209), (0, v1), (0, v2), (0, v3), (0, v4), (0, v5), (0, v6)] [] σ =
  X iHouses_visitRest 32 [(2, 209), (0, v1), (0, v2), (0, v3), (0, v4), (0, v5), (0, (xw (v6 + 1)))] [] σ :=
  xev_eq (E := xE1) (F := xFk) (P := xPg) (inl := [217]) (stop := [28, 32, 69]) 4 iHouses_visitRest 69 [(2, 209), (0, v1), (0, v2), (0, v3), (0, v4), (0, v5), (0, v6)] [] σ
set_option maxRecDepth 20000 in
theorem qHouses_visitNext_0 (a1 a2 a3 a4 a5 : Int) (σ : xS) : X iHouses_visitNext 0 [(2, 209), (0, a1), (0, a2), (0, a3), (0, a4), (0, a5), (9, 0), (9, 0), (9, 0)] [] σ =
  if xin a1 8 then (if a1 = 0 then ((X iHouses_minutesApart 0 [(2, 209), (0, (-1)), (0, (σ.1 214 a1.toNat)), (9, 0), (9, 0)] [] σ).bind fun q1 => X iHouses_visitNext 32 [(2, 209), (0, a1), (0, a2), (0, a3), (0, a4), (0, a5), (0, (σ.1 214 a1.toNat)), (9, 0), (9, 0)] [q1.1, (0, a4)] q1.2)
    else if xin (xw (a1 - 1)) 8 then ((X iHouses_minutesApart 0 [(2, 209), (0, (σ.1 214 (xw (a1 - 1)).toNat)), (0, (σ.1 214 a1.toNat)), (9, 0), (9, 0)] [] σ).bind fun q2 => X iHouses_visitNext 32 [(2, 209), (0, a1), (0, a2), (0, a3), (0, a4), (0, a5), (0, (σ.1 214 a1.toNat)), (9, 0), (9, 0)] [q2.1, (0, a4)] q2.2)
    else none)
  else none :=
  xev_eq (E := xE1) (F := xFk) (P := xPg) (inl := [173]) (stop := [32, 82]) 19 iHouses_visitNext 0 [(2, 209), (0, a1), (0, a2), (0, a3), (0, a4), (0, a5), (9, 0), (9, 0), (9, 0)] [] σ
set_option maxRecDepth 20000 in
theorem qHouses_visitNext_32 (v1 v2 v3 v5 v6 t0 t1 : Int) (vw4 vw7 vw8 : xAV) (σ : xS) : X iHouses_visitNext 32 [(2, 209), (0, v1), (0, v2), (0, v3), vw4, (0, v5), (0, v6), vw7, vw8] [(0, t0), (0, t1)] σ =
  if xin v6 8 then (if (σ.1 213 v6.toNat) < (xw (t1 + t0)) then (bif Nat.beq (xdp σ) 0 then none
      else (X iHouses_visitRest 0 [(2, 209), (0, (xw (v1 + 1))), (0, (xiand v2 (xixor (xshl 1 v6) (-1)))), (0, v3), (0, (xw ((xw (t1 + t0)) + 5))), (0, (xw (v5 + 1))), (9, 0)] [] (xsetdp σ (xdp σ - 1))).bind fun q1 => X iHouses_visitNext 82 [(2, 209), (0, v1), (0, v2), (0, v3), vw4, (0, v5), (0, v6), (0, (xw (t1 + t0))), (0, (xw (v5 + 1)))] [] (xsetdp q1.2 (xdp σ)))
    else bif Nat.beq (xdp σ) 0 then none
    else (X iHouses_visitRest 0 [(2, 209), (0, (xw (v1 + 1))), (0, (xiand v2 (xixor (xshl 1 v6) (-1)))), (0, v3), (0, (xw ((xw (t1 + t0)) + 5))), (0, (xw (v5 + 0))), (9, 0)] [] (xsetdp σ (xdp σ - 1))).bind fun q2 => X iHouses_visitNext 82 [(2, 209), (0, v1), (0, v2), (0, v3), vw4, (0, v5), (0, v6), (0, (xw (t1 + t0))), (0, (xw (v5 + 0)))] [] (xsetdp q2.2 (xdp σ)))
  else none :=
  xev_eq (E := xE1) (F := xFk) (P := xPg) (inl := [173]) (stop := [32, 82]) 38 iHouses_visitNext 32 [(2, 209), (0, v1), (0, v2), (0, v3), vw4, (0, v5), (0, v6), vw7, vw8] [(0, t0), (0, t1)] σ
set_option maxRecDepth 20000 in
theorem qHouses_visitNext_82 (vw0 vw1 vw2 vw3 vw4 vw5 vw6 vw7 vw8 : xAV) (σ : xS) : X iHouses_visitNext 82 [vw0, vw1, vw2, vw3, vw4, vw5, vw6, vw7, vw8] [] σ =
  some ((9, 0), σ) :=
  xev_eq (E := xE1) (F := xFk) (P := xPg) (inl := [173]) (stop := [32, 82]) 3 iHouses_visitNext 82 [vw0, vw1, vw2, vw3, vw4, vw5, vw6, vw7, vw8] [] σ
set_option maxRecDepth 20000 in
theorem qHouses_goBack_0 (a1 a2 a3 a4 : Int) (σ : xS) : X iHouses_goBack 0 [(2, 209), (0, a1), (0, a2), (0, a3), (0, a4), (9, 0)] [] σ =
  if a1 = 0 then ((X iHouses_minutesApart 0 [(2, 209), (0, (-1)), (0, (-1)), (9, 0), (9, 0)] [] σ).bind fun q1 => X iHouses_goBack 24 [(2, 209), (0, a1), (0, a2), (0, a3), (0, a4), (9, 0)] [q1.1, (0, (xw (a3 - a2)))] q1.2)
  else if xin (xw (a1 - 1)) 8 then ((X iHouses_minutesApart 0 [(2, 209), (0, (σ.1 214 (xw (a1 - 1)).toNat)), (0, (-1)), (9, 0), (9, 0)] [] σ).bind fun q2 => X iHouses_goBack 24 [(2, 209), (0, a1), (0, a2), (0, a3), (0, a4), (9, 0)] [q2.1, (0, (xw (a3 - a2)))] q2.2)
  else none :=
  xev_eq (E := xE1) (F := xFk) (P := xPg) (inl := [217]) (stop := [24]) 16 iHouses_goBack 0 [(2, 209), (0, a1), (0, a2), (0, a3), (0, a4), (9, 0)] [] σ
set_option maxRecDepth 20000 in
theorem qHouses_goBack_24 (v1 v4 t0 t1 : Int) (vw2 vw3 vw5 : xAV) (σ : xS) : X iHouses_goBack 24 [(2, 209), (0, v1), vw2, vw3, (0, v4), vw5] [(0, t0), (0, t1)] σ =
  if v4 < (σ.1 209 7) then (if (((0 : Int) ≤ 0 ∧ (0 : Int) ≤ 0) ∧ (0 : Int) ≤ v1) ∧ (0 + v1 ≤ (8 : Int) ∧ 0 + v1 ≤ (8 : Int)) then some ((9, 0), (xcopy xE1 (xs (xs σ 209 7 v4) 209 8 (xw (t1 + t0))) 214 0 215 0 v1.toNat))
    else none)
  else if v4 = (σ.1 209 7) then (if (xw (t1 + t0)) < (σ.1 209 8) then (if (((0 : Int) ≤ 0 ∧ (0 : Int) ≤ 0) ∧ (0 : Int) ≤ v1) ∧ (0 + v1 ≤ (8 : Int) ∧ 0 + v1 ≤ (8 : Int)) then some ((9, 0), (xcopy xE1 (xs (xs σ 209 7 v4) 209 8 (xw (t1 + t0))) 214 0 215 0 v1.toNat))
      else none)
    else some ((9, 0), σ))
  else some ((9, 0), σ) :=
  xev_eq (E := xE1) (F := xFk) (P := xPg) (inl := [217]) (stop := [24]) 39 iHouses_goBack 24 [(2, 209), (0, v1), vw2, vw3, (0, v4), vw5] [(0, t0), (0, t1)] σ
set_option maxRecDepth 20000 in
theorem qHouses_isBetter_0 (a1 a2 : Int) (σ : xS) : X iHouses_isBetter 0 [(2, 209), (0, a1), (0, a2)] [] σ =
  if a1 < (σ.1 209 7) then some ((0, 1), σ)
  else if a1 = (σ.1 209 7) then (if a2 < (σ.1 209 8) then some ((0, 1), σ)
    else some ((0, 0), σ))
  else some ((0, 0), σ) :=
  xev_eq (E := xE1) (F := xFk) (P := xPg) (inl := []) (stop := []) 17 iHouses_isBetter 0 [(2, 209), (0, a1), (0, a2)] [] σ
set_option maxRecDepth 20000 in
theorem qHouses_minutesApart_0 (a1 a2 : Int) (σ : xS) : X iHouses_minutesApart 0 [(2, 209), (0, a1), (0, a2), (9, 0), (9, 0)] [] σ =
  if a1 = (-1) then (if a2 = (-1) then (if a1 = (-1) then X iHouses_minutesApart 47 [(2, 209), (0, a1), (0, a2), (0, 0), (9, 0)] [(0, 0)] σ
      else if xin a1 8 then X iHouses_minutesApart 47 [(2, 209), (0, a1), (0, a2), (0, 0), (9, 0)] [(0, (σ.1 212 a1.toNat))] σ
      else none)
    else if xin a2 8 then (if a1 = (-1) then X iHouses_minutesApart 47 [(2, 209), (0, a1), (0, a2), (0, (xw (0 - (σ.1 211 a2.toNat)))), (9, 0)] [(0, 0)] σ
      else if xin a1 8 then X iHouses_minutesApart 47 [(2, 209), (0, a1), (0, a2), (0, (xw (0 - (σ.1 211 a2.toNat)))), (9, 0)] [(0, (σ.1 212 a1.toNat))] σ
      else none)
    else none)
  else if xin a1 8 then (if a2 = (-1) then (if a1 = (-1) then X iHouses_minutesApart 47 [(2, 209), (0, a1), (0, a2), (0, (xw ((σ.1 211 a1.toNat) - 0))), (9, 0)] [(0, 0)] σ
      else if xin a1 8 then X iHouses_minutesApart 47 [(2, 209), (0, a1), (0, a2), (0, (xw ((σ.1 211 a1.toNat) - 0))), (9, 0)] [(0, (σ.1 212 a1.toNat))] σ
      else none)
    else if xin a2 8 then (if a1 = (-1) then X iHouses_minutesApart 47 [(2, 209), (0, a1), (0, a2), (0, (xw ((σ.1 211 a1.toNat) - (σ.1 211 a2.toNat)))), (9, 0)] [(0, 0)] σ
      else if xin a1 8 then X iHouses_minutesApart 47 [(2, 209), (0, a1), (0, a2), (0, (xw ((σ.1 211 a1.toNat) - (σ.1 211 a2.toNat)))), (9, 0)] [(0, (σ.1 212 a1.toNat))] σ
      else none)
    else none)
  else none :=
  xev_eq (E := xE1) (F := xFk) (P := xPg) (inl := []) (stop := [47, 62]) 25 iHouses_minutesApart 0 [(2, 209), (0, a1), (0, a2), (9, 0), (9, 0)] [] σ
set_option maxRecDepth 20000 in
theorem qHouses_minutesApart_47 (v2 v3 t0 : Int) (vw1 vw4 : xAV) (σ : xS) : X iHouses_minutesApart 47 [(2, 209), vw1, (0, v2), (0, v3), vw4] [(0, t0)] σ =
  if v2 = (-1) then X iHouses_minutesApart 62 [(2, 209), vw1, (0, v2), (0, v3), vw4] [(0, 0), (0, t0)] σ
  else if xin v2 8 then X iHouses_minutesApart 62 [(2, 209), vw1, (0, v2), (0, v3), vw4] [(0, (σ.1 212 v2.toNat)), (0, t0)] σ
  else none :=
  xev_eq (E := xE1) (F := xFk) (P := xPg) (inl := []) (stop := [47, 62]) 9 iHouses_minutesApart 47 [(2, 209), vw1, (0, v2), (0, v3), vw4] [(0, t0)] σ
set_option maxRecDepth 20000 in
theorem qHouses_minutesApart_62 (v3 t0 t1 : Int) (vw0 vw1 vw2 vw4 : xAV) (σ : xS) : X iHouses_minutesApart 62 [vw0, vw1, vw2, (0, v3), vw4] [(0, t0), (0, t1)] σ =
  some ((0, (xw ((xab 0 v3) + (xab 0 (xw (t1 - t0)))))), σ) :=
  xev_eq (E := xE1) (F := xFk) (P := xPg) (inl := []) (stop := [47, 62]) 10 iHouses_minutesApart 62 [vw0, vw1, vw2, (0, v3), vw4] [(0, t0), (0, t1)] σ
set_option maxRecDepth 20000 in
theorem qJI_bitCount_0 (a0 : Int) (σ : xS) : X iJI_bitCount 0 [(0, a0)] [] σ =
  some ((0, (xiand (xw ((xw ((xiand (xw ((xw ((xiand (xw (a0 - (xiand (xushr a0 1) 1431655765))) 858993459) + (xiand (xushr (xw (a0 - (xiand (xushr a0 1) 1431655765))) 2) 858993459))) + (xushr (xw ((xiand (xw (a0 - (xiand (xushr a0 1) 1431655765))) 858993459) + (xiand (xushr (xw (a0 - (xiand (xushr a0 1) 1431655765))) 2) 858993459))) 4))) 252645135) + (xushr (xiand (xw ((xw ((xiand (xw (a0 - (xiand (xushr a0 1) 1431655765))) 858993459) + (xiand (xushr (xw (a0 - (xiand (xushr a0 1) 1431655765))) 2) 858993459))) + (xushr (xw ((xiand (xw (a0 - (xiand (xushr a0 1) 1431655765))) 858993459) + (xiand (xushr (xw (a0 - (xiand (xushr a0 1) 1431655765))) 2) 858993459))) 4))) 252645135) 8))) + (xushr (xw ((xiand (xw ((xw ((xiand (xw (a0 - (xiand (xushr a0 1) 1431655765))) 858993459) + (xiand (xushr (xw (a0 - (xiand (xushr a0 1) 1431655765))) 2) 858993459))) + (xushr (xw ((xiand (xw (a0 - (xiand (xushr a0 1) 1431655765))) 858993459) + (xiand (xushr (xw (a0 - (xiand (xushr a0 1) 1431655765))) 2) 858993459))) 4))) 252645135) + (xushr (xiand (xw ((xw ((xiand (xw (a0 - (xiand (xushr a0 1) 1431655765))) 858993459) + (xiand (xushr (xw (a0 - (xiand (xushr a0 1) 1431655765))) 2) 858993459))) + (xushr (xw ((xiand (xw (a0 - (xiand (xushr a0 1) 1431655765))) 858993459) + (xiand (xushr (xw (a0 - (xiand (xushr a0 1) 1431655765))) 2) 858993459))) 4))) 252645135) 8))) 16))) 63)), σ) :=
  xev_eq (E := xE1) (F := xFk) (P := xPg) (inl := []) (stop := []) 44 iJI_bitCount 0 [(0, a0)] [] σ

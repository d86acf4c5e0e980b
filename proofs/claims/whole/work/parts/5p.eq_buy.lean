/-! equations, written by a program (wip/whole/gen) -/
set_option maxRecDepth 20000 in
theorem qM_costOf_0 (a1 a2 a3 : Int) (σ : xS) : X iM_costOf 0 [(2, 305), (0, a1), (0, a2), (0, a3), (9, 0), (9, 0), (9, 0)] [] σ =
  if xin a1 11 then (if (xw ((σ.1 390 a1.toNat) + (xw ((σ.1 305 121) * (xw (a2 + a3)))))) < 0 then some ((1, (-1)), σ)
    else if xin (xw ((xw ((xw (51 * (xw (a1 + 1)))) + a2)) + a3)) 561 then (if (σ.1 391 (xw ((xw ((xw (51 * (xw (a1 + 1)))) + a2)) + a3)).toNat) < 0 then some ((1, (-1)), σ)
      else some ((1, (xW ((xW ((σ.1 391 (xw ((xw ((xw (51 * (xw (a1 + 1)))) + a2)) + a3)).toNat) + (xW ((σ.1 305 122) * a3)))) + (xW ((σ.1 305 123) * (xw ((σ.1 390 a1.toNat) + (xw ((σ.1 305 121) * (xw (a2 + a3))))))))))), σ))
    else none)
  else none :=
  xev_eq (E := xE1) (F := xFk) (P := xPg) (inl := []) (stop := []) 48 iM_costOf 0 [(2, 305), (0, a1), (0, a2), (0, a3), (9, 0), (9, 0), (9, 0)] [] σ
set_option maxRecDepth 20000 in
theorem qM_buy_0 (a1 a2 a3 : Int) (σ : xS) : X iM_buy 0 [(2, 305), (0, a1), (0, a2), (0, a3), (9, 0), (9, 0), (9, 0), (9, 0), (9, 0), (9, 0), (9, 0), (9, 0)] [] σ =
  if a1 < 0 then some ((0, (-1)), σ)
  else if a1 < (σ.1 305 6) then (if a2 < 1 then some ((0, (-1)), σ)
    else if 10 < a2 then some ((0, (-1)), σ)
    else if a3 < 0 then some ((0, (-1)), σ)
    else if a2 < a3 then some ((0, (-1)), σ)
    else (X iM_manyAt 0 [(2, 305), (0, 0), (0, a1), (0, (σ.1 305 0)), (0, (σ.1 305 0)), (9, 0), (9, 0)] [] σ).bind fun q1 => X iM_buy 43 [(2, 305), (0, a1), (0, a2), (0, a3), (9, 0), (9, 0), (9, 0), (9, 0), (9, 0), (9, 0), (9, 0), (9, 0)] [q1.1] q1.2)
  else some ((0, (-1)), σ) :=
  xev_eq (E := xE1) (F := xFk) (P := xPg) (inl := [1, 5]) (stop := [43, 48, 82, 98, 120, 151, 159, 176, 192, 287, 296, 306]) 42 iM_buy 0 [(2, 305), (0, a1), (0, a2), (0, a3), (9, 0), (9, 0), (9, 0), (9, 0), (9, 0), (9, 0), (9, 0), (9, 0)] [] σ
set_option maxRecDepth 20000 in
theorem qM_buy_43 (v1 v2 v3 t0 : Int) (vw4 vw5 vw6 vw7 vw8 vw9 vw10 vw11 : xAV) (σ : xS) : X iM_buy 43 [(2, 305), (0, v1), (0, v2), (0, v3), vw4, vw5, vw6, vw7, vw8, vw9, vw10, vw11] [(0, t0)] σ =
  X iM_buy 48 [(2, 305), (0, v1), (0, v2), (0, v3), (0, t0), (0, 0), vw6, vw7, vw8, vw9, vw10, vw11] [] σ :=
  xev_eq (E := xE1) (F := xFk) (P := xPg) (inl := [1, 5]) (stop := [43, 48, 82, 98, 120, 151, 159, 176, 192, 287, 296, 306]) 5 iM_buy 43 [(2, 305), (0, v1), (0, v2), (0, v3), vw4, vw5, vw6, vw7, vw8, vw9, vw10, vw11] [(0, t0)] σ
set_option maxRecDepth 20000 in
theorem qM_buy_48 (v1 v2 v3 v4 v5 : Int) (vw6 vw7 vw8 vw9 vw10 vw11 : xAV) (σ : xS) : X iM_buy 48 [(2, 305), (0, v1), (0, v2), (0, v3), (0, v4), (0, v5), vw6, vw7, vw8, vw9, vw10, vw11] [] σ =
  if v5 < v2 then (if v5 < (σ.1 305 124) then ((X iM_wantedOn 0 [(2, 305), (0, v1), (0, (xw ((σ.1 305 0) + v5))), (9, 0), (9, 0), (9, 0), (9, 0), (9, 0), (9, 0)] [] σ).bind fun q1 => X iM_buy 98 [(2, 305), (0, v1), (0, v2), (0, v3), (0, v4), (0, v5), vw6, vw7, vw8, vw9, vw10, vw11] [q1.1, (0, 0), (0, v4)] q1.2)
    else (X iM_wantedOn 0 [(2, 305), (0, v1), (0, (xw ((xw ((σ.1 305 0) + v5)) - (σ.1 305 124)))), (9, 0), (9, 0), (9, 0), (9, 0), (9, 0), (9, 0)] [] σ).bind fun q2 => X iM_buy 82 [(2, 305), (0, v1), (0, v2), (0, v3), (0, v4), (0, v5), vw6, vw7, vw8, vw9, vw10, vw11] [q2.1, (0, v4)] q2.2)
  else X iM_buy 120 [(2, 305), (0, v1), (0, v2), (0, v3), (0, v4), (0, 0), vw6, vw7, vw8, vw9, vw10, vw11] [] σ :=
  xev_eq (E := xE1) (F := xFk) (P := xPg) (inl := [1, 5]) (stop := [43, 48, 82, 98, 120, 151, 159, 176, 192, 287, 296, 306]) 20 iM_buy 48 [(2, 305), (0, v1), (0, v2), (0, v3), (0, v4), (0, v5), vw6, vw7, vw8, vw9, vw10, vw11] [] σ
set_option maxRecDepth 20000 in
theorem qM_buy_82 (v1 v2 v3 v5 t0 t1 : Int) (vw4 vw6 vw7 vw8 vw9 vw10 vw11 : xAV) (σ : xS) : X iM_buy 82 [(2, 305), (0, v1), (0, v2), (0, v3), vw4, (0, v5), vw6, vw7, vw8, vw9, vw10, vw11] [(0, t0), (0, t1)] σ =
  (X iM_wantedOn 0 [(2, 305), (0, v1), (0, (xw ((σ.1 305 0) + v5))), (9, 0), (9, 0), (9, 0), (9, 0), (9, 0), (9, 0)] [] σ).bind fun q1 => X iM_buy 98 [(2, 305), (0, v1), (0, v2), (0, v3), vw4, (0, v5), vw6, vw7, vw8, vw9, vw10, vw11] [q1.1, (0, t0), (0, t1)] q1.2 :=
  xev_eq (E := xE1) (F := xFk) (P := xPg) (inl := [1, 5]) (stop := [43, 48, 82, 98, 120, 151, 159, 176, 192, 287, 296, 306]) 10 iM_buy 82 [(2, 305), (0, v1), (0, v2), (0, v3), vw4, (0, v5), vw6, vw7, vw8, vw9, vw10, vw11] [(0, t0), (0, t1)] σ
set_option maxRecDepth 20000 in
theorem qM_buy_98 (v1 v2 v3 v5 t0 t1 t2 : Int) (vw4 vw6 vw7 vw8 vw9 vw10 vw11 : xAV) (σ : xS) : X iM_buy 98 [(2, 305), (0, v1), (0, v2), (0, v3), vw4, (0, v5), vw6, vw7, vw8, vw9, vw10, vw11] [(0, t0), (0, t1), (0, t2)] σ =
  if xin v5 11 then X iM_buy 48 [(2, 305), (0, v1), (0, v2), (0, v3), (0, (xw (t2 + (xw (t1 - t0))))), (0, (xw (v5 + 1))), vw6, vw7, vw8, vw9, vw10, vw11] [] (xs σ 390 v5.toNat (xw (t2 + (xw (t1 - t0)))))
  else none :=
  xev_eq (E := xE1) (F := xFk) (P := xPg) (inl := [1, 5]) (stop := [43, 48, 82, 98, 120, 151, 159, 176, 192, 287, 296, 306]) 12 iM_buy 98 [(2, 305), (0, v1), (0, v2), (0, v3), vw4, (0, v5), vw6, vw7, vw8, vw9, vw10, vw11] [(0, t0), (0, t1), (0, t2)] σ
set_option maxRecDepth 20000 in
theorem qM_buy_120 (v2 v3 v5 : Int) (vw1 vw4 vw6 vw7 vw8 vw9 vw10 vw11 : xAV) (σ : xS) : X iM_buy 120 [(2, 305), vw1, (0, v2), (0, v3), vw4, (0, v5), vw6, vw7, vw8, vw9, vw10, vw11] [] σ =
  if 50 < v5 then X iM_buy 151 [(2, 305), vw1, (0, v2), (0, v3), (xkl vw4), (0, (xw (v2 - 1))), vw6, vw7, vw8, vw9, vw10, vw11] [] σ
  else if xin (xw ((xw (51 * v2)) + v5)) 561 then X iM_buy 120 [(2, 305), vw1, (0, v2), (0, v3), vw4, (0, (xw (v5 + 1))), vw6, vw7, vw8, vw9, vw10, vw11] [] (xs σ 391 (xw ((xw (51 * v2)) + v5)).toNat 0)
  else none :=
  xev_eq (E := xE1) (F := xFk) (P := xPg) (inl := [1, 5]) (stop := [43, 48, 82, 98, 120, 151, 159, 176, 192, 287, 296, 306]) 16 iM_buy 120 [(2, 305), vw1, (0, v2), (0, v3), vw4, (0, v5), vw6, vw7, vw8, vw9, vw10, vw11] [] σ
set_option maxRecDepth 20000 in
theorem qM_buy_151 (v3 v5 : Int) (vw1 vw2 vw4 vw6 vw7 vw8 vw9 vw10 vw11 : xAV) (σ : xS) : X iM_buy 151 [(2, 305), vw1, vw2, (0, v3), vw4, (0, v5), vw6, vw7, vw8, vw9, vw10, vw11] [] σ =
  if v5 < 0 then (if (σ.1 391 0) < 0 then some ((0, (-1)), σ)
    else if v3 = 0 then some ((0, (xw (σ.1 391 0))), σ)
    else X iM_buy 287 [(2, 305), vw1, vw2, (0, v3), (xkl vw4), (0, 0), (0, 0), (0, 0), vw8, vw9, vw10, vw11] [] σ)
  else X iM_buy 159 [(2, 305), vw1, vw2, (0, v3), vw4, (0, v5), (0, 0), vw7, vw8, vw9, vw10, vw11] [] σ :=
  xev_eq (E := xE1) (F := xFk) (P := xPg) (inl := [1, 5]) (stop := [43, 48, 82, 98, 120, 151, 159, 176, 192, 287, 296, 306]) 18 iM_buy 151 [(2, 305), vw1, vw2, (0, v3), vw4, (0, v5), vw6, vw7, vw8, vw9, vw10, vw11] [] σ
set_option maxRecDepth 20000 in
theorem qM_buy_159 (v3 v5 v6 : Int) (vw1 vw2 vw4 vw7 vw8 vw9 vw10 vw11 : xAV) (σ : xS) : X iM_buy 159 [(2, 305), vw1, vw2, (0, v3), vw4, (0, v5), (0, v6), vw7, vw8, vw9, vw10, vw11] [] σ =
  if (xw (5 * v5)) < v6 then X iM_buy 151 [(2, 305), vw1, vw2, (0, v3), vw4, (0, (xw (v5 + (-1)))), (0, v6), vw7, vw8, vw9, vw10, vw11] [] σ
  else X iM_buy 176 [(2, 305), vw1, vw2, (0, v3), vw4, (0, v5), (0, v6), (1, (-1)), (8, 0), (0, 0), vw10, vw11] [] σ :=
  xev_eq (E := xE1) (F := xFk) (P := xPg) (inl := [1, 5]) (stop := [43, 48, 82, 98, 120, 151, 159, 176, 192, 287, 296, 306]) 11 iM_buy 159 [(2, 305), vw1, vw2, (0, v3), vw4, (0, v5), (0, v6), vw7, vw8, vw9, vw10, vw11] [] σ
set_option maxRecDepth 20000 in
theorem qM_buy_176 (v3 v5 v6 v7 v9 : Int) (vw1 vw2 vw4 vw10 vw11 : xAV) (σ : xS) : X iM_buy 176 [(2, 305), vw1, vw2, (0, v3), vw4, (0, v5), (0, v6), (1, v7), (8, 0), (0, v9), vw10, vw11] [] σ =
  if 5 < v9 then (if xin (xw ((xw (51 * v5)) + v6)) 561 then X iM_buy 159 [(2, 305), vw1, vw2, (0, v3), vw4, (0, v5), (0, (xw (v6 + 1))), (1, v7), (8, 0), (0, v9), vw10, vw11] [] (xs σ 391 (xw ((xw (51 * v5)) + v6)).toNat v7)
    else none)
  else (X iM_costOf 0 [(2, 305), (0, v5), (0, v6), (0, v9), (9, 0), (9, 0), (9, 0)] [] σ).bind fun q1 => X iM_buy 192 [(2, 305), vw1, vw2, (0, v3), vw4, (0, v5), (0, v6), (1, v7), (8, 0), (0, v9), vw10, vw11] [q1.1] q1.2 :=
  xev_eq (E := xE1) (F := xFk) (P := xPg) (inl := [1, 5]) (stop := [43, 48, 82, 98, 120, 151, 159, 176, 192, 287, 296, 306]) 16 iM_buy 176 [(2, 305), vw1, vw2, (0, v3), vw4, (0, v5), (0, v6), (1, v7), (8, 0), (0, v9), vw10, vw11] [] σ
set_option maxRecDepth 20000 in
theorem qM_buy_192 (v3 v5 v6 v7 v9 t0 : Int) (vw1 vw2 vw4 vw10 vw11 : xAV) (σ : xS) : X iM_buy 192 [(2, 305), vw1, vw2, (0, v3), vw4, (0, v5), (0, v6), (1, v7), (8, 0), (0, v9), vw10, vw11] [(1, t0)] σ =
  if t0 < 0 then X iM_buy 176 [(2, 305), vw1, vw2, (0, v3), vw4, (0, v5), (0, v6), (1, v7), (8, 0), (0, (xw (v9 + 1))), (1, t0), (8, 0)] [] σ
  else if v7 < 0 then X iM_buy 176 [(2, 305), vw1, vw2, (0, v3), vw4, (0, v5), (0, v6), (1, t0), (8, 0), (0, (xw (v9 + 1))), (1, t0), (8, 0)] [] σ
  else if t0 < v7 then X iM_buy 176 [(2, 305), vw1, vw2, (0, v3), vw4, (0, v5), (0, v6), (1, t0), (8, 0), (0, (xw (v9 + 1))), (1, t0), (8, 0)] [] σ
  else X iM_buy 176 [(2, 305), vw1, vw2, (0, v3), vw4, (0, v5), (0, v6), (1, v7), (8, 0), (0, (xw (v9 + 1))), (1, t0), (8, 0)] [] σ :=
  xev_eq (E := xE1) (F := xFk) (P := xPg) (inl := [1, 5]) (stop := [43, 48, 82, 98, 120, 151, 159, 176, 192, 287, 296, 306]) 16 iM_buy 192 [(2, 305), vw1, vw2, (0, v3), vw4, (0, v5), (0, v6), (1, v7), (8, 0), (0, v9), vw10, vw11] [(1, t0)] σ
set_option maxRecDepth 20000 in
theorem qM_buy_287 (v3 v5 v6 v7 : Int) (vw1 vw2 vw4 vw8 vw9 vw10 vw11 : xAV) (σ : xS) : X iM_buy 287 [(2, 305), vw1, vw2, (0, v3), vw4, (0, v5), (0, v6), (0, v7), vw8, vw9, vw10, vw11] [] σ =
  if v7 < v3 then X iM_buy 296 [(2, 305), vw1, vw2, (0, v3), vw4, (0, v5), (0, v6), (0, v7), (0, 0), vw9, vw10, vw11] [] σ
  else some ((0, v6), σ) :=
  xev_eq (E := xE1) (F := xFk) (P := xPg) (inl := [1, 5]) (stop := [43, 48, 82, 98, 120, 151, 159, 176, 192, 287, 296, 306]) 7 iM_buy 287 [(2, 305), vw1, vw2, (0, v3), vw4, (0, v5), (0, v6), (0, v7), vw8, vw9, vw10, vw11] [] σ
set_option maxRecDepth 20000 in
theorem qM_buy_296 (v3 v5 v7 v8 : Int) (vw1 vw2 vw4 vw6 vw9 vw10 vw11 : xAV) (σ : xS) : X iM_buy 296 [(2, 305), vw1, vw2, (0, v3), vw4, (0, v5), vw6, (0, v7), (0, v8), vw9, vw10, vw11] [] σ =
  (X iM_costOf 0 [(2, 305), (0, v7), (0, v5), (0, v8), (9, 0), (9, 0), (9, 0)] [] σ).bind fun q1 => X iM_buy 306 [(2, 305), vw1, vw2, (0, v3), vw4, (0, v5), vw6, (0, v7), (0, v8), vw9, vw10, vw11] [q1.1] q1.2 :=
  xev_eq (E := xE1) (F := xFk) (P := xPg) (inl := [1, 5]) (stop := [43, 48, 82, 98, 120, 151, 159, 176, 192, 287, 296, 306]) 7 iM_buy 296 [(2, 305), vw1, vw2, (0, v3), vw4, (0, v5), vw6, (0, v7), (0, v8), vw9, vw10, vw11] [] σ
set_option maxRecDepth 20000 in
theorem qM_buy_306 (v3 v5 v7 v8 t0 : Int) (vw1 vw2 vw4 vw6 vw9 vw10 vw11 : xAV) (σ : xS) : X iM_buy 306 [(2, 305), vw1, vw2, (0, v3), vw4, (0, v5), vw6, (0, v7), (0, v8), vw9, vw10, vw11] [(1, t0)] σ =
  if xin (xw ((xw (51 * v7)) + v5)) 561 then (if t0 = (σ.1 391 (xw ((xw (51 * v7)) + v5)).toNat) then X iM_buy 287 [(2, 305), vw1, vw2, (0, v3), (xkl vw4), (0, (xw (v5 + v8))), (0, v8), (0, (xw (v7 + 1))), (0, v8), vw9, vw10, vw11] [] σ
    else X iM_buy 296 [(2, 305), vw1, vw2, (0, v3), vw4, (0, v5), vw6, (0, v7), (0, (xw (v8 + 1))), vw9, vw10, vw11] [] σ)
  else none :=
  xev_eq (E := xE1) (F := xFk) (P := xPg) (inl := [1, 5]) (stop := [43, 48, 82, 98, 120, 151, 159, 176, 192, 287, 296, 306]) 19 iM_buy 306 [(2, 305), vw1, vw2, (0, v3), vw4, (0, v5), vw6, (0, v7), (0, v8), vw9, vw10, vw11] [(1, t0)] σ
set_option maxRecDepth 20000 in
theorem qC_buy_0 (a1 a2 a3 : Int) (σ : xS) : X iC_buy 0 [(2, 200), (0, a1), (0, a2), (0, a3), (9, 0)] [] σ =
  if a1 < 0 then some ((0, (-1)), σ)
  else if (xw ((σ.1 201 5) - 1)) < a1 then some ((0, (-1)), σ)
  else if a2 < 1 then some ((0, (-1)), σ)
  else if 10 < a2 then some ((0, (-1)), σ)
  else if a3 < 0 then some ((0, (-1)), σ)
  else if a2 < a3 then some ((0, (-1)), σ)
  else X iC_buy 35 [(2, 200), (0, a1), (0, a2), (0, a3), (0, 0)] [] σ :=
  xev_eq (E := xE1) (F := xFk) (P := xPg) (inl := [172, 307, 318, 319]) (stop := [35, 68, 103, 106, 142]) 54 iC_buy 0 [(2, 200), (0, a1), (0, a2), (0, a3), (9, 0)] [] σ
set_option maxRecDepth 20000 in
theorem qC_buy_35 (v1 v2 v3 v4 : Int) (σ : xS) : X iC_buy 35 [(2, 200), (0, v1), (0, v2), (0, v3), (0, v4)] [] σ =
  if v4 < v2 then ((X iLedger_wantedOn 0 [(2, 243), (0, v1), (0, (xw ((σ.1 216 0) + v4))), (9, 0), (9, 0), (9, 0), (9, 0), (9, 0), (9, 0), (9, 0)] [] σ).bind fun q1 => X iC_buy 68 [(2, 200), (0, v1), (0, v2), (0, v3), (0, v4)] [q1.1, (0, v4), (2, 273)] q1.2)
  else (X iBook_manyAt 0 [(2, 216), (0, 0), (0, v1), (0, (σ.1 216 0)), (0, (σ.1 216 0)), (9, 0), (9, 0)] [] σ).bind fun q2 => X iC_buy 103 [(2, 200), (0, v1), (0, v2), (0, v3), (0, v4)] [q2.1, (0, v2), (2, 272)] q2.2 :=
  xev_eq (E := xE1) (F := xFk) (P := xPg) (inl := [172, 307, 318, 319]) (stop := [35, 68, 103, 106, 142]) 19 iC_buy 35 [(2, 200), (0, v1), (0, v2), (0, v3), (0, v4)] [] σ
set_option maxRecDepth 20000 in
theorem qC_buy_68 (v1 v2 v3 v4 t0 t1 : Int) (σ : xS) : X iC_buy 68 [(2, 200), (0, v1), (0, v2), (0, v3), (0, v4)] [(0, t0), (0, t1), (2, 273)] σ =
  if xin t1 10 then X iC_buy 35 [(2, 200), (0, v1), (0, v2), (0, v3), (0, (xw (v4 + 1)))] [] (xs σ 273 t1.toNat t0)
  else none :=
  xev_eq (E := xE1) (F := xFk) (P := xPg) (inl := [172, 307, 318, 319]) (stop := [35, 68, 103, 106, 142]) 5 iC_buy 68 [(2, 200), (0, v1), (0, v2), (0, v3), (0, v4)] [(0, t0), (0, t1), (2, 273)] σ
set_option maxRecDepth 20000 in
theorem qC_buy_103 (v3 t0 t1 : Int) (vw1 vw2 vw4 : xAV) (σ : xS) : X iC_buy 103 [(2, 200), vw1, vw2, (0, v3), vw4] [(0, t0), (0, t1), (2, 272)] σ =
  (X iSupply_plan 0 [(2, 272), (0, t1), (0, t0), (9, 0), (9, 0), (9, 0)] [] σ).bind fun q1 => X iC_buy 106 [(2, 200), vw1, vw2, (0, v3), vw4] [] q1.2 :=
  xev_eq (E := xE1) (F := xFk) (P := xPg) (inl := [172, 307, 318, 319]) (stop := [35, 68, 103, 106, 142]) 3 iC_buy 103 [(2, 200), vw1, vw2, (0, v3), vw4] [(0, t0), (0, t1), (2, 272)] σ
set_option maxRecDepth 20000 in
theorem qC_buy_106 (v3 : Int) (vw1 vw2 vw4 : xAV) (σ : xS) : X iC_buy 106 [(2, 200), vw1, vw2, (0, v3), vw4] [] σ =
  if (σ.1 275 0) < 1000000000 then (if v3 = 0 then X iC_buy 142 [(2, 200), vw1, vw2, (0, v3), vw4] [(0, (σ.1 275 0))] σ
    else (X iSupply_lotsOn 0 [(2, 272), (0, (xw (v3 - 1))), (9, 0), (9, 0)] [] σ).bind fun q1 => X iC_buy 142 [(2, 200), vw1, vw2, (0, v3), vw4] [q1.1] q1.2)
  else some ((0, (-1)), σ) :=
  xev_eq (E := xE1) (F := xFk) (P := xPg) (inl := [172, 307, 318, 319]) (stop := [35, 68, 103, 106, 142]) 30 iC_buy 106 [(2, 200), vw1, vw2, (0, v3), vw4] [] σ
set_option maxRecDepth 20000 in
theorem qC_buy_142 (t0 : Int) (vw0 vw1 vw2 vw3 vw4 : xAV) (σ : xS) : X iC_buy 142 [vw0, vw1, vw2, vw3, vw4] [(0, t0)] σ =
  some ((0, t0), σ) :=
  xev_eq (E := xE1) (F := xFk) (P := xPg) (inl := [172, 307, 318, 319]) (stop := [35, 68, 103, 106, 142]) 3 iC_buy 142 [vw0, vw1, vw2, vw3, vw4] [(0, t0)] σ
set_option maxRecDepth 20000 in
theorem qSupply_plan_0 (a1 a2 : Int) (σ : xS) : X iSupply_plan 0 [(2, 272), (0, a1), (0, a2), (9, 0), (9, 0), (9, 0)] [] σ =
  if xin a1 11 then ((X iJR_fill1 0 [(2, (xag xE1 σ 274 a1.toNat)), (0, 0), (9, 0), (9, 0)] [] σ).bind fun q1 => X iSupply_plan 10 [(2, 272), (0, a1), (0, a2), (9, 0), (9, 0), (9, 0)] [] q1.2)
  else none :=
  xev_eq (E := xE1) (F := xFk) (P := xPg) (inl := []) (stop := [10, 14, 24, 81, 106]) 8 iSupply_plan 0 [(2, 272), (0, a1), (0, a2), (9, 0), (9, 0), (9, 0)] [] σ
set_option maxRecDepth 20000 in
theorem qSupply_plan_10 (v1 v2 : Int) (vw3 vw4 vw5 : xAV) (σ : xS) : X iSupply_plan 10 [(2, 272), (0, v1), (0, v2), vw3, vw4, vw5] [] σ =
  X iSupply_plan 14 [(2, 272), (0, v1), (0, v2), (0, (xw (v1 - 1))), vw4, vw5] [] σ :=
  xev_eq (E := xE1) (F := xFk) (P := xPg) (inl := []) (stop := [10, 14, 24, 81, 106]) 6 iSupply_plan 10 [(2, 272), (0, v1), (0, v2), vw3, vw4, vw5] [] σ
set_option maxRecDepth 20000 in
theorem qSupply_plan_14 (v2 v3 : Int) (vw1 vw4 vw5 : xAV) (σ : xS) : X iSupply_plan 14 [(2, 272), vw1, (0, v2), (0, v3), vw4, vw5] [] σ =
  if v3 < 0 then some ((9, 0), σ)
  else X iSupply_plan 24 [(2, 272), vw1, (0, v2), (0, v3), (0, v2), (0, 0)] [] σ :=
  xev_eq (E := xE1) (F := xFk) (P := xPg) (inl := []) (stop := [10, 14, 24, 81, 106]) 8 iSupply_plan 14 [(2, 272), vw1, (0, v2), (0, v3), vw4, vw5] [] σ
set_option maxRecDepth 20000 in
theorem qSupply_plan_24 (v2 v3 v4 v5 : Int) (vw1 : xAV) (σ : xS) : X iSupply_plan 24 [(2, 272), vw1, (0, v2), (0, v3), (0, v4), (0, v5)] [] σ =
  if v3 < v5 then X iSupply_plan 81 [(2, 272), vw1, (0, v2), (0, v3), (0, v4), (0, 0)] [] σ
  else if xin v5 10 then (if v5 < (σ.1 272 3) then X iSupply_plan 24 [(2, 272), vw1, (0, v2), (0, v3), (0, (xw ((xw (v4 - (σ.1 273 v5.toNat))) + 0))), (0, (xw (v5 + 1)))] [] σ
    else if xin (xw (v5 - (σ.1 272 3))) 10 then X iSupply_plan 24 [(2, 272), vw1, (0, v2), (0, v3), (0, (xw ((xw (v4 - (σ.1 273 v5.toNat))) + (σ.1 273 (xw (v5 - (σ.1 272 3))).toNat)))), (0, (xw (v5 + 1)))] [] σ
    else none)
  else none :=
  xev_eq (E := xE1) (F := xFk) (P := xPg) (inl := []) (stop := [10, 14, 24, 81, 106]) 29 iSupply_plan 24 [(2, 272), vw1, (0, v2), (0, v3), (0, v4), (0, v5)] [] σ
set_option maxRecDepth 20000 in
theorem qSupply_plan_81 (v2 v3 v4 v5 : Int) (vw1 : xAV) (σ : xS) : X iSupply_plan 81 [(2, 272), vw1, (0, v2), (0, v3), (0, v4), (0, v5)] [] σ =
  if (xw (v3 * 5)) < v5 then X iSupply_plan 14 [(2, 272), vw1, (0, v2), (0, (xw (v3 + (-1)))), (0, v4), (0, v5)] [] σ
  else (X iSupply_choose 0 [(2, 272), (0, v3), (0, v5), (0, (xw (v4 + (xw (v5 * (σ.1 272 0)))))), (9, 0), (9, 0), (9, 0)] [] σ).bind fun q1 => X iSupply_plan 106 [(2, 272), vw1, (0, v2), (0, v3), (0, v4), (0, v5)] [] q1.2 :=
  xev_eq (E := xE1) (F := xFk) (P := xPg) (inl := []) (stop := [10, 14, 24, 81, 106]) 17 iSupply_plan 81 [(2, 272), vw1, (0, v2), (0, v3), (0, v4), (0, v5)] [] σ
set_option maxRecDepth 20000 in
theorem qSupply_plan_106 (v2 v3 v4 v5 : Int) (vw1 : xAV) (σ : xS) : X iSupply_plan 106 [(2, 272), vw1, (0, v2), (0, v3), (0, v4), (0, v5)] [] σ =
  X iSupply_plan 81 [(2, 272), vw1, (0, v2), (0, v3), (0, v4), (0, (xw (v5 + 1)))] [] σ :=
  xev_eq (E := xE1) (F := xFk) (P := xPg) (inl := []) (stop := [10, 14, 24, 81, 106]) 4 iSupply_plan 106 [(2, 272), vw1, (0, v2), (0, v3), (0, v4), (0, v5)] [] σ
set_option maxRecDepth 20000 in
theorem qSupply_choose_0 (a1 a2 a3 : Int) (σ : xS) : X iSupply_choose 0 [(2, 272), (0, a1), (0, a2), (0, a3), (9, 0), (9, 0), (9, 0)] [] σ =
  if xin a1 11 then (xob (xarr xE1 σ (xag xE1 σ 274 a1.toNat) 0) none fun n1 => if xin a2 n1 then (xob (xwr xE1 σ (xag xE1 σ 274 a1.toNat) a2.toNat 1000000000) none fun s2 => X iSupply_choose 13 [(2, 272), (0, a1), (0, a2), (0, a3), (0, 0), (9, 0), (9, 0)] [] s2)
    else none)
  else none :=
  xev_eq (E := xE1) (F := xFk) (P := xPg) (inl := []) (stop := [13]) 11 iSupply_choose 0 [(2, 272), (0, a1), (0, a2), (0, a3), (9, 0), (9, 0), (9, 0)] [] σ
set_option maxRecDepth 20000 in
theorem qSupply_choose_13 (v1 v2 v3 v4 : Int) (vw5 vw6 : xAV) (σ : xS) : X iSupply_choose 13 [(2, 272), (0, v1), (0, v2), (0, v3), (0, v4), vw5, vw6] [] σ =
  if 5 < v4 then some ((9, 0), σ)
  else if xin (xw (v1 + 1)) 11 then (xob (xarr xE1 σ (xag xE1 σ 274 (xw (v1 + 1)).toNat) 0) none fun n1 => if xin (xw (v2 + v4)) n1 then (if (xw (v3 + (xw (v4 * (σ.1 272 0))))) < 0 then X iSupply_choose 13 [(2, 272), (0, v1), (0, v2), (0, v3), (0, (xw (v4 + 1))), (0, (xw (v3 + (xw (v4 * (σ.1 272 0)))))), (0, (xag xE1 σ (xag xE1 σ 274 (xw (v1 + 1)).toNat) (xw (v2 + v4)).toNat))] [] σ
      else if (xag xE1 σ (xag xE1 σ 274 (xw (v1 + 1)).toNat) (xw (v2 + v4)).toNat) < 1000000000 then (if xin v1 11 then (xob (xarr xE1 σ (xag xE1 σ 274 v1.toNat) 0) none fun n2 => if xin v2 n2 then (if (xw ((xw ((xw (v4 * (σ.1 272 1))) + (xw ((xw (v3 + (xw (v4 * (σ.1 272 0))))) * (σ.1 272 2))))) + (xag xE1 σ (xag xE1 σ 274 (xw (v1 + 1)).toNat) (xw (v2 + v4)).toNat))) < (xag xE1 σ (xag xE1 σ 274 v1.toNat) v2.toNat) then (if xin v1 11 then (xob (xarr xE1 σ (xag xE1 σ 274 v1.toNat) 0) none fun n3 => if xin v2 n3 then (xob (xwr xE1 σ (xag xE1 σ 274 v1.toNat) v2.toNat (xw ((xw ((xw (v4 * (σ.1 272 1))) + (xw ((xw (v3 + (xw (v4 * (σ.1 272 0))))) * (σ.1 272 2))))) + (xag xE1 σ (xag xE1 σ 274 (xw (v1 + 1)).toNat) (xw (v2 + v4)).toNat)))) none fun s4 => if xin v1 10 then (xob (xarr xE1 s4 (xag xE1 s4 286 v1.toNat) 0) none fun n5 => if xin v2 n5 then (xob (xwr xE1 s4 (xag xE1 s4 286 v1.toNat) v2.toNat v4) none fun s6 => X iSupply_choose 13 [(2, 272), (0, v1), (0, v2), (0, v3), (0, (xw (v4 + 1))), (0, (xw (v3 + (xw (v4 * (σ.1 272 0)))))), (0, (xag xE1 σ (xag xE1 σ 274 (xw (v1 + 1)).toNat) (xw (v2 + v4)).toNat))] [] s6)
                    else none)
                  else none)
                else none)
              else none)
            else X iSupply_choose 13 [(2, 272), (0, v1), (0, v2), (0, v3), (0, (xw (v4 + 1))), (0, (xw (v3 + (xw (v4 * (σ.1 272 0)))))), (0, (xag xE1 σ (xag xE1 σ 274 (xw (v1 + 1)).toNat) (xw (v2 + v4)).toNat))] [] σ)
          else none)
        else none)
      else X iSupply_choose 13 [(2, 272), (0, v1), (0, v2), (0, v3), (0, (xw (v4 + 1))), (0, (xw (v3 + (xw (v4 * (σ.1 272 0)))))), (0, (xag xE1 σ (xag xE1 σ 274 (xw (v1 + 1)).toNat) (xw (v2 + v4)).toNat))] [] σ)
    else none)
  else none :=
  xev_eq (E := xE1) (F := xFk) (P := xPg) (inl := []) (stop := [13]) 72 iSupply_choose 13 [(2, 272), (0, v1), (0, v2), (0, v3), (0, v4), vw5, vw6] [] σ
set_option maxRecDepth 20000 in
theorem qSupply_canBe_0 (σ : xS) : X iSupply_canBe 0 [(2, 272)] [] σ =
  if (σ.1 275 0) < 1000000000 then some ((0, 1), σ)
  else some ((0, 0), σ) :=
  xev_eq (E := xE1) (F := xFk) (P := xPg) (inl := []) (stop := []) 13 iSupply_canBe 0 [(2, 272)] [] σ
set_option maxRecDepth 20000 in
theorem qSupply_fewestCoins_0 (σ : xS) : X iSupply_fewestCoins 0 [(2, 272)] [] σ =
  some ((0, (σ.1 275 0)), σ) :=
  xev_eq (E := xE1) (F := xFk) (P := xPg) (inl := []) (stop := []) 9 iSupply_fewestCoins 0 [(2, 272)] [] σ
set_option maxRecDepth 20000 in
theorem qSupply_lotsOn_0 (a1 : Int) (σ : xS) : X iSupply_lotsOn 0 [(2, 272), (0, a1), (9, 0), (9, 0)] [] σ =
  X iSupply_lotsOn 4 [(2, 272), (0, a1), (0, 0), (0, 0)] [] σ :=
  xev_eq (E := xE1) (F := xFk) (P := xPg) (inl := []) (stop := [4]) 6 iSupply_lotsOn 0 [(2, 272), (0, a1), (9, 0), (9, 0)] [] σ
set_option maxRecDepth 20000 in
theorem qSupply_lotsOn_4 (v1 v2 v3 : Int) (σ : xS) : X iSupply_lotsOn 4 [(2, 272), (0, v1), (0, v2), (0, v3)] [] σ =
  if v3 < v1 then (if xin v3 10 then (xob (xarr xE1 σ (xag xE1 σ 286 v3.toNat) 0) none fun n1 => if xin v2 n1 then X iSupply_lotsOn 4 [(2, 272), (0, v1), (0, (xw (v2 + (xag xE1 σ (xag xE1 σ 286 v3.toNat) v2.toNat)))), (0, (xw (v3 + 1)))] [] σ
      else none)
    else none)
  else if xin v1 10 then (xob (xarr xE1 σ (xag xE1 σ 286 v1.toNat) 0) none fun n2 => if xin v2 n2 then some ((0, (xag xE1 σ (xag xE1 σ 286 v1.toNat) v2.toNat)), σ)
    else none)
  else none :=
  xev_eq (E := xE1) (F := xFk) (P := xPg) (inl := []) (stop := [4]) 16 iSupply_lotsOn 4 [(2, 272), (0, v1), (0, v2), (0, v3)] [] σ

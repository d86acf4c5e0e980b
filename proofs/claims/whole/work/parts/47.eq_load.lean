/-! equations, written by a program (wip/whole/gen) -/
set_option maxRecDepth 20000 in
theorem qM_sums_0 (a1 a2 : Int) (σ : xS) : X iM_sums 0 [(2, 305), (0, a1), (0, a2), (9, 0), (9, 0), (9, 0), (9, 0)] [] σ =
  X iM_sums 2 [(2, 305), (0, a1), (0, a2), (0, 0), (9, 0), (9, 0), (9, 0)] [] σ :=
  xev_eq (E := xE1) (F := xFk) (P := xPg) (inl := []) (stop := [2, 30, 49, 61, 112, 138]) 4 iM_sums 0 [(2, 305), (0, a1), (0, a2), (9, 0), (9, 0), (9, 0), (9, 0)] [] σ
set_option maxRecDepth 20000 in
theorem qM_sums_2 (v1 v2 v3 : Int) (vw4 vw5 vw6 : xAV) (σ : xS) : X iM_sums 2 [(2, 305), (0, v1), (0, v2), (0, v3), vw4, vw5, vw6] [] σ =
  if v2 < v3 then X iM_sums 30 [(2, 305), (0, v1), (0, v2), (0, 0), vw4, vw5, vw6] [] σ
  else if v3 = 0 then (if xin v3 9001 then X iM_sums 2 [(2, 305), (0, v1), (0, v2), (0, (xw (v3 + 1))), vw4, vw5, vw6] [] (xs σ 338 v3.toNat 1)
    else none)
  else if xin v3 9001 then X iM_sums 2 [(2, 305), (0, v1), (0, v2), (0, (xw (v3 + 1))), vw4, vw5, vw6] [] (xs σ 338 v3.toNat 0)
  else none :=
  xev_eq (E := xE1) (F := xFk) (P := xPg) (inl := []) (stop := [2, 30, 49, 61, 112, 138]) 15 iM_sums 2 [(2, 305), (0, v1), (0, v2), (0, v3), vw4, vw5, vw6] [] σ
set_option maxRecDepth 20000 in
theorem qM_sums_30 (v1 v2 v3 : Int) (vw4 vw5 vw6 : xAV) (σ : xS) : X iM_sums 30 [(2, 305), (0, v1), (0, v2), (0, v3), vw4, vw5, vw6] [] σ =
  if v3 < (σ.1 305 6) then (if v3 = v1 then X iM_sums 30 [(2, 305), (0, v1), (0, v2), (0, (xw (v3 + 1))), vw4, vw5, vw6] [] σ
    else X iM_sums 49 [(2, 305), (0, v1), (0, v2), (0, v3), (0, 0), vw5, vw6] [] σ)
  else some ((9, 0), σ) :=
  xev_eq (E := xE1) (F := xFk) (P := xPg) (inl := []) (stop := [2, 30, 49, 61, 112, 138]) 12 iM_sums 30 [(2, 305), (0, v1), (0, v2), (0, v3), vw4, vw5, vw6] [] σ
set_option maxRecDepth 20000 in
theorem qM_sums_49 (v1 v2 v3 v4 : Int) (vw5 vw6 : xAV) (σ : xS) : X iM_sums 49 [(2, 305), (0, v1), (0, v2), (0, v3), (0, v4), vw5, vw6] [] σ =
  if v2 < v4 then X iM_sums 138 [(2, 305), (0, v1), (0, v2), (0, v3), (0, 0), vw5, vw6] [] σ
  else X iM_sums 61 [(2, 305), (0, v1), (0, v2), (0, v3), (0, v4), (0, 0), (0, 0)] [] σ :=
  xev_eq (E := xE1) (F := xFk) (P := xPg) (inl := []) (stop := [2, 30, 49, 61, 112, 138]) 9 iM_sums 49 [(2, 305), (0, v1), (0, v2), (0, v3), (0, v4), vw5, vw6] [] σ
set_option maxRecDepth 20000 in
theorem qM_sums_61 (v1 v2 v3 v4 v5 v6 : Int) (σ : xS) : X iM_sums 61 [(2, 305), (0, v1), (0, v2), (0, v3), (0, v4), (0, v5), (0, v6)] [] σ =
  if xin v3 6 then (if (σ.1 340 v3.toNat) < v6 then (if xin v4 9001 then X iM_sums 49 [(2, 305), (0, v1), (0, v2), (0, v3), (0, (xw (v4 + 1))), (0, v5), (0, v6)] [] (xs σ 339 v4.toNat v5)
      else none)
    else if xin v3 6 then (if v4 < (xw (v6 * (σ.1 306 v3.toNat))) then (if xin v4 9001 then X iM_sums 49 [(2, 305), (0, v1), (0, v2), (0, v3), (0, (xw (v4 + 1))), (0, v5), (0, v6)] [] (xs σ 339 v4.toNat v5)
        else none)
      else if xin v3 6 then (if xin (xw (v4 - (xw (v6 * (σ.1 306 v3.toNat))))) 9001 then ((X iM_min 0 [(0, 1000000), (0, (xw (v5 + (σ.1 338 (xw (v4 - (xw (v6 * (σ.1 306 v3.toNat))))).toNat))))] [] σ).bind fun q1 => X iM_sums 112 [(2, 305), (0, v1), (0, v2), (0, v3), (0, v4), (0, v5), (0, v6)] [q1.1] q1.2)
        else none)
      else none)
    else none)
  else none :=
  xev_eq (E := xE1) (F := xFk) (P := xPg) (inl := []) (stop := [2, 30, 49, 61, 112, 138]) 31 iM_sums 61 [(2, 305), (0, v1), (0, v2), (0, v3), (0, v4), (0, v5), (0, v6)] [] σ
set_option maxRecDepth 20000 in
theorem qM_sums_112 (v1 v2 v3 v4 v6 t0 : Int) (vw5 : xAV) (σ : xS) : X iM_sums 112 [(2, 305), (0, v1), (0, v2), (0, v3), (0, v4), vw5, (0, v6)] [(0, t0)] σ =
  X iM_sums 61 [(2, 305), (0, v1), (0, v2), (0, v3), (0, v4), (0, t0), (0, (xw (v6 + 1)))] [] σ :=
  xev_eq (E := xE1) (F := xFk) (P := xPg) (inl := []) (stop := [2, 30, 49, 61, 112, 138]) 5 iM_sums 112 [(2, 305), (0, v1), (0, v2), (0, v3), (0, v4), vw5, (0, v6)] [(0, t0)] σ
set_option maxRecDepth 20000 in
theorem qM_sums_138 (v1 v2 v3 v4 : Int) (vw5 vw6 : xAV) (σ : xS) : X iM_sums 138 [(2, 305), (0, v1), (0, v2), (0, v3), (0, v4), vw5, vw6] [] σ =
  if v2 < v4 then X iM_sums 30 [(2, 305), (0, v1), (0, v2), (0, (xw (v3 + 1))), (0, v4), vw5, vw6] [] σ
  else if xin v4 9001 then (if xin v4 9001 then X iM_sums 138 [(2, 305), (0, v1), (0, v2), (0, v3), (0, (xw (v4 + 1))), vw5, vw6] [] (xs σ 338 v4.toNat (σ.1 339 v4.toNat))
    else none)
  else none :=
  xev_eq (E := xE1) (F := xFk) (P := xPg) (inl := []) (stop := [2, 30, 49, 61, 112, 138]) 15 iM_sums 138 [(2, 305), (0, v1), (0, v2), (0, v3), (0, v4), vw5, vw6] [] σ
set_option maxRecDepth 20000 in
theorem qM_isReached_0 (a1 a2 : Int) (σ : xS) : X iM_isReached 0 [(2, 305), (0, a1), (0, a2), (9, 0)] [] σ =
  (X iM_max 0 [(0, 0), (0, a1)] [] σ).bind fun q1 => X iM_isReached 5 [(2, 305), (0, a1), (0, a2), (9, 0)] [q1.1] q1.2 :=
  xev_eq (E := xE1) (F := xFk) (P := xPg) (inl := []) (stop := [5, 6]) 5 iM_isReached 0 [(2, 305), (0, a1), (0, a2), (9, 0)] [] σ
set_option maxRecDepth 20000 in
theorem qM_isReached_5 (v2 t0 : Int) (vw1 vw3 : xAV) (σ : xS) : X iM_isReached 5 [(2, 305), vw1, (0, v2), vw3] [(0, t0)] σ =
  X iM_isReached 6 [(2, 305), vw1, (0, v2), (0, t0)] [] σ :=
  xev_eq (E := xE1) (F := xFk) (P := xPg) (inl := []) (stop := [5, 6]) 3 iM_isReached 5 [(2, 305), vw1, (0, v2), vw3] [(0, t0)] σ
set_option maxRecDepth 20000 in
theorem qM_isReached_6 (v2 v3 : Int) (vw1 : xAV) (σ : xS) : X iM_isReached 6 [(2, 305), vw1, (0, v2), (0, v3)] [] σ =
  if v2 < v3 then some ((0, 0), σ)
  else if xin v3 9001 then (if 0 < (σ.1 338 v3.toNat) then some ((0, 1), σ)
    else X iM_isReached 6 [(2, 305), vw1, (0, v2), (0, (xw (v3 + 1)))] [] σ)
  else none :=
  xev_eq (E := xE1) (F := xFk) (P := xPg) (inl := []) (stop := [5, 6]) 12 iM_isReached 6 [(2, 305), vw1, (0, v2), (0, v3)] [] σ
set_option maxRecDepth 20000 in
theorem qM_load_0 (a1 a2 a3 a4 a5 : Int) (σ : xS) : X iM_load 0 [(2, 305), (0, a1), (0, a2), (0, a3), (0, a4), (0, a5), (9, 0), (9, 0), (9, 0), (9, 0), (9, 0)] [] σ =
  if a1 < 0 then some ((0, (-2)), σ)
  else if a1 < (σ.1 305 11) then (if a2 < 0 then some ((0, (-2)), σ)
    else if 9000 < a2 then some ((0, (-2)), σ)
    else if a3 < 0 then some ((0, (-2)), σ)
    else if 200 < a4 then some ((0, (-2)), σ)
    else if a4 < a3 then some ((0, (-2)), σ)
    else if a5 < (-1) then some ((0, (-2)), σ)
    else if a5 < (xw (2 * (σ.1 305 6))) then (if (xw (100 + a4)) = 0 then none
      else if (xw (100 + a3)) = 0 then none
      else X iM_load 89 [(2, 305), (0, a1), (0, a2), (0, a3), (0, a4), (0, a5), (0, (xw (Int.tdiv (xw ((xw ((xw (a2 * 100)) + 99)) + a4)) (xw (100 + a4))))), (0, (xw (Int.tdiv (xw (a2 * 100)) (xw (100 + a3))))), (0, 0), (9, 0), (9, 0)] [] σ)
    else some ((0, (-2)), σ))
  else some ((0, (-2)), σ) :=
  xev_eq (E := xE1) (F := xFk) (P := xPg) (inl := [1, 6]) (stop := [89, 122, 141, 148, 171, 205, 211, 268]) 68 iM_load 0 [(2, 305), (0, a1), (0, a2), (0, a3), (0, a4), (0, a5), (9, 0), (9, 0), (9, 0), (9, 0), (9, 0)] [] σ
set_option maxRecDepth 20000 in
theorem qM_load_89 (v1 v5 v6 v7 v8 : Int) (vw2 vw3 vw4 vw9 vw10 : xAV) (σ : xS) : X iM_load 89 [(2, 305), (0, v1), vw2, vw3, vw4, (0, v5), (0, v6), (0, v7), (0, v8), vw9, vw10] [] σ =
  if v8 < (σ.1 305 6) then ((X iM_manyAt 0 [(2, 305), (0, (xw (10 + v1))), (0, v8), (0, (σ.1 305 0)), (0, (σ.1 305 0)), (9, 0), (9, 0)] [] σ).bind fun q1 => X iM_load 122 [(2, 305), (0, v1), vw2, vw3, vw4, (0, v5), (0, v6), (0, v7), (0, v8), vw9, vw10] [q1.1, (0, v8), (2, 340)] q1.2)
  else if v5 < 0 then ((X iM_sums 0 [(2, 305), (0, (-1)), (0, v7), (9, 0), (9, 0), (9, 0), (9, 0)] [] σ).bind fun q2 => X iM_load 141 [(2, 305), (0, v1), vw2, vw3, vw4, (0, v5), (0, v6), (0, v7), (0, v8), vw9, vw10] [] q2.2)
  else (X iM_sums 0 [(2, 305), (0, (xw (Int.tdiv v5 2))), (0, v7), (9, 0), (9, 0), (9, 0), (9, 0)] [] σ).bind fun q3 => X iM_load 205 [(2, 305), (0, v1), vw2, vw3, vw4, (0, v5), (0, v6), (0, v7), (0, (xw (Int.tdiv v5 2))), vw9, vw10] [] q3.2 :=
  xev_eq (E := xE1) (F := xFk) (P := xPg) (inl := [1, 6]) (stop := [89, 122, 141, 148, 171, 205, 211, 268]) 19 iM_load 89 [(2, 305), (0, v1), vw2, vw3, vw4, (0, v5), (0, v6), (0, v7), (0, v8), vw9, vw10] [] σ
set_option maxRecDepth 20000 in
theorem qM_load_122 (v1 v5 v6 v7 v8 t0 t1 : Int) (vw2 vw3 vw4 vw9 vw10 : xAV) (σ : xS) : X iM_load 122 [(2, 305), (0, v1), vw2, vw3, vw4, (0, v5), (0, v6), (0, v7), (0, v8), vw9, vw10] [(0, t0), (0, t1), (2, 340)] σ =
  if xin t1 6 then X iM_load 89 [(2, 305), (0, v1), vw2, vw3, vw4, (0, v5), (0, v6), (0, v7), (0, (xw (v8 + 1))), vw9, vw10] [] (xs σ 340 t1.toNat t0)
  else none :=
  xev_eq (E := xE1) (F := xFk) (P := xPg) (inl := [1, 6]) (stop := [89, 122, 141, 148, 171, 205, 211, 268]) 5 iM_load 122 [(2, 305), (0, v1), vw2, vw3, vw4, (0, v5), (0, v6), (0, v7), (0, v8), vw9, vw10] [(0, t0), (0, t1), (2, 340)] σ
set_option maxRecDepth 20000 in
theorem qM_load_141 (v6 v7 : Int) (vw1 vw2 vw3 vw4 vw5 vw8 vw9 vw10 : xAV) (σ : xS) : X iM_load 141 [(2, 305), vw1, vw2, vw3, vw4, vw5, (0, v6), (0, v7), vw8, vw9, vw10] [] σ =
  X iM_load 148 [(2, 305), vw1, vw2, vw3, vw4, vw5, (0, v6), (0, v7), (0, 0), (0, v6), vw10] [] σ :=
  xev_eq (E := xE1) (F := xFk) (P := xPg) (inl := [1, 6]) (stop := [89, 122, 141, 148, 171, 205, 211, 268]) 6 iM_load 141 [(2, 305), vw1, vw2, vw3, vw4, vw5, (0, v6), (0, v7), vw8, vw9, vw10] [] σ
set_option maxRecDepth 20000 in
theorem qM_load_148 (v7 v8 v9 : Int) (vw1 vw2 vw3 vw4 vw5 vw6 vw10 : xAV) (σ : xS) : X iM_load 148 [(2, 305), vw1, vw2, vw3, vw4, vw5, vw6, (0, v7), (0, v8), (0, v9), vw10] [] σ =
  if v7 < v9 then (if v8 = 0 then some ((0, (-1)), σ)
    else some ((0, v8), σ))
  else if xin v9 9001 then ((X iM_min 0 [(0, 1000000), (0, (xw (v8 + (σ.1 338 v9.toNat))))] [] σ).bind fun q1 => X iM_load 171 [(2, 305), vw1, vw2, vw3, vw4, vw5, vw6, (0, v7), (0, v8), (0, v9), vw10] [q1.1] q1.2)
  else none :=
  xev_eq (E := xE1) (F := xFk) (P := xPg) (inl := [1, 6]) (stop := [89, 122, 141, 148, 171, 205, 211, 268]) 13 iM_load 148 [(2, 305), vw1, vw2, vw3, vw4, vw5, vw6, (0, v7), (0, v8), (0, v9), vw10] [] σ
set_option maxRecDepth 20000 in
theorem qM_load_171 (v7 v9 t0 : Int) (vw1 vw2 vw3 vw4 vw5 vw6 vw8 vw10 : xAV) (σ : xS) : X iM_load 171 [(2, 305), vw1, vw2, vw3, vw4, vw5, vw6, (0, v7), vw8, (0, v9), vw10] [(0, t0)] σ =
  X iM_load 148 [(2, 305), vw1, vw2, vw3, vw4, vw5, vw6, (0, v7), (0, t0), (0, (xw (v9 + 1))), vw10] [] σ :=
  xev_eq (E := xE1) (F := xFk) (P := xPg) (inl := [1, 6]) (stop := [89, 122, 141, 148, 171, 205, 211, 268]) 5 iM_load 171 [(2, 305), vw1, vw2, vw3, vw4, vw5, vw6, (0, v7), vw8, (0, v9), vw10] [(0, t0)] σ
set_option maxRecDepth 20000 in
theorem qM_load_205 (v5 v6 v7 v8 : Int) (vw1 vw2 vw3 vw4 vw9 vw10 : xAV) (σ : xS) : X iM_load 205 [(2, 305), vw1, vw2, vw3, vw4, (0, v5), (0, v6), (0, v7), (0, v8), vw9, vw10] [] σ =
  X iM_load 211 [(2, 305), vw1, vw2, vw3, vw4, (0, v5), (0, v6), (0, v7), (0, v8), (0, (-1)), (0, 0)] [] σ :=
  xev_eq (E := xE1) (F := xFk) (P := xPg) (inl := [1, 6]) (stop := [89, 122, 141, 148, 171, 205, 211, 268]) 6 iM_load 205 [(2, 305), vw1, vw2, vw3, vw4, (0, v5), (0, v6), (0, v7), (0, v8), vw9, vw10] [] σ
set_option maxRecDepth 20000 in
theorem qM_load_211 (v5 v6 v7 v8 v9 v10 : Int) (vw1 vw2 vw3 vw4 : xAV) (σ : xS) : X iM_load 211 [(2, 305), vw1, vw2, vw3, vw4, (0, v5), (0, v6), (0, v7), (0, v8), (0, v9), (0, v10)] [] σ =
  if xin v8 6 then (if (σ.1 340 v8.toNat) < v10 then some ((0, v9), σ)
    else if xin v8 6 then (if v7 < (xw (v10 * (σ.1 306 v8.toNat))) then some ((0, v9), σ)
      else if xin v8 6 then (if xin v8 6 then ((X iM_isReached 0 [(2, 305), (0, (xw (v6 - (xw (v10 * (σ.1 306 v8.toNat)))))), (0, (xw (v7 - (xw (v10 * (σ.1 306 v8.toNat)))))), (9, 0)] [] σ).bind fun q1 => X iM_load 268 [(2, 305), vw1, vw2, vw3, vw4, (0, v5), (0, v6), (0, v7), (0, v8), (0, v9), (0, v10)] [q1.1] q1.2)
        else none)
      else none)
    else none)
  else none :=
  xev_eq (E := xE1) (F := xFk) (P := xPg) (inl := [1, 6]) (stop := [89, 122, 141, 148, 171, 205, 211, 268]) 34 iM_load 211 [(2, 305), vw1, vw2, vw3, vw4, (0, v5), (0, v6), (0, v7), (0, v8), (0, v9), (0, v10)] [] σ
set_option maxRecDepth 20000 in
theorem qM_load_268 (v5 v6 v7 v8 v9 v10 t0 : Int) (vw1 vw2 vw3 vw4 : xAV) (σ : xS) : X iM_load 268 [(2, 305), vw1, vw2, vw3, vw4, (0, v5), (0, v6), (0, v7), (0, v8), (0, v9), (0, v10)] [(0, t0)] σ =
  if t0 = 0 then X iM_load 211 [(2, 305), vw1, vw2, vw3, vw4, (0, v5), (0, v6), (0, v7), (0, v8), (0, v9), (0, (xw (v10 + 1)))] [] σ
  else if (Int.tmod v5 2) = 0 then some ((0, v10), σ)
  else X iM_load 211 [(2, 305), vw1, vw2, vw3, vw4, (0, v5), (0, v6), (0, v7), (0, v8), (0, v10), (0, (xw (v10 + 1)))] [] σ :=
  xev_eq (E := xE1) (F := xFk) (P := xPg) (inl := [1, 6]) (stop := [89, 122, 141, 148, 171, 205, 211, 268]) 11 iM_load 268 [(2, 305), vw1, vw2, vw3, vw4, (0, v5), (0, v6), (0, v7), (0, v8), (0, v9), (0, v10)] [(0, t0)] σ
set_option maxRecDepth 20000 in
theorem qC_load_0 (a1 a2 a3 a4 a5 : Int) (σ : xS) : X iC_load 0 [(2, 200), (0, a1), (0, a2), (0, a3), (0, a4), (0, a5), (9, 0), (9, 0), (9, 0)] [] σ =
  if a1 < 0 then some ((0, (-2)), σ)
  else if (xw ((σ.1 209 4) - 1)) < a1 then some ((0, (-2)), σ)
  else if a2 < 0 then some ((0, (-2)), σ)
  else if 9000 < a2 then some ((0, (-2)), σ)
  else if a3 < 0 then some ((0, (-2)), σ)
  else if a4 < a3 then some ((0, (-2)), σ)
  else if 200 < a4 then some ((0, (-2)), σ)
  else if a5 < (-1) then some ((0, (-2)), σ)
  else if (xw ((xw (2 * (σ.1 201 5))) - 1)) < a5 then some ((0, (-2)), σ)
  else X iC_load 79 [(2, 200), (0, a1), (0, a2), (0, a3), (0, a4), (0, a5), (0, 1), (0, 0), (9, 0)] [] σ :=
  xev_eq (E := xE1) (F := xFk) (P := xPg) (inl := [172, 211]) (stop := [79, 127, 176]) 74 iC_load 0 [(2, 200), (0, a1), (0, a2), (0, a3), (0, a4), (0, a5), (9, 0), (9, 0), (9, 0)] [] σ
set_option maxRecDepth 20000 in
theorem qC_load_79 (v1 v2 v3 v4 v5 v7 : Int) (vw6 vw8 : xAV) (σ : xS) : X iC_load 79 [(2, 200), (0, v1), (0, v2), (0, v3), (0, v4), (0, v5), vw6, (0, v7), vw8] [] σ =
  if v7 < (σ.1 201 5) then ((X iBook_manyAt 0 [(2, 216), (0, (xw (10 + v1))), (0, v7), (0, (σ.1 216 0)), (0, (σ.1 216 0)), (9, 0), (9, 0)] [] σ).bind fun q1 => X iC_load 127 [(2, 200), (0, v1), (0, v2), (0, v3), (0, v4), (0, v5), vw6, (0, v7), vw8] [q1.1, (0, v7), (2, 207)] q1.2)
  else if (xw (100 + v4)) = 0 then none
  else if (xw (100 + v3)) = 0 then none
  else (X iSorts_waysOrPieces 0 [(2, 201), (0, (xw (Int.tdiv (xw ((xw ((xw (v2 * 100)) + 99)) + v4)) (xw (100 + v4))))), (0, (xw (Int.tdiv (xw (v2 * 100)) (xw (100 + v3))))), (0, v5), (9, 0)] [] σ).bind fun q2 => X iC_load 176 [(2, 200), (0, v1), (0, v2), (0, v3), (0, v4), (0, v5), (xkl vw6), (0, (xw (Int.tdiv (xw ((xw ((xw (v2 * 100)) + 99)) + v4)) (xw (100 + v4))))), (0, (xw (Int.tdiv (xw (v2 * 100)) (xw (100 + v3)))))] [q2.1] q2.2 :=
  xev_eq (E := xE1) (F := xFk) (P := xPg) (inl := [172, 211]) (stop := [79, 127, 176]) 33 iC_load 79 [(2, 200), (0, v1), (0, v2), (0, v3), (0, v4), (0, v5), vw6, (0, v7), vw8] [] σ
set_option maxRecDepth 20000 in
theorem qC_load_127 (v1 v2 v3 v4 v5 v7 t0 t1 : Int) (vw6 vw8 : xAV) (σ : xS) : X iC_load 127 [(2, 200), (0, v1), (0, v2), (0, v3), (0, v4), (0, v5), vw6, (0, v7), vw8] [(0, t0), (0, t1), (2, 207)] σ =
  if xin t1 6 then X iC_load 79 [(2, 200), (0, v1), (0, v2), (0, v3), (0, v4), (0, v5), vw6, (0, (xw (v7 + 1))), vw8] [] (xs σ 207 t1.toNat t0)
  else none :=
  xev_eq (E := xE1) (F := xFk) (P := xPg) (inl := [172, 211]) (stop := [79, 127, 176]) 5 iC_load 127 [(2, 200), (0, v1), (0, v2), (0, v3), (0, v4), (0, v5), vw6, (0, v7), vw8] [(0, t0), (0, t1), (2, 207)] σ
set_option maxRecDepth 20000 in
theorem qC_load_176 (t0 : Int) (vw0 vw1 vw2 vw3 vw4 vw5 vw6 vw7 vw8 : xAV) (σ : xS) : X iC_load 176 [vw0, vw1, vw2, vw3, vw4, vw5, vw6, vw7, vw8] [(0, t0)] σ =
  some ((0, t0), σ) :=
  xev_eq (E := xE1) (F := xFk) (P := xPg) (inl := [172, 211]) (stop := [79, 127, 176]) 3 iC_load 176 [vw0, vw1, vw2, vw3, vw4, vw5, vw6, vw7, vw8] [(0, t0)] σ
set_option maxRecDepth 20000 in
theorem qSorts_waysOrPieces_0 (a1 a2 a3 : Int) (σ : xS) : X iSorts_waysOrPieces 0 [(2, 201), (0, a1), (0, a2), (0, a3), (9, 0)] [] σ =
  if a3 = (-1) then ((X iSorts_spread 0 [(2, 201), (0, a2), (0, (-1)), (9, 0), (9, 0), (9, 0)] [] σ).bind fun q1 => X iSorts_waysOrPieces 11 [(2, 201), (0, a1), (0, a2), (0, a3), (9, 0)] [] q1.2)
  else (X iSorts_spread 0 [(2, 201), (0, a2), (0, (xw (Int.tdiv a3 2))), (9, 0), (9, 0), (9, 0)] [] σ).bind fun q2 => X iSorts_waysOrPieces 48 [(2, 201), (0, a1), (0, a2), (0, a3), (0, (xw (Int.tdiv a3 2)))] [] q2.2 :=
  xev_eq (E := xE1) (F := xFk) (P := xPg) (inl := []) (stop := [11, 17, 48, 62, 73]) 13 iSorts_waysOrPieces 0 [(2, 201), (0, a1), (0, a2), (0, a3), (9, 0)] [] σ
set_option maxRecDepth 20000 in
theorem qSorts_waysOrPieces_11 (v1 v2 : Int) (vw3 vw4 : xAV) (σ : xS) : X iSorts_waysOrPieces 11 [(2, 201), (0, v1), (0, v2), vw3, vw4] [] σ =
  (X iSorts_waysWithin 0 [(2, 201), (0, v1), (0, v2), (9, 0), (9, 0)] [] σ).bind fun q1 => X iSorts_waysOrPieces 17 [(2, 201), (0, v1), (0, v2), vw3, vw4] [q1.1] q1.2 :=
  xev_eq (E := xE1) (F := xFk) (P := xPg) (inl := []) (stop := [11, 17, 48, 62, 73]) 6 iSorts_waysOrPieces 11 [(2, 201), (0, v1), (0, v2), vw3, vw4] [] σ
set_option maxRecDepth 20000 in
theorem qSorts_waysOrPieces_17 (t0 : Int) (vw0 vw1 vw2 vw3 vw4 : xAV) (σ : xS) : X iSorts_waysOrPieces 17 [vw0, vw1, vw2, vw3, vw4] [(0, t0)] σ =
  if t0 = 0 then some ((0, (-1)), σ)
  else some ((0, (xmm 1 t0 1000000)), σ) :=
  xev_eq (E := xE1) (F := xFk) (P := xPg) (inl := []) (stop := [11, 17, 48, 62, 73]) 9 iSorts_waysOrPieces 17 [vw0, vw1, vw2, vw3, vw4] [(0, t0)] σ
set_option maxRecDepth 20000 in
theorem qSorts_waysOrPieces_48 (v1 v2 v3 v4 : Int) (σ : xS) : X iSorts_waysOrPieces 48 [(2, 201), (0, v1), (0, v2), (0, v3), (0, v4)] [] σ =
  if (Int.tmod v3 2) = 0 then ((X iSorts_fewest 0 [(2, 201), (0, v4), (0, v1), (0, v2), (9, 0)] [] σ).bind fun q1 => X iSorts_waysOrPieces 62 [(2, 201), (0, v1), (0, v2), (0, v3), (0, v4)] [q1.1] q1.2)
  else (X iSorts_greatest 0 [(2, 201), (0, v4), (0, v1), (0, v2), (9, 0)] [] σ).bind fun q2 => X iSorts_waysOrPieces 73 [(2, 201), (0, v1), (0, v2), (0, v3), (0, v4)] [q2.1] q2.2 :=
  xev_eq (E := xE1) (F := xFk) (P := xPg) (inl := []) (stop := [11, 17, 48, 62, 73]) 11 iSorts_waysOrPieces 48 [(2, 201), (0, v1), (0, v2), (0, v3), (0, v4)] [] σ
set_option maxRecDepth 20000 in
theorem qSorts_waysOrPieces_62 (t0 : Int) (vw0 vw1 vw2 vw3 vw4 : xAV) (σ : xS) : X iSorts_waysOrPieces 62 [vw0, vw1, vw2, vw3, vw4] [(0, t0)] σ =
  X iSorts_waysOrPieces 73 [vw0, vw1, vw2, vw3, vw4] [(0, t0)] σ :=
  xev_eq (E := xE1) (F := xFk) (P := xPg) (inl := []) (stop := [11, 17, 48, 62, 73]) 3 iSorts_waysOrPieces 62 [vw0, vw1, vw2, vw3, vw4] [(0, t0)] σ
set_option maxRecDepth 20000 in
theorem qSorts_waysOrPieces_73 (t0 : Int) (vw0 vw1 vw2 vw3 vw4 : xAV) (σ : xS) : X iSorts_waysOrPieces 73 [vw0, vw1, vw2, vw3, vw4] [(0, t0)] σ =
  some ((0, t0), σ) :=
  xev_eq (E := xE1) (F := xFk) (P := xPg) (inl := []) (stop := [11, 17, 48, 62, 73]) 3 iSorts_waysOrPieces 73 [vw0, vw1, vw2, vw3, vw4] [(0, t0)] σ
set_option maxRecDepth 20000 in
theorem qSorts_fewest_0 (a1 a2 a3 : Int) (σ : xS) : X iSorts_fewest 0 [(2, 201), (0, a1), (0, a2), (0, a3), (9, 0)] [] σ =
  X iSorts_fewest 3 [(2, 201), (0, a1), (0, a2), (0, a3), (0, 0)] [] σ :=
  xev_eq (E := xE1) (F := xFk) (P := xPg) (inl := []) (stop := [3, 40]) 4 iSorts_fewest 0 [(2, 201), (0, a1), (0, a2), (0, a3), (9, 0)] [] σ
set_option maxRecDepth 20000 in
theorem qSorts_fewest_3 (v1 v2 v3 v4 : Int) (σ : xS) : X iSorts_fewest 3 [(2, 201), (0, v1), (0, v2), (0, v3), (0, v4)] [] σ =
  if xin v1 6 then (if (σ.1 207 v1.toNat) < v4 then some ((0, (-1)), σ)
    else if xin v1 6 then (if xin v1 6 then ((X iSorts_waysWithin 0 [(2, 201), (0, (xw (v2 - (xw (v4 * (σ.1 202 v1.toNat)))))), (0, (xw (v3 - (xw (v4 * (σ.1 202 v1.toNat)))))), (9, 0), (9, 0)] [] σ).bind fun q1 => X iSorts_fewest 40 [(2, 201), (0, v1), (0, v2), (0, v3), (0, v4)] [q1.1] q1.2)
      else none)
    else none)
  else none :=
  xev_eq (E := xE1) (F := xFk) (P := xPg) (inl := []) (stop := [3, 40]) 26 iSorts_fewest 3 [(2, 201), (0, v1), (0, v2), (0, v3), (0, v4)] [] σ
set_option maxRecDepth 20000 in
theorem qSorts_fewest_40 (v1 v2 v3 v4 t0 : Int) (σ : xS) : X iSorts_fewest 40 [(2, 201), (0, v1), (0, v2), (0, v3), (0, v4)] [(0, t0)] σ =
  if 0 < t0 then some ((0, v4), σ)
  else X iSorts_fewest 3 [(2, 201), (0, v1), (0, v2), (0, v3), (0, (xw (v4 + 1)))] [] σ :=
  xev_eq (E := xE1) (F := xFk) (P := xPg) (inl := []) (stop := [3, 40]) 5 iSorts_fewest 40 [(2, 201), (0, v1), (0, v2), (0, v3), (0, v4)] [(0, t0)] σ
set_option maxRecDepth 20000 in
theorem qSorts_greatest_0 (a1 a2 a3 : Int) (σ : xS) : X iSorts_greatest 0 [(2, 201), (0, a1), (0, a2), (0, a3), (9, 0)] [] σ =
  if xin a1 6 then X iSorts_greatest 8 [(2, 201), (0, a1), (0, a2), (0, a3), (0, (σ.1 207 a1.toNat))] [] σ
  else none :=
  xev_eq (E := xE1) (F := xFk) (P := xPg) (inl := []) (stop := [8, 39]) 7 iSorts_greatest 0 [(2, 201), (0, a1), (0, a2), (0, a3), (9, 0)] [] σ
set_option maxRecDepth 20000 in
theorem qSorts_greatest_8 (v1 v2 v3 v4 : Int) (σ : xS) : X iSorts_greatest 8 [(2, 201), (0, v1), (0, v2), (0, v3), (0, v4)] [] σ =
  if v4 < 0 then some ((0, (-1)), σ)
  else if xin v1 6 then (if xin v1 6 then ((X iSorts_waysWithin 0 [(2, 201), (0, (xw (v2 - (xw (v4 * (σ.1 202 v1.toNat)))))), (0, (xw (v3 - (xw (v4 * (σ.1 202 v1.toNat)))))), (9, 0), (9, 0)] [] σ).bind fun q1 => X iSorts_greatest 39 [(2, 201), (0, v1), (0, v2), (0, v3), (0, v4)] [q1.1] q1.2)
    else none)
  else none :=
  xev_eq (E := xE1) (F := xFk) (P := xPg) (inl := []) (stop := [8, 39]) 22 iSorts_greatest 8 [(2, 201), (0, v1), (0, v2), (0, v3), (0, v4)] [] σ
set_option maxRecDepth 20000 in
theorem qSorts_greatest_39 (v1 v2 v3 v4 t0 : Int) (σ : xS) : X iSorts_greatest 39 [(2, 201), (0, v1), (0, v2), (0, v3), (0, v4)] [(0, t0)] σ =
  if 0 < t0 then some ((0, v4), σ)
  else X iSorts_greatest 8 [(2, 201), (0, v1), (0, v2), (0, v3), (0, (xw (v4 + (-1))))] [] σ :=
  xev_eq (E := xE1) (F := xFk) (P := xPg) (inl := []) (stop := [8, 39]) 5 iSorts_greatest 39 [(2, 201), (0, v1), (0, v2), (0, v3), (0, v4)] [(0, t0)] σ
set_option maxRecDepth 20000 in
theorem qSorts_waysWithin_0 (a1 a2 : Int) (σ : xS) : X iSorts_waysWithin 0 [(2, 201), (0, a1), (0, a2), (9, 0), (9, 0)] [] σ =
  X iSorts_waysWithin 9 [(2, 201), (0, a1), (0, a2), (0, 0), (0, (xmm 0 a1 0))] [] σ :=
  xev_eq (E := xE1) (F := xFk) (P := xPg) (inl := []) (stop := [9]) 8 iSorts_waysWithin 0 [(2, 201), (0, a1), (0, a2), (9, 0), (9, 0)] [] σ
set_option maxRecDepth 20000 in
theorem qSorts_waysWithin_9 (v2 v3 v4 : Int) (vw1 : xAV) (σ : xS) : X iSorts_waysWithin 9 [(2, 201), vw1, (0, v2), (0, v3), (0, v4)] [] σ =
  if (xmm 1 v2 (σ.1 201 8)) < v4 then some ((0, v3), σ)
  else if xin v4 9001 then X iSorts_waysWithin 9 [(2, 201), vw1, (0, v2), (0, (xw (v3 + (σ.1 208 v4.toNat)))), (0, (xw (v4 + 1)))] [] σ
  else none :=
  xev_eq (E := xE1) (F := xFk) (P := xPg) (inl := []) (stop := [9]) 17 iSorts_waysWithin 9 [(2, 201), vw1, (0, v2), (0, v3), (0, v4)] [] σ
set_option maxRecDepth 20000 in
theorem qSorts_spread_0 (a1 a2 : Int) (σ : xS) : X iSorts_spread 0 [(2, 201), (0, a1), (0, a2), (9, 0), (9, 0), (9, 0)] [] σ =
  X iSorts_spread 14 [(2, 201), (0, a1), (0, a2), (0, 0), (9, 0), (9, 0)] [] (xs (xs σ 201 8 0) 208 0 1) :=
  xev_eq (E := xE1) (F := xFk) (P := xPg) (inl := []) (stop := [14, 63, 91]) 12 iSorts_spread 0 [(2, 201), (0, a1), (0, a2), (9, 0), (9, 0), (9, 0)] [] σ
set_option maxRecDepth 20000 in
theorem qSorts_spread_14 (v1 v2 v3 : Int) (vw4 vw5 : xAV) (σ : xS) : X iSorts_spread 14 [(2, 201), (0, v1), (0, v2), (0, v3), vw4, vw5] [] σ =
  if v3 < (σ.1 201 5) then (if v3 = v2 then X iSorts_spread 91 [(2, 201), (0, v1), (0, v2), (0, v3), vw4, vw5] [] σ
    else if xin v3 6 then (if xin v3 6 then X iSorts_spread 63 [(2, 201), (0, v1), (0, v2), (0, v3), (0, (σ.1 201 8)), (0, (xw ((σ.1 201 8) + 1)))] [] (xs σ 201 8 (xmm 1 v1 (xw ((σ.1 201 8) + (xw ((σ.1 207 v3.toNat) * (σ.1 202 v3.toNat)))))))
      else none)
    else none)
  else some ((9, 0), σ) :=
  xev_eq (E := xE1) (F := xFk) (P := xPg) (inl := []) (stop := [14, 63, 91]) 31 iSorts_spread 14 [(2, 201), (0, v1), (0, v2), (0, v3), vw4, vw5] [] σ
set_option maxRecDepth 20000 in
theorem qSorts_spread_63 (v1 v2 v3 v5 : Int) (vw4 : xAV) (σ : xS) : X iSorts_spread 63 [(2, 201), (0, v1), (0, v2), (0, v3), vw4, (0, v5)] [] σ =
  if (σ.1 201 8) < v5 then ((X iSorts_addPieces 0 [(2, 201), (0, v3), (9, 0), (9, 0), (9, 0), (9, 0)] [] σ).bind fun q1 => X iSorts_spread 91 [(2, 201), (0, v1), (0, v2), (0, v3), vw4, (0, v5)] [] q1.2)
  else if xin v5 9001 then X iSorts_spread 63 [(2, 201), (0, v1), (0, v2), (0, v3), vw4, (0, (xw (v5 + 1)))] [] (xs σ 208 v5.toNat 0)
  else none :=
  xev_eq (E := xE1) (F := xFk) (P := xPg) (inl := []) (stop := [14, 63, 91]) 13 iSorts_spread 63 [(2, 201), (0, v1), (0, v2), (0, v3), vw4, (0, v5)] [] σ
set_option maxRecDepth 20000 in
theorem qSorts_spread_91 (v1 v2 v3 : Int) (vw4 vw5 : xAV) (σ : xS) : X iSorts_spread 91 [(2, 201), (0, v1), (0, v2), (0, v3), vw4, vw5] [] σ =
  X iSorts_spread 14 [(2, 201), (0, v1), (0, v2), (0, (xw (v3 + 1))), vw4, vw5] [] σ :=
  xev_eq (E := xE1) (F := xFk) (P := xPg) (inl := []) (stop := [14, 63, 91]) 4 iSorts_spread 91 [(2, 201), (0, v1), (0, v2), (0, v3), vw4, vw5] [] σ
set_option maxRecDepth 20000 in
theorem qSorts_addPieces_0 (a1 : Int) (σ : xS) : X iSorts_addPieces 0 [(2, 201), (0, a1), (9, 0), (9, 0), (9, 0), (9, 0)] [] σ =
  if xin a1 6 then X iSorts_addPieces 12 [(2, 201), (0, a1), (0, (σ.1 202 a1.toNat)), (0, (σ.1 201 8)), (9, 0), (9, 0)] [] σ
  else none :=
  xev_eq (E := xE1) (F := xFk) (P := xPg) (inl := []) (stop := [12, 28]) 10 iSorts_addPieces 0 [(2, 201), (0, a1), (9, 0), (9, 0), (9, 0), (9, 0)] [] σ
set_option maxRecDepth 20000 in
theorem qSorts_addPieces_12 (v1 v2 v3 : Int) (vw4 vw5 : xAV) (σ : xS) : X iSorts_addPieces 12 [(2, 201), (0, v1), (0, v2), (0, v3), vw4, vw5] [] σ =
  if v3 < v2 then some ((9, 0), σ)
  else if xin v3 9001 then X iSorts_addPieces 28 [(2, 201), (0, v1), (0, v2), (0, v3), (0, (σ.1 208 v3.toNat)), (0, 1)] [] σ
  else none :=
  xev_eq (E := xE1) (F := xFk) (P := xPg) (inl := []) (stop := [12, 28]) 12 iSorts_addPieces 12 [(2, 201), (0, v1), (0, v2), (0, v3), vw4, vw5] [] σ
set_option maxRecDepth 20000 in
theorem qSorts_addPieces_28 (v1 v2 v3 v4 v5 : Int) (σ : xS) : X iSorts_addPieces 28 [(2, 201), (0, v1), (0, v2), (0, v3), (0, v4), (0, v5)] [] σ =
  if xin v1 6 then (if (σ.1 207 v1.toNat) < v5 then (if xin v3 9001 then X iSorts_addPieces 12 [(2, 201), (0, v1), (0, v2), (0, (xw (v3 + (-1)))), (0, v4), (0, v5)] [] (xs σ 208 v3.toNat v4)
      else none)
    else if v3 < (xw (v5 * v2)) then (if xin v3 9001 then X iSorts_addPieces 12 [(2, 201), (0, v1), (0, v2), (0, (xw (v3 + (-1)))), (0, v4), (0, v5)] [] (xs σ 208 v3.toNat v4)
      else none)
    else if xin (xw (v3 - (xw (v5 * v2)))) 9001 then X iSorts_addPieces 28 [(2, 201), (0, v1), (0, v2), (0, v3), (0, (xw (v4 + (σ.1 208 (xw (v3 - (xw (v5 * v2)))).toNat)))), (0, (xw (v5 + 1)))] [] σ
    else none)
  else none :=
  xev_eq (E := xE1) (F := xFk) (P := xPg) (inl := []) (stop := [12, 28]) 26 iSorts_addPieces 28 [(2, 201), (0, v1), (0, v2), (0, v3), (0, v4), (0, v5)] [] σ

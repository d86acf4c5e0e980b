/-! equations, written by a program (wip/whole/gen) -/
set_option maxRecDepth 20000 in
theorem qM_termsOn_0 (a1 : Int) (σ : xS) : X iM_termsOn 0 [(2, 305), (0, a1), (9, 0), (9, 0)] [] σ =
  X iM_termsOn 4 [(2, 305), (0, a1), (0, (-1)), (0, 0)] [] σ :=
  xev_eq (E := xE1) (F := xFk) (P := xPg) (inl := []) (stop := [4]) 6 iM_termsOn 0 [(2, 305), (0, a1), (9, 0), (9, 0)] [] σ
set_option maxRecDepth 20000 in
theorem qM_termsOn_4 (v1 v2 v3 : Int) (σ : xS) : X iM_termsOn 4 [(2, 305), (0, v1), (0, v2), (0, v3)] [] σ =
  if v3 < (σ.1 305 49) then (if xin v3 8 then (if v1 < (σ.1 343 v3.toNat) then X iM_termsOn 4 [(2, 305), (0, v1), (0, v2), (0, (xw (v3 + 1)))] [] σ
      else X iM_termsOn 4 [(2, 305), (0, v1), (0, v3), (0, (xw (v3 + 1)))] [] σ)
    else none)
  else some ((0, v2), σ) :=
  xev_eq (E := xE1) (F := xFk) (P := xPg) (inl := []) (stop := [4]) 16 iM_termsOn 4 [(2, 305), (0, v1), (0, v2), (0, v3)] [] σ
set_option maxRecDepth 20000 in
theorem qM_held_0 (a0 : Int) (σ : xS) : X iM_held 0 [(1, a0), (8, 0)] [] σ =
  if 1000000000000 < a0 then some ((1, 1000000000000), σ)
  else if a0 < (-1000000000000) then some ((1, (-1000000000000)), σ)
  else some ((1, a0), σ) :=
  xev_eq (E := xE1) (F := xFk) (P := xPg) (inl := []) (stop := []) 11 iM_held 0 [(1, a0), (8, 0)] [] σ
set_option maxRecDepth 20000 in
theorem qM_times_0 (a0 a1 : Int) (σ : xS) : X iM_times 0 [(1, a0), (8, 0), (1, a1), (8, 0), (9, 0), (9, 0), (9, 0), (9, 0), (9, 0)] [] σ =
  if a0 = 0 then some ((1, 0), σ)
  else if a1 = 0 then some ((1, 0), σ)
  else if a0 < 0 then (if a1 < 0 then (if a0 < 0 then (if a1 < 0 then X iM_times 64 [(1, a0), (8, 0), (1, a1), (8, 0), (1, (xW (-a0))), (8, 0), (1, (xW (-a1))), (8, 0), (9, 0)] [(0, 1), (0, 1)] σ
        else X iM_times 64 [(1, a0), (8, 0), (1, a1), (8, 0), (1, (xW (-a0))), (8, 0), (1, (xW (-a1))), (8, 0), (9, 0)] [(0, 0), (0, 1)] σ)
      else if a1 < 0 then X iM_times 64 [(1, a0), (8, 0), (1, a1), (8, 0), (1, (xW (-a0))), (8, 0), (1, (xW (-a1))), (8, 0), (9, 0)] [(0, 1), (0, 0)] σ
      else X iM_times 64 [(1, a0), (8, 0), (1, a1), (8, 0), (1, (xW (-a0))), (8, 0), (1, (xW (-a1))), (8, 0), (9, 0)] [(0, 0), (0, 0)] σ)
    else if a0 < 0 then (if a1 < 0 then X iM_times 64 [(1, a0), (8, 0), (1, a1), (8, 0), (1, (xW (-a0))), (8, 0), (1, a1), (8, 0), (9, 0)] [(0, 1), (0, 1)] σ
      else X iM_times 64 [(1, a0), (8, 0), (1, a1), (8, 0), (1, (xW (-a0))), (8, 0), (1, a1), (8, 0), (9, 0)] [(0, 0), (0, 1)] σ)
    else if a1 < 0 then X iM_times 64 [(1, a0), (8, 0), (1, a1), (8, 0), (1, (xW (-a0))), (8, 0), (1, a1), (8, 0), (9, 0)] [(0, 1), (0, 0)] σ
    else X iM_times 64 [(1, a0), (8, 0), (1, a1), (8, 0), (1, (xW (-a0))), (8, 0), (1, a1), (8, 0), (9, 0)] [(0, 0), (0, 0)] σ)
  else if a1 < 0 then (if a0 < 0 then (if a1 < 0 then X iM_times 64 [(1, a0), (8, 0), (1, a1), (8, 0), (1, a0), (8, 0), (1, (xW (-a1))), (8, 0), (9, 0)] [(0, 1), (0, 1)] σ
      else X iM_times 64 [(1, a0), (8, 0), (1, a1), (8, 0), (1, a0), (8, 0), (1, (xW (-a1))), (8, 0), (9, 0)] [(0, 0), (0, 1)] σ)
    else if a1 < 0 then X iM_times 64 [(1, a0), (8, 0), (1, a1), (8, 0), (1, a0), (8, 0), (1, (xW (-a1))), (8, 0), (9, 0)] [(0, 1), (0, 0)] σ
    else X iM_times 64 [(1, a0), (8, 0), (1, a1), (8, 0), (1, a0), (8, 0), (1, (xW (-a1))), (8, 0), (9, 0)] [(0, 0), (0, 0)] σ)
  else if a0 < 0 then (if a1 < 0 then X iM_times 64 [(1, a0), (8, 0), (1, a1), (8, 0), (1, a0), (8, 0), (1, a1), (8, 0), (9, 0)] [(0, 1), (0, 1)] σ
    else X iM_times 64 [(1, a0), (8, 0), (1, a1), (8, 0), (1, a0), (8, 0), (1, a1), (8, 0), (9, 0)] [(0, 0), (0, 1)] σ)
  else if a1 < 0 then X iM_times 64 [(1, a0), (8, 0), (1, a1), (8, 0), (1, a0), (8, 0), (1, a1), (8, 0), (9, 0)] [(0, 1), (0, 0)] σ
  else X iM_times 64 [(1, a0), (8, 0), (1, a1), (8, 0), (1, a0), (8, 0), (1, a1), (8, 0), (9, 0)] [(0, 0), (0, 0)] σ :=
  xev_eq (E := xE1) (F := xFk) (P := xPg) (inl := []) (stop := [64]) 32 iM_times 0 [(1, a0), (8, 0), (1, a1), (8, 0), (9, 0), (9, 0), (9, 0), (9, 0), (9, 0)] [] σ
set_option maxRecDepth 20000 in
theorem qM_times_64 (v4 v6 t0 t1 : Int) (vw0 vw1 vw2 vw3 vw8 : xAV) (σ : xS) : X iM_times 64 [vw0, vw1, vw2, vw3, (1, v4), (8, 0), (1, v6), (8, 0), vw8] [(0, t0), (0, t1)] σ =
  if t1 = t0 then (if v6 = 0 then none
    else if (xW (Int.tdiv 1000000000000 v6)) < v4 then some ((1, 1000000000000), σ)
    else some ((1, (xW (v4 * v6))), σ))
  else if v6 = 0 then none
  else if (xW (Int.tdiv 1000000000000 v6)) < v4 then some ((1, (-1000000000000)), σ)
  else some ((1, (xW (-(xW (v4 * v6))))), σ) :=
  xev_eq (E := xE1) (F := xFk) (P := xPg) (inl := []) (stop := [64]) 19 iM_times 64 [vw0, vw1, vw2, vw3, (1, v4), (8, 0), (1, v6), (8, 0), vw8] [(0, t0), (0, t1)] σ
set_option maxRecDepth 20000 in
theorem qM_rooted_0 (a1 : Int) (σ : xS) : X iM_rooted 0 [(2, 305), (0, a1), (9, 0), (9, 0), (9, 0), (9, 0), (9, 0), (9, 0), (9, 0), (9, 0), (9, 0)] [] σ =
  if xin a1 200 then X iM_rooted 7 [(2, 305), (0, a1), (0, (σ.1 348 a1.toNat)), (9, 0), (9, 0), (9, 0), (9, 0), (9, 0), (9, 0), (9, 0), (9, 0)] [] σ
  else none :=
  xev_eq (E := xE1) (F := xFk) (P := xPg) (inl := []) (stop := [7, 57, 84, 195, 279, 296, 557, 567]) 7 iM_rooted 0 [(2, 305), (0, a1), (9, 0), (9, 0), (9, 0), (9, 0), (9, 0), (9, 0), (9, 0), (9, 0), (9, 0)] [] σ
set_option maxRecDepth 20000 in
theorem qM_rooted_7 (v1 v2 : Int) (vw3 vw4 vw5 vw6 vw7 vw8 vw9 vw10 : xAV) (σ : xS) : X iM_rooted 7 [(2, 305), (0, v1), (0, v2), vw3, vw4, vw5, vw6, vw7, vw8, vw9, vw10] [] σ =
  if xin v1 200 then (if v2 < (σ.1 349 v1.toNat) then (if xin v2 3300 then (if 1 < (σ.1 351 v2.toNat) then (if xin v2 3300 then (if xin (σ.1 352 v2.toNat) 3300 then (if 1 < (σ.1 351 v2.toNat) then (if (σ.1 351 v2.toNat) < 7 then (if xin v2 3300 then (if xin (σ.1 353 v2.toNat) 3300 then X iM_rooted 84 [(2, 305), (0, v1), (0, v2), (0, (σ.1 351 v2.toNat)), (1, (σ.1 363 (σ.1 352 v2.toNat).toNat)), (8, 0), vw6, vw7, vw8, vw9, vw10] [(1, (σ.1 363 (σ.1 353 v2.toNat).toNat))] σ
                    else none)
                  else none)
                else X iM_rooted 57 [(2, 305), (0, v1), (0, v2), (0, (σ.1 351 v2.toNat)), (1, (σ.1 363 (σ.1 352 v2.toNat).toNat)), (8, 0), vw6, vw7, vw8, vw9, vw10] [] σ)
              else X iM_rooted 57 [(2, 305), (0, v1), (0, v2), (0, (σ.1 351 v2.toNat)), (1, (σ.1 363 (σ.1 352 v2.toNat).toNat)), (8, 0), vw6, vw7, vw8, vw9, vw10] [] σ)
            else none)
          else none)
        else if 1 < (σ.1 351 v2.toNat) then (if (σ.1 351 v2.toNat) < 7 then (if xin v2 3300 then (if xin (σ.1 353 v2.toNat) 3300 then X iM_rooted 84 [(2, 305), (0, v1), (0, v2), (0, (σ.1 351 v2.toNat)), (1, 0), (8, 0), vw6, vw7, vw8, vw9, vw10] [(1, (σ.1 363 (σ.1 353 v2.toNat).toNat))] σ
              else none)
            else none)
          else X iM_rooted 57 [(2, 305), (0, v1), (0, v2), (0, (σ.1 351 v2.toNat)), (1, 0), (8, 0), vw6, vw7, vw8, vw9, vw10] [] σ)
        else X iM_rooted 57 [(2, 305), (0, v1), (0, v2), (0, (σ.1 351 v2.toNat)), (1, 0), (8, 0), vw6, vw7, vw8, vw9, vw10] [] σ)
      else none)
    else if xin v1 200 then (if xin (σ.1 347 v1.toNat) 3300 then some ((1, (σ.1 363 (σ.1 347 v1.toNat).toNat)), σ)
      else none)
    else none)
  else none :=
  xev_eq (E := xE1) (F := xFk) (P := xPg) (inl := []) (stop := [7, 57, 84, 195, 279, 296, 557, 567]) 39 iM_rooted 7 [(2, 305), (0, v1), (0, v2), vw3, vw4, vw5, vw6, vw7, vw8, vw9, vw10] [] σ
set_option maxRecDepth 20000 in
theorem qM_rooted_57 (v1 v2 v3 v4 : Int) (vw6 vw7 vw8 vw9 vw10 : xAV) (σ : xS) : X iM_rooted 57 [(2, 305), (0, v1), (0, v2), (0, v3), (1, v4), (8, 0), vw6, vw7, vw8, vw9, vw10] [] σ =
  if 9 < v3 then (if v3 = 14 then X iM_rooted 84 [(2, 305), (0, v1), (0, v2), (0, v3), (1, v4), (8, 0), vw6, vw7, vw8, vw9, vw10] [(1, 0)] σ
    else if xin v2 3300 then (if xin (σ.1 353 v2.toNat) 3300 then X iM_rooted 84 [(2, 305), (0, v1), (0, v2), (0, v3), (1, v4), (8, 0), vw6, vw7, vw8, vw9, vw10] [(1, (σ.1 363 (σ.1 353 v2.toNat).toNat))] σ
      else none)
    else none)
  else X iM_rooted 84 [(2, 305), (0, v1), (0, v2), (0, v3), (1, v4), (8, 0), vw6, vw7, vw8, vw9, vw10] [(1, 0)] σ :=
  xev_eq (E := xE1) (F := xFk) (P := xPg) (inl := []) (stop := [7, 57, 84, 195, 279, 296, 557, 567]) 16 iM_rooted 57 [(2, 305), (0, v1), (0, v2), (0, v3), (1, v4), (8, 0), vw6, vw7, vw8, vw9, vw10] [] σ
set_option maxRecDepth 20000 in
theorem qM_rooted_84 (v1 v2 v3 v4 t0 : Int) (vw6 vw7 vw8 vw9 vw10 : xAV) (σ : xS) : X iM_rooted 84 [(2, 305), (0, v1), (0, v2), (0, v3), (1, v4), (8, 0), vw6, vw7, vw8, vw9, vw10] [(1, t0)] σ =
  if v3 = 0 then (if xin v2 3300 then X iM_rooted 557 [(2, 305), (0, v1), (0, v2), (0, v3), (1, v4), (8, 0), (1, t0), (8, 0), (1, (σ.1 356 v2.toNat)), (8, 0), vw10] [] σ
    else none)
  else if v3 = 1 then (if xin v2 3300 then (if (σ.1 352 v2.toNat) < 10 then (if xin v2 3300 then (if xin (σ.1 352 v2.toNat) 10 then X iM_rooted 557 [(2, 305), (0, v1), (0, v2), (0, v3), (1, v4), (8, 0), (1, t0), (8, 0), (1, (σ.1 365 (σ.1 352 v2.toNat).toNat)), (8, 0), vw10] [] σ
          else none)
        else none)
      else if xin v2 3300 then (if xin (xw ((σ.1 352 v2.toNat) - 10)) 24 then X iM_rooted 557 [(2, 305), (0, v1), (0, v2), (0, v3), (1, v4), (8, 0), (1, t0), (8, 0), (1, (σ.1 364 (xw ((σ.1 352 v2.toNat) - 10)).toNat)), (8, 0), vw10] [] σ
        else none)
      else none)
    else none)
  else if v3 = 2 then X iM_rooted 557 [(2, 305), (0, v1), (0, v2), (0, v3), (1, v4), (8, 0), (1, t0), (8, 0), (1, (xW (v4 + t0))), (8, 0), vw10] [] σ
  else if v3 = 3 then X iM_rooted 557 [(2, 305), (0, v1), (0, v2), (0, v3), (1, v4), (8, 0), (1, t0), (8, 0), (1, (xW (v4 - t0))), (8, 0), vw10] [] σ
  else if v3 = 4 then ((X iM_times 0 [(1, v4), (8, 0), (1, t0), (8, 0), (9, 0), (9, 0), (9, 0), (9, 0), (9, 0)] [] σ).bind fun q1 => X iM_rooted 195 [(2, 305), (0, v1), (0, v2), (0, v3), (1, v4), (8, 0), (1, t0), (8, 0), (1, 0), (8, 0), vw10] [q1.1] q1.2)
  else if v3 = 5 then (if t0 = 0 then X iM_rooted 557 [(2, 305), (0, v1), (0, v2), (0, v3), (1, v4), (8, 0), (1, t0), (8, 0), (1, 0), (8, 0), vw10] [] σ
    else if t0 = 0 then none
    else X iM_rooted 557 [(2, 305), (0, v1), (0, v2), (0, v3), (1, v4), (8, 0), (1, t0), (8, 0), (1, (xW (Int.tdiv v4 t0))), (8, 0), vw10] [] σ)
  else if v3 = 6 then (if t0 = 0 then X iM_rooted 557 [(2, 305), (0, v1), (0, v2), (0, v3), (1, v4), (8, 0), (1, t0), (8, 0), (1, 0), (8, 0), vw10] [] σ
    else if t0 = 0 then none
    else X iM_rooted 557 [(2, 305), (0, v1), (0, v2), (0, v3), (1, v4), (8, 0), (1, t0), (8, 0), (1, (Int.tmod v4 t0)), (8, 0), vw10] [] σ)
  else if v3 = 7 then X iM_rooted 557 [(2, 305), (0, v1), (0, v2), (0, v3), (1, v4), (8, 0), (1, t0), (8, 0), (1, (xW (-v4))), (8, 0), vw10] [] σ
  else if v3 = 8 then X iM_rooted 279 [(2, 305), (0, v1), (0, v2), (0, v3), (1, v4), (8, 0), (1, t0), (8, 0), (1, 0), (8, 0), vw10] [] σ
  else if v3 = 9 then X iM_rooted 279 [(2, 305), (0, v1), (0, v2), (0, v3), (1, v4), (8, 0), (1, t0), (8, 0), (1, 0), (8, 0), vw10] [] σ
  else if v3 = 10 then (if v4 = 0 then (if xin v2 3300 then (if xin (σ.1 354 v2.toNat) 3300 then X iM_rooted 557 [(2, 305), (0, v1), (0, v2), (0, v3), (1, v4), (8, 0), (1, t0), (8, 0), (1, (σ.1 363 (σ.1 354 v2.toNat).toNat)), (8, 0), vw10] [] σ
        else none)
      else none)
    else X iM_rooted 557 [(2, 305), (0, v1), (0, v2), (0, v3), (1, v4), (8, 0), (1, t0), (8, 0), (1, t0), (8, 0), vw10] [] σ)
  else if v3 = 11 then (if v4 < t0 then X iM_rooted 557 [(2, 305), (0, v1), (0, v2), (0, v3), (1, v4), (8, 0), (1, t0), (8, 0), (1, 1), (8, 0), vw10] [] σ
    else X iM_rooted 557 [(2, 305), (0, v1), (0, v2), (0, v3), (1, v4), (8, 0), (1, t0), (8, 0), (1, 0), (8, 0), vw10] [] σ)
  else if v3 = 12 then (if t0 < v4 then X iM_rooted 557 [(2, 305), (0, v1), (0, v2), (0, v3), (1, v4), (8, 0), (1, t0), (8, 0), (1, 1), (8, 0), vw10] [] σ
    else X iM_rooted 557 [(2, 305), (0, v1), (0, v2), (0, v3), (1, v4), (8, 0), (1, t0), (8, 0), (1, 0), (8, 0), vw10] [] σ)
  else if v3 = 13 then (if v4 = t0 then X iM_rooted 557 [(2, 305), (0, v1), (0, v2), (0, v3), (1, v4), (8, 0), (1, t0), (8, 0), (1, 1), (8, 0), vw10] [] σ
    else X iM_rooted 557 [(2, 305), (0, v1), (0, v2), (0, v3), (1, v4), (8, 0), (1, t0), (8, 0), (1, 0), (8, 0), vw10] [] σ)
  else if v3 = 14 then (if v4 = 0 then X iM_rooted 557 [(2, 305), (0, v1), (0, v2), (0, v3), (1, v4), (8, 0), (1, t0), (8, 0), (1, 1), (8, 0), vw10] [] σ
    else X iM_rooted 557 [(2, 305), (0, v1), (0, v2), (0, v3), (1, v4), (8, 0), (1, t0), (8, 0), (1, 0), (8, 0), vw10] [] σ)
  else if v3 = 15 then (if v4 = 0 then X iM_rooted 557 [(2, 305), (0, v1), (0, v2), (0, v3), (1, v4), (8, 0), (1, t0), (8, 0), (1, 0), (8, 0), vw10] [] σ
    else if t0 = 0 then X iM_rooted 557 [(2, 305), (0, v1), (0, v2), (0, v3), (1, v4), (8, 0), (1, t0), (8, 0), (1, 0), (8, 0), vw10] [] σ
    else X iM_rooted 557 [(2, 305), (0, v1), (0, v2), (0, v3), (1, v4), (8, 0), (1, t0), (8, 0), (1, 1), (8, 0), vw10] [] σ)
  else if v4 = 0 then (if t0 = 0 then X iM_rooted 557 [(2, 305), (0, v1), (0, v2), (0, v3), (1, v4), (8, 0), (1, t0), (8, 0), (1, 0), (8, 0), vw10] [] σ
    else X iM_rooted 557 [(2, 305), (0, v1), (0, v2), (0, v3), (1, v4), (8, 0), (1, t0), (8, 0), (1, 1), (8, 0), vw10] [] σ)
  else X iM_rooted 557 [(2, 305), (0, v1), (0, v2), (0, v3), (1, v4), (8, 0), (1, t0), (8, 0), (1, 1), (8, 0), vw10] [] σ :=
  xev_eq (E := xE1) (F := xFk) (P := xPg) (inl := []) (stop := [7, 57, 84, 195, 279, 296, 557, 567]) 62 iM_rooted 84 [(2, 305), (0, v1), (0, v2), (0, v3), (1, v4), (8, 0), vw6, vw7, vw8, vw9, vw10] [(1, t0)] σ
set_option maxRecDepth 20000 in
theorem qM_rooted_195 (v1 v2 t0 : Int) (vw3 vw4 vw5 vw6 vw7 vw8 vw9 vw10 : xAV) (σ : xS) : X iM_rooted 195 [(2, 305), (0, v1), (0, v2), vw3, vw4, vw5, vw6, vw7, vw8, vw9, vw10] [(1, t0)] σ =
  X iM_rooted 557 [(2, 305), (0, v1), (0, v2), vw3, vw4, vw5, vw6, (xkl vw7), (1, t0), (8, 0), vw10] [] σ :=
  xev_eq (E := xE1) (F := xFk) (P := xPg) (inl := []) (stop := [7, 57, 84, 195, 279, 296, 557, 567]) 4 iM_rooted 195 [(2, 305), (0, v1), (0, v2), vw3, vw4, vw5, vw6, vw7, vw8, vw9, vw10] [(1, t0)] σ
set_option maxRecDepth 20000 in
theorem qM_rooted_279 (v1 v2 v3 v4 : Int) (vw6 vw7 vw8 vw9 vw10 : xAV) (σ : xS) : X iM_rooted 279 [(2, 305), (0, v1), (0, v2), (0, v3), (1, v4), (8, 0), vw6, vw7, vw8, vw9, vw10] [] σ =
  if xin v2 3300 then (if xin (σ.1 352 v2.toNat) 3300 then X iM_rooted 296 [(2, 305), (0, v1), (0, v2), (0, v3), (1, v4), (8, 0), vw6, (xkl vw7), (1, v4), (8, 0), (0, (σ.1 355 (σ.1 352 v2.toNat).toNat))] [] σ
    else none)
  else none :=
  xev_eq (E := xE1) (F := xFk) (P := xPg) (inl := []) (stop := [7, 57, 84, 195, 279, 296, 557, 567]) 12 iM_rooted 279 [(2, 305), (0, v1), (0, v2), (0, v3), (1, v4), (8, 0), vw6, vw7, vw8, vw9, vw10] [] σ
set_option maxRecDepth 20000 in
theorem qM_rooted_296 (v1 v2 v3 v8 v10 : Int) (vw4 vw5 vw6 vw7 : xAV) (σ : xS) : X iM_rooted 296 [(2, 305), (0, v1), (0, v2), (0, v3), vw4, vw5, vw6, vw7, (1, v8), (8, 0), (0, v10)] [] σ =
  if v10 < 0 then X iM_rooted 557 [(2, 305), (0, v1), (0, v2), (0, v3), vw4, vw5, vw6, vw7, (1, v8), (8, 0), (0, v10)] [] σ
  else if v3 = 8 then (if xin v10 3300 then (if (σ.1 363 v10.toNat) < v8 then (if xin v10 3300 then (if xin v10 3300 then X iM_rooted 296 [(2, 305), (0, v1), (0, v2), (0, v3), vw4, vw5, vw6, (xkl vw7), (1, (σ.1 363 v10.toNat)), (8, 0), (0, (σ.1 355 v10.toNat))] [] σ
          else none)
        else none)
      else if xin v10 3300 then X iM_rooted 296 [(2, 305), (0, v1), (0, v2), (0, v3), vw4, vw5, vw6, (xkl vw7), (1, v8), (8, 0), (0, (σ.1 355 v10.toNat))] [] σ
      else none)
    else none)
  else if xin v10 3300 then (if v8 < (σ.1 363 v10.toNat) then (if xin v10 3300 then (if xin v10 3300 then X iM_rooted 296 [(2, 305), (0, v1), (0, v2), (0, v3), vw4, vw5, vw6, (xkl vw7), (1, (σ.1 363 v10.toNat)), (8, 0), (0, (σ.1 355 v10.toNat))] [] σ
        else none)
      else none)
    else if xin v10 3300 then X iM_rooted 296 [(2, 305), (0, v1), (0, v2), (0, v3), vw4, vw5, vw6, (xkl vw7), (1, v8), (8, 0), (0, (σ.1 355 v10.toNat))] [] σ
    else none)
  else none :=
  xev_eq (E := xE1) (F := xFk) (P := xPg) (inl := []) (stop := [7, 57, 84, 195, 279, 296, 557, 567]) 25 iM_rooted 296 [(2, 305), (0, v1), (0, v2), (0, v3), vw4, vw5, vw6, vw7, (1, v8), (8, 0), (0, v10)] [] σ
set_option maxRecDepth 20000 in
theorem qM_rooted_557 (v1 v2 v8 : Int) (vw3 vw4 vw5 vw6 vw7 vw10 : xAV) (σ : xS) : X iM_rooted 557 [(2, 305), (0, v1), (0, v2), vw3, vw4, vw5, vw6, vw7, (1, v8), (8, 0), vw10] [] σ =
  (X iM_held 0 [(1, v8), (8, 0)] [] σ).bind fun q1 => X iM_rooted 567 [(2, 305), (0, v1), (0, v2), vw3, vw4, vw5, vw6, vw7, (1, v8), (8, 0), vw10] [q1.1, (0, v2), (2, 363)] q1.2 :=
  xev_eq (E := xE1) (F := xFk) (P := xPg) (inl := []) (stop := [7, 57, 84, 195, 279, 296, 557, 567]) 7 iM_rooted 557 [(2, 305), (0, v1), (0, v2), vw3, vw4, vw5, vw6, vw7, (1, v8), (8, 0), vw10] [] σ
set_option maxRecDepth 20000 in
theorem qM_rooted_567 (v1 v2 t0 t1 : Int) (vw3 vw4 vw5 vw6 vw7 vw8 vw9 vw10 : xAV) (σ : xS) : X iM_rooted 567 [(2, 305), (0, v1), (0, v2), vw3, vw4, vw5, vw6, vw7, vw8, vw9, vw10] [(1, t0), (0, t1), (2, 363)] σ =
  if xin t1 3300 then X iM_rooted 7 [(2, 305), (0, v1), (0, (xw (v2 + 1))), vw3, vw4, vw5, vw6, vw7, vw8, vw9, vw10] [] (xs σ 363 t1.toNat t0)
  else none :=
  xev_eq (E := xE1) (F := xFk) (P := xPg) (inl := []) (stop := [7, 57, 84, 195, 279, 296, 557, 567]) 5 iM_rooted 567 [(2, 305), (0, v1), (0, v2), vw3, vw4, vw5, vw6, vw7, vw8, vw9, vw10] [(1, t0), (0, t1), (2, 363)] σ
set_option maxRecDepth 20000 in
theorem qM_worked_0 (a1 a2 : Int) (σ : xS) : X iM_worked 0 [(2, 305), (0, a1), (0, a2), (9, 0)] [] σ =
  if xin a1 8 then X iM_worked 7 [(2, 305), (0, a1), (0, a2), (0, (σ.1 341 a1.toNat))] [] σ
  else none :=
  xev_eq (E := xE1) (F := xFk) (P := xPg) (inl := []) (stop := [7, 38, 50]) 7 iM_worked 0 [(2, 305), (0, a1), (0, a2), (9, 0)] [] σ
set_option maxRecDepth 20000 in
theorem qM_worked_7 (v1 v2 v3 : Int) (σ : xS) : X iM_worked 7 [(2, 305), (0, v1), (0, v2), (0, v3)] [] σ =
  if v3 < v2 then (if xin v3 200 then (if (σ.1 344 v3.toNat) = 0 then (if xin v1 8 then ((X iM_rooted 0 [(2, 305), (0, v3), (9, 0), (9, 0), (9, 0), (9, 0), (9, 0), (9, 0), (9, 0), (9, 0), (9, 0)] [] σ).bind fun q1 => X iM_worked 38 [(2, 305), (0, v1), (0, v2), (0, v3)] [q1.1, (0, (xw (v3 - (σ.1 341 v1.toNat)))), (2, 364)] q1.2)
        else none)
      else X iM_worked 7 [(2, 305), (0, v1), (0, v2), (0, (xw (v3 + 1)))] [] σ)
    else none)
  else (X iM_rooted 0 [(2, 305), (0, v2), (9, 0), (9, 0), (9, 0), (9, 0), (9, 0), (9, 0), (9, 0), (9, 0), (9, 0)] [] σ).bind fun q2 => X iM_worked 50 [(2, 305), (0, v1), (0, v2), (0, v3)] [q2.1] q2.2 :=
  xev_eq (E := xE1) (F := xFk) (P := xPg) (inl := []) (stop := [7, 38, 50]) 21 iM_worked 7 [(2, 305), (0, v1), (0, v2), (0, v3)] [] σ
set_option maxRecDepth 20000 in
theorem qM_worked_38 (v1 v2 v3 t0 t1 : Int) (σ : xS) : X iM_worked 38 [(2, 305), (0, v1), (0, v2), (0, v3)] [(1, t0), (0, t1), (2, 364)] σ =
  if xin t1 24 then X iM_worked 7 [(2, 305), (0, v1), (0, v2), (0, (xw (v3 + 1)))] [] (xs σ 364 t1.toNat t0)
  else none :=
  xev_eq (E := xE1) (F := xFk) (P := xPg) (inl := []) (stop := [7, 38, 50]) 5 iM_worked 38 [(2, 305), (0, v1), (0, v2), (0, v3)] [(1, t0), (0, t1), (2, 364)] σ
set_option maxRecDepth 20000 in
theorem qM_worked_50 (t0 : Int) (vw0 vw1 vw2 vw3 : xAV) (σ : xS) : X iM_worked 50 [vw0, vw1, vw2, vw3] [(1, t0)] σ =
  some ((1, t0), σ) :=
  xev_eq (E := xE1) (F := xFk) (P := xPg) (inl := []) (stop := [7, 38, 50]) 3 iM_worked 50 [vw0, vw1, vw2, vw3] [(1, t0)] σ
set_option maxRecDepth 20000 in
theorem qM_bare_0 (a1 : Int) (σ : xS) : X iM_bare 0 [(2, 305), (0, a1), (9, 0)] [] σ =
  X iM_bare 2 [(2, 305), (0, a1), (0, 0)] [] σ :=
  xev_eq (E := xE1) (F := xFk) (P := xPg) (inl := []) (stop := [2]) 4 iM_bare 0 [(2, 305), (0, a1), (9, 0)] [] σ
set_option maxRecDepth 20000 in
theorem qM_bare_2 (v1 v2 : Int) (σ : xS) : X iM_bare 2 [(2, 305), (0, v1), (0, v2)] [] σ =
  if v2 < 9 then (if xin v2 10 then X iM_bare 2 [(2, 305), (0, v1), (0, (xw (v2 + 1)))] [] (xs σ 365 v2.toNat 0)
    else none)
  else some ((9, 0), (xs σ 365 9 v1)) :=
  xev_eq (E := xE1) (F := xFk) (P := xPg) (inl := []) (stop := [2]) 12 iM_bare 2 [(2, 305), (0, v1), (0, v2)] [] σ
set_option maxRecDepth 20000 in
theorem qM_ofSort_0 (a1 : Int) (σ : xS) : X iM_ofSort 0 [(2, 305), (0, a1)] [] σ =
  if xin a1 6 then (if xin a1 6 then (if xin a1 6 then some ((9, 0), (xs (xs (xs (xs σ 365 2 (σ.1 309 a1.toNat)) 365 3 (σ.1 310 a1.toNat)) 365 4 (σ.1 306 a1.toNat)) 365 5 a1))
      else none)
    else none)
  else none :=
  xev_eq (E := xE1) (F := xFk) (P := xPg) (inl := []) (stop := []) 36 iM_ofSort 0 [(2, 305), (0, a1)] [] σ
set_option maxRecDepth 20000 in
theorem qM_ofSheet_0 (a1 a2 a3 : Int) (σ : xS) : X iM_ofSheet 0 [(2, 305), (0, a1), (0, a2), (0, a3)] [] σ =
  (X iM_bare 0 [(2, 305), (0, a2), (9, 0)] [] σ).bind fun q1 => X iM_ofSheet 5 [(2, 305), (0, a1), (0, a2), (0, a3)] [] q1.2 :=
  xev_eq (E := xE1) (F := xFk) (P := xPg) (inl := []) (stop := [5, 15, 27]) 5 iM_ofSheet 0 [(2, 305), (0, a1), (0, a2), (0, a3)] [] σ
set_option maxRecDepth 20000 in
theorem qM_ofSheet_5 (v1 v2 v3 : Int) (σ : xS) : X iM_ofSheet 5 [(2, 305), (0, v1), (0, v2), (0, v3)] [] σ =
  if xin v1 150 then ((X iM_ofSort 0 [(2, 305), (0, (σ.1 315 v1.toNat))] [] σ).bind fun q1 => X iM_ofSheet 15 [(2, 305), (0, v1), (0, v2), (0, v3)] [] q1.2)
  else none :=
  xev_eq (E := xE1) (F := xFk) (P := xPg) (inl := []) (stop := [5, 15, 27]) 8 iM_ofSheet 5 [(2, 305), (0, v1), (0, v2), (0, v3)] [] σ
set_option maxRecDepth 20000 in
theorem qM_ofSheet_15 (v1 v2 v3 : Int) (σ : xS) : X iM_ofSheet 15 [(2, 305), (0, v1), (0, v2), (0, v3)] [] σ =
  (X iM_washesOf 0 [(2, 305), (0, v1), (0, v2), (0, v3), (9, 0), (9, 0)] [] σ).bind fun q1 => X iM_ofSheet 27 [(2, 305), (0, v1), (0, v2), (0, v3)] [q1.1, (0, 0), (2, 365)] q1.2 :=
  xev_eq (E := xE1) (F := xFk) (P := xPg) (inl := []) (stop := [5, 15, 27]) 10 iM_ofSheet 15 [(2, 305), (0, v1), (0, v2), (0, v3)] [] σ
set_option maxRecDepth 20000 in
theorem qM_ofSheet_27 (v1 v2 t0 t1 : Int) (vw3 : xAV) (σ : xS) : X iM_ofSheet 27 [(2, 305), (0, v1), (0, v2), vw3] [(0, t0), (0, t1), (2, 365)] σ =
  if xin t1 10 then (if xin v1 150 then some ((9, 0), (xs (xs σ 365 t1.toNat t0) 365 1 (xw (v2 - (σ.1 317 v1.toNat)))))
    else none)
  else none :=
  xev_eq (E := xE1) (F := xFk) (P := xPg) (inl := []) (stop := [5, 15, 27]) 16 iM_ofSheet 27 [(2, 305), (0, v1), (0, v2), vw3] [(0, t0), (0, t1), (2, 365)] σ
set_option maxRecDepth 20000 in
theorem qM_atHouse_0 (a1 a2 a3 : Int) (σ : xS) : X iM_atHouse 0 [(2, 305), (0, a1), (0, a2), (0, a3), (9, 0)] [] σ =
  (X iM_placeOf 0 [(2, 305), (0, a1), (0, a2), (0, a3), (9, 0)] [] σ).bind fun q1 => X iM_atHouse 7 [(2, 305), (0, a1), (0, a2), (0, a3), (9, 0)] [q1.1] q1.2 :=
  xev_eq (E := xE1) (F := xFk) (P := xPg) (inl := []) (stop := [7, 49, 65]) 7 iM_atHouse 0 [(2, 305), (0, a1), (0, a2), (0, a3), (9, 0)] [] σ
set_option maxRecDepth 20000 in
theorem qM_atHouse_7 (v1 v2 v3 t0 : Int) (vw4 : xAV) (σ : xS) : X iM_atHouse 7 [(2, 305), (0, v1), (0, v2), (0, v3), vw4] [(0, t0)] σ =
  if t0 < 10 then some ((9, 0), σ)
  else if xin (xw (t0 - 10)) 8 then ((X iM_sinceOf 0 [(2, 305), (0, v1), (0, v2), (0, v3), (9, 0)] [] (xs σ 365 6 (σ.1 311 (xw (t0 - 10)).toNat))).bind fun q1 => X iM_atHouse 49 [(2, 305), (0, v1), (0, v2), (0, v3), (0, t0)] [q1.1, (0, v2), (0, 7), (2, 365)] q1.2)
  else none :=
  xev_eq (E := xE1) (F := xFk) (P := xPg) (inl := []) (stop := [7, 49, 65]) 26 iM_atHouse 7 [(2, 305), (0, v1), (0, v2), (0, v3), vw4] [(0, t0)] σ
set_option maxRecDepth 20000 in
theorem qM_atHouse_49 (v1 v2 v3 t0 t1 t2 : Int) (vw4 : xAV) (σ : xS) : X iM_atHouse 49 [(2, 305), (0, v1), (0, v2), (0, v3), vw4] [(0, t0), (0, t1), (0, t2), (2, 365)] σ =
  if xin t2 10 then ((X iM_missesOf 0 [(2, 305), (0, v1), (0, v2), (0, v3), (9, 0), (9, 0), (9, 0), (9, 0)] [] (xs σ 365 t2.toNat (xw (t1 - t0)))).bind fun q1 => X iM_atHouse 65 [(2, 305), (0, v1), (0, v2), (0, v3), vw4] [q1.1, (0, 8), (2, 365)] q1.2)
  else none :=
  xev_eq (E := xE1) (F := xFk) (P := xPg) (inl := []) (stop := [7, 49, 65]) 13 iM_atHouse 49 [(2, 305), (0, v1), (0, v2), (0, v3), vw4] [(0, t0), (0, t1), (0, t2), (2, 365)] σ
set_option maxRecDepth 20000 in
theorem qM_atHouse_65 (t0 t1 : Int) (vw0 vw1 vw2 vw3 vw4 : xAV) (σ : xS) : X iM_atHouse 65 [vw0, vw1, vw2, vw3, vw4] [(0, t0), (0, t1), (2, 365)] σ =
  if xin t1 10 then some ((9, 0), (xs σ 365 t1.toNat t0))
  else none :=
  xev_eq (E := xE1) (F := xFk) (P := xPg) (inl := []) (stop := [7, 49, 65]) 5 iM_atHouse 65 [vw0, vw1, vw2, vw3, vw4] [(0, t0), (0, t1), (2, 365)] σ
set_option maxRecDepth 20000 in
theorem qM_lastOf_0 (a1 a2 a3 : Int) (σ : xS) : X iM_lastOf 0 [(2, 305), (0, a1), (0, a2), (0, a3), (9, 0), (9, 0)] [] σ =
  if a1 < 0 then some ((0, (-1)), σ)
  else if xin a1 8 then X iM_lastOf 18 [(2, 305), (0, a1), (0, a2), (0, a3), (0, (-1)), (0, (σ.1 341 a1.toNat))] [] σ
  else none :=
  xev_eq (E := xE1) (F := xFk) (P := xPg) (inl := []) (stop := [18]) 11 iM_lastOf 0 [(2, 305), (0, a1), (0, a2), (0, a3), (9, 0), (9, 0)] [] σ
set_option maxRecDepth 20000 in
theorem qM_lastOf_18 (v1 v2 v3 v4 v5 : Int) (σ : xS) : X iM_lastOf 18 [(2, 305), (0, v1), (0, v2), (0, v3), (0, v4), (0, v5)] [] σ =
  if xin v1 8 then (if xin v1 8 then (if v5 < (xw ((σ.1 341 v1.toNat) + (σ.1 342 v1.toNat))) then (if xin v5 200 then (if (σ.1 344 v5.toNat) = v2 then (if xin v5 200 then (if (σ.1 345 v5.toNat) = v3 then X iM_lastOf 18 [(2, 305), (0, v1), (0, v2), (0, v3), (0, v5), (0, (xw (v5 + 1)))] [] σ
              else X iM_lastOf 18 [(2, 305), (0, v1), (0, v2), (0, v3), (0, v4), (0, (xw (v5 + 1)))] [] σ)
            else none)
          else X iM_lastOf 18 [(2, 305), (0, v1), (0, v2), (0, v3), (0, v4), (0, (xw (v5 + 1)))] [] σ)
        else none)
      else some ((0, v4), σ))
    else none)
  else none :=
  xev_eq (E := xE1) (F := xFk) (P := xPg) (inl := []) (stop := [18]) 29 iM_lastOf 18 [(2, 305), (0, v1), (0, v2), (0, v3), (0, v4), (0, v5)] [] σ
set_option maxRecDepth 20000 in
theorem qLedger_inForce_0 (a1 : Int) (σ : xS) : X iLedger_inForce 0 [(2, 243), (0, a1), (9, 0)] [] σ =
  X iLedger_inForce 7 [(2, 243), (0, a1), (0, (xw ((σ.1 243 5) - 1)))] [] σ :=
  xev_eq (E := xE1) (F := xFk) (P := xPg) (inl := []) (stop := [7]) 7 iLedger_inForce 0 [(2, 243), (0, a1), (9, 0)] [] σ
set_option maxRecDepth 20000 in
theorem qLedger_inForce_7 (v1 v2 : Int) (σ : xS) : X iLedger_inForce 7 [(2, 243), (0, v1), (0, v2)] [] σ =
  if v2 < 0 then some ((2, 0), σ)
  else if xin v2 8 then (xob (xfld xE1 σ (σ.1 244 v2.toNat) 11 0) none fun w1 => if v1 < w1 then X iLedger_inForce 7 [(2, 243), (0, v1), (0, (xw (v2 + (-1))))] [] σ
    else if xin v2 8 then some ((2, (σ.1 244 v2.toNat)), σ)
    else none)
  else none :=
  xev_eq (E := xE1) (F := xFk) (P := xPg) (inl := []) (stop := [7]) 16 iLedger_inForce 7 [(2, 243), (0, v1), (0, v2)] [] σ
set_option maxRecDepth 20000 in
theorem qLedger_holdDay_0 (a1 : Int) (σ : xS) : X iLedger_holdDay 0 [(2, 243), (0, a1)] [] σ =
  (X iJR_fill2 0 [(2, 254), (1, 0), (8, 0), (9, 0), (9, 0)] [] σ).bind fun q1 => X iLedger_holdDay 8 [(2, 243), (0, a1)] [] q1.2 :=
  xev_eq (E := xE1) (F := xFk) (P := xPg) (inl := []) (stop := [8]) 6 iLedger_holdDay 0 [(2, 243), (0, a1)] [] σ
set_option maxRecDepth 20000 in
theorem qLedger_holdDay_8 (v1 : Int) (σ : xS) : X iLedger_holdDay 8 [(2, 243), (0, v1)] [] σ =
  some ((9, 0), (xs σ 254 9 v1)) :=
  xev_eq (E := xE1) (F := xFk) (P := xPg) (inl := []) (stop := [8]) 10 iLedger_holdDay 8 [(2, 243), (0, v1)] [] σ
set_option maxRecDepth 20000 in
theorem qLedger_holdSort_0 (a1 : Int) (σ : xS) : X iLedger_holdSort 0 [(2, 243), (0, a1)] [] σ =
  if xin a1 6 then (if xin a1 6 then (if xin a1 6 then some ((9, 0), (xs (xs (xs (xs σ 254 2 (σ.1 205 a1.toNat)) 254 3 (σ.1 206 a1.toNat)) 254 4 (σ.1 202 a1.toNat)) 254 5 a1))
      else none)
    else none)
  else none :=
  xev_eq (E := xE1) (F := xFk) (P := xPg) (inl := []) (stop := []) 43 iLedger_holdSort 0 [(2, 243), (0, a1)] [] σ
set_option maxRecDepth 20000 in
theorem qLedger_holdSheet_0 (a1 a2 a3 : Int) (σ : xS) : X iLedger_holdSheet 0 [(2, 243), (0, a1), (0, a2), (0, a3)] [] σ =
  (X iLedger_holdDay 0 [(2, 243), (0, a2)] [] σ).bind fun q1 => X iLedger_holdSheet 5 [(2, 243), (0, a1), (0, a2), (0, a3)] [] q1.2 :=
  xev_eq (E := xE1) (F := xFk) (P := xPg) (inl := []) (stop := [5, 18, 38]) 5 iLedger_holdSheet 0 [(2, 243), (0, a1), (0, a2), (0, a3)] [] σ
set_option maxRecDepth 20000 in
theorem qLedger_holdSheet_5 (v1 v2 v3 : Int) (σ : xS) : X iLedger_holdSheet 5 [(2, 243), (0, v1), (0, v2), (0, v3)] [] σ =
  if xin v1 150 then ((X iLedger_holdSort 0 [(2, 243), (0, (σ.1 217 v1.toNat))] [] σ).bind fun q1 => X iLedger_holdSheet 18 [(2, 243), (0, v1), (0, v2), (0, v3)] [] q1.2)
  else none :=
  xev_eq (E := xE1) (F := xFk) (P := xPg) (inl := []) (stop := [5, 18, 38]) 9 iLedger_holdSheet 5 [(2, 243), (0, v1), (0, v2), (0, v3)] [] σ
set_option maxRecDepth 20000 in
theorem qLedger_holdSheet_18 (v1 v2 v3 : Int) (σ : xS) : X iLedger_holdSheet 18 [(2, 243), (0, v1), (0, v2), (0, v3)] [] σ =
  (X iBook_washesAt 0 [(2, 216), (0, v1), (0, v2), (0, v3), (9, 0), (9, 0), (9, 0), (9, 0)] [] σ).bind fun q1 => X iLedger_holdSheet 38 [(2, 243), (0, v1), (0, v2), (0, v3)] [q1.1, (0, 0), (2, 254)] q1.2 :=
  xev_eq (E := xE1) (F := xFk) (P := xPg) (inl := []) (stop := [5, 18, 38]) 12 iLedger_holdSheet 18 [(2, 243), (0, v1), (0, v2), (0, v3)] [] σ
set_option maxRecDepth 20000 in
theorem qLedger_holdSheet_38 (v1 v2 t0 t1 : Int) (vw3 : xAV) (σ : xS) : X iLedger_holdSheet 38 [(2, 243), (0, v1), (0, v2), vw3] [(0, t0), (0, t1), (2, 254)] σ =
  if xin t1 10 then (if xin v1 150 then some ((9, 0), (xs (xs σ 254 t1.toNat t0) 254 1 (xw (v2 - (σ.1 219 v1.toNat)))))
    else none)
  else none :=
  xev_eq (E := xE1) (F := xFk) (P := xPg) (inl := []) (stop := [5, 18, 38]) 18 iLedger_holdSheet 38 [(2, 243), (0, v1), (0, v2), vw3] [(0, t0), (0, t1), (2, 254)] σ
set_option maxRecDepth 20000 in
theorem qLedger_holdSheetInPlace_0 (a1 a2 a3 : Int) (σ : xS) : X iLedger_holdSheetInPlace 0 [(2, 243), (0, a1), (0, a2), (0, a3), (9, 0)] [] σ =
  (X iLedger_holdSheet 0 [(2, 243), (0, a1), (0, a2), (0, a3)] [] σ).bind fun q1 => X iLedger_holdSheetInPlace 7 [(2, 243), (0, a1), (0, a2), (0, a3), (9, 0)] [] q1.2 :=
  xev_eq (E := xE1) (F := xFk) (P := xPg) (inl := [225]) (stop := [7, 17, 56, 79]) 7 iLedger_holdSheetInPlace 0 [(2, 243), (0, a1), (0, a2), (0, a3), (9, 0)] [] σ
set_option maxRecDepth 20000 in
theorem qLedger_holdSheetInPlace_7 (v1 v2 v3 : Int) (vw4 : xAV) (σ : xS) : X iLedger_holdSheetInPlace 7 [(2, 243), (0, v1), (0, v2), (0, v3), vw4] [] σ =
  (X iBook_placeAt 0 [(2, 216), (0, v1), (0, v2), (0, v3), (9, 0)] [] σ).bind fun q1 => X iLedger_holdSheetInPlace 17 [(2, 243), (0, v1), (0, v2), (0, v3), vw4] [q1.1] q1.2 :=
  xev_eq (E := xE1) (F := xFk) (P := xPg) (inl := [225]) (stop := [7, 17, 56, 79]) 8 iLedger_holdSheetInPlace 7 [(2, 243), (0, v1), (0, v2), (0, v3), vw4] [] σ
set_option maxRecDepth 20000 in
theorem qLedger_holdSheetInPlace_17 (v1 v2 v3 t0 : Int) (vw4 : xAV) (σ : xS) : X iLedger_holdSheetInPlace 17 [(2, 243), (0, v1), (0, v2), (0, v3), vw4] [(0, t0)] σ =
  if t0 < 10 then some ((9, 0), σ)
  else if xin (xw (t0 - 10)) 8 then ((X iBook_sinceAt 0 [(2, 216), (0, v1), (0, v2), (0, v3), (9, 0)] [] (xs σ 254 6 (σ.1 210 (xw (t0 - 10)).toNat))).bind fun q1 => X iLedger_holdSheetInPlace 56 [(2, 243), (0, v1), (0, v2), (0, v3), (0, t0)] [q1.1, (0, v2), (0, 7), (2, 254)] q1.2)
  else none :=
  xev_eq (E := xE1) (F := xFk) (P := xPg) (inl := [225]) (stop := [7, 17, 56, 79]) 34 iLedger_holdSheetInPlace 17 [(2, 243), (0, v1), (0, v2), (0, v3), vw4] [(0, t0)] σ
set_option maxRecDepth 20000 in
theorem qLedger_holdSheetInPlace_56 (v1 v2 v3 t0 t1 t2 : Int) (vw4 : xAV) (σ : xS) : X iLedger_holdSheetInPlace 56 [(2, 243), (0, v1), (0, v2), (0, v3), vw4] [(0, t0), (0, t1), (0, t2), (2, 254)] σ =
  if xin t2 10 then ((X iEvidence_missesOf 0 [(2, 229), (0, v1), (0, v2), (0, v3), (9, 0), (9, 0), (9, 0), (9, 0)] [] (xs σ 254 t2.toNat (xw (t1 - t0)))).bind fun q1 => X iLedger_holdSheetInPlace 79 [(2, 243), (0, v1), (0, v2), (0, v3), vw4] [q1.1, (0, 8), (2, 254)] q1.2)
  else none :=
  xev_eq (E := xE1) (F := xFk) (P := xPg) (inl := [225]) (stop := [7, 17, 56, 79]) 15 iLedger_holdSheetInPlace 56 [(2, 243), (0, v1), (0, v2), (0, v3), vw4] [(0, t0), (0, t1), (0, t2), (2, 254)] σ
set_option maxRecDepth 20000 in
theorem qLedger_holdSheetInPlace_79 (t0 t1 : Int) (vw0 vw1 vw2 vw3 vw4 : xAV) (σ : xS) : X iLedger_holdSheetInPlace 79 [vw0, vw1, vw2, vw3, vw4] [(0, t0), (0, t1), (2, 254)] σ =
  if xin t1 10 then some ((9, 0), (xs σ 254 t1.toNat t0))
  else none :=
  xev_eq (E := xE1) (F := xFk) (P := xPg) (inl := [225]) (stop := [7, 17, 56, 79]) 5 iLedger_holdSheetInPlace 79 [vw0, vw1, vw2, vw3, vw4] [(0, t0), (0, t1), (2, 254)] σ
set_option maxRecDepth 20000 in
theorem qTerms_lastOf_0 (a0 a1 : Int) (σ : xS) : X iTerms_lastOf 0 [(2, a0), (2, a1), (9, 0), (9, 0)] [] σ =
  xob (xfld xE1 σ a0 11 2) none fun w1 => X iTerms_lastOf 7 [(2, a0), (2, a1), (2, 0), (2, w1)] [] σ :=
  xev_eq (E := xE1) (F := xFk) (P := xPg) (inl := []) (stop := [7]) 7 iTerms_lastOf 0 [(2, a0), (2, a1), (9, 0), (9, 0)] [] σ
set_option maxRecDepth 20000 in
theorem qTerms_lastOf_7 (v1 v2 v3 : Int) (vw0 : xAV) (σ : xS) : X iTerms_lastOf 7 [vw0, (2, v1), (2, v2), (2, v3)] [] σ =
  if v3 = 0 then some ((2, v2), σ)
  else xob (xfld xE1 σ v3 7 0) none fun w1 => bif (xcm w1 && xcm v1) then (if w1 = v1 then (xob (xfld xE1 σ v3 7 7) none fun w2 => X iTerms_lastOf 7 [vw0, (2, v1), (2, v3), (2, w2)] [] σ)
    else xob (xfld xE1 σ v3 7 7) none fun w3 => X iTerms_lastOf 7 [vw0, (2, v1), (2, v2), (2, w3)] [] σ)
  else none :=
  xev_eq (E := xE1) (F := xFk) (P := xPg) (inl := []) (stop := [7]) 15 iTerms_lastOf 7 [vw0, (2, v1), (2, v2), (2, v3)] [] σ
set_option maxRecDepth 20000 in
theorem qTerms_lastPrice_0 (a0 a1 : Int) (σ : xS) : X iTerms_lastPrice 0 [(2, a0), (0, a1), (9, 0), (9, 0), (9, 0)] [] σ =
  xob (xfld xE1 σ a0 11 2) none fun w1 => X iTerms_lastPrice 10 [(2, a0), (0, a1), (2, 0), (2, 0), (2, w1)] [] σ :=
  xev_eq (E := xE1) (F := xFk) (P := xPg) (inl := []) (stop := [10]) 9 iTerms_lastPrice 0 [(2, a0), (0, a1), (9, 0), (9, 0), (9, 0)] [] σ
set_option maxRecDepth 20000 in
theorem qTerms_lastPrice_10 (v1 v2 v3 v4 : Int) (vw0 : xAV) (σ : xS) : X iTerms_lastPrice 10 [vw0, (0, v1), (2, v2), (2, v3), (2, v4)] [] σ =
  if v4 = 0 then (if v2 = 0 then some ((2, v3), σ)
    else some ((2, v2), σ))
  else xob (xfld xE1 σ v4 7 0) none fun w1 => bif (xcm w1 && xcm 3) then (if w1 = 3 then (xob (xfld xE1 σ v4 7 1) none fun w2 => if w2 = v1 then (xob (xfld xE1 σ v4 7 1) none fun w3 => if w3 = (-1) then (xob (xfld xE1 σ v4 7 7) none fun w4 => X iTerms_lastPrice 10 [vw0, (0, v1), (2, v4), (2, v4), (2, w4)] [] σ)
        else xob (xfld xE1 σ v4 7 7) none fun w5 => X iTerms_lastPrice 10 [vw0, (0, v1), (2, v4), (2, v3), (2, w5)] [] σ)
      else xob (xfld xE1 σ v4 7 1) none fun w6 => if w6 = (-1) then (xob (xfld xE1 σ v4 7 7) none fun w7 => X iTerms_lastPrice 10 [vw0, (0, v1), (2, v2), (2, v4), (2, w7)] [] σ)
      else xob (xfld xE1 σ v4 7 7) none fun w8 => X iTerms_lastPrice 10 [vw0, (0, v1), (2, v2), (2, v3), (2, w8)] [] σ)
    else xob (xfld xE1 σ v4 7 7) none fun w9 => X iTerms_lastPrice 10 [vw0, (0, v1), (2, v2), (2, v3), (2, w9)] [] σ)
  else none :=
  xev_eq (E := xE1) (F := xFk) (P := xPg) (inl := []) (stop := [10]) 26 iTerms_lastPrice 10 [vw0, (0, v1), (2, v2), (2, v3), (2, v4)] [] σ
set_option maxRecDepth 20000 in
theorem qTerms_lastLoss_0 (a0 a1 : Int) (σ : xS) : X iTerms_lastLoss 0 [(2, a0), (2, a1), (9, 0), (9, 0)] [] σ =
  xob (xfld xE1 σ a0 11 2) none fun w1 => X iTerms_lastLoss 7 [(2, a0), (2, a1), (2, 0), (2, w1)] [] σ :=
  xev_eq (E := xE1) (F := xFk) (P := xPg) (inl := []) (stop := [7]) 7 iTerms_lastLoss 0 [(2, a0), (2, a1), (9, 0), (9, 0)] [] σ
set_option maxRecDepth 20000 in
theorem qTerms_lastLoss_7 (v1 v2 v3 : Int) (vw0 : xAV) (σ : xS) : X iTerms_lastLoss 7 [vw0, (2, v1), (2, v2), (2, v3)] [] σ =
  if v3 = 0 then some ((2, v2), σ)
  else xob (xfld xE1 σ v3 7 0) none fun w1 => bif (xcm w1 && xcm 4) then (if w1 = 4 then (xob (xfld xE1 σ v3 7 3) none fun w2 => bif (xcm w2 && xcm v1) then (if w2 = v1 then (xob (xfld xE1 σ v3 7 7) none fun w3 => X iTerms_lastLoss 7 [vw0, (2, v1), (2, v3), (2, w3)] [] σ)
        else xob (xfld xE1 σ v3 7 7) none fun w4 => X iTerms_lastLoss 7 [vw0, (2, v1), (2, v2), (2, w4)] [] σ)
      else none)
    else xob (xfld xE1 σ v3 7 7) none fun w5 => X iTerms_lastLoss 7 [vw0, (2, v1), (2, v2), (2, w5)] [] σ)
  else none :=
  xev_eq (E := xE1) (F := xFk) (P := xPg) (inl := []) (stop := [7]) 19 iTerms_lastLoss 7 [vw0, (2, v1), (2, v2), (2, v3)] [] σ
set_option maxRecDepth 20000 in
theorem qTerms_firstFeast_0 (a0 a1 : Int) (σ : xS) : X iTerms_firstFeast 0 [(2, a0), (0, a1), (9, 0)] [] σ =
  xob (xfld xE1 σ a0 11 2) none fun w1 => X iTerms_firstFeast 5 [(2, a0), (0, a1), (2, w1)] [] σ :=
  xev_eq (E := xE1) (F := xFk) (P := xPg) (inl := []) (stop := [5]) 5 iTerms_firstFeast 0 [(2, a0), (0, a1), (9, 0)] [] σ
set_option maxRecDepth 20000 in
theorem qTerms_firstFeast_5 (v1 v2 : Int) (vw0 : xAV) (σ : xS) : X iTerms_firstFeast 5 [vw0, (0, v1), (2, v2)] [] σ =
  if v2 = 0 then some ((2, 0), σ)
  else xob (xfld xE1 σ v2 7 0) none fun w1 => bif (xcm w1 && xcm 6) then (if w1 = 6 then (xob (xfld xE1 σ v2 7 1) none fun w2 => if v1 < w2 then (xob (xfld xE1 σ v2 7 7) none fun w3 => X iTerms_firstFeast 5 [vw0, (0, v1), (2, w3)] [] σ)
      else xob (xfld xE1 σ v2 7 2) none fun w4 => if w4 < v1 then (xob (xfld xE1 σ v2 7 7) none fun w5 => X iTerms_firstFeast 5 [vw0, (0, v1), (2, w5)] [] σ)
      else some ((2, v2), σ))
    else xob (xfld xE1 σ v2 7 7) none fun w6 => X iTerms_firstFeast 5 [vw0, (0, v1), (2, w6)] [] σ)
  else none :=
  xev_eq (E := xE1) (F := xFk) (P := xPg) (inl := []) (stop := [5]) 20 iTerms_firstFeast 5 [vw0, (0, v1), (2, v2)] [] σ
set_option maxRecDepth 20000 in
theorem qTerms_nameOf_0 (a0 a1 : Int) (σ : xS) : X iTerms_nameOf 0 [(2, a0), (0, a1)] [] σ =
  bif xisO xE1 σ a0 11 then (xob (xfld xE1 σ a0 11 4) none fun w1 => xob (xlen xE1 σ w1) none fun n2 => if a1 < 0 then some ((1, 0), σ)
    else if (xw (((n2 : Nat) : Int) - 1)) < a1 then some ((1, 0), σ)
    else xob (xfld xE1 σ a0 11 4) none fun w3 => xob (xarr xE1 σ w3 1) none fun n4 => if xin a1 n4 then some ((1, (xag xE1 σ w3 a1.toNat)), σ)
    else none)
  else none :=
  xev_eq (E := xE1) (F := xFk) (P := xPg) (inl := [172, 326]) (stop := []) 30 iTerms_nameOf 0 [(2, a0), (0, a1)] [] σ
set_option maxRecDepth 20000 in
theorem qTerms_exOfStatement_0 (a0 a1 : Int) (σ : xS) : X iTerms_exOfStatement 0 [(2, a0), (2, a1)] [] σ =
  xob (xfld xE1 σ a1 7 6) none fun w1 => bif xisO xE1 σ a0 11 then ((X iTerms_exOf 0 [(2, a0), (2, w1)] [] σ).bind fun q2 => X iTerms_exOfStatement 8 [(2, a0), (2, a1)] [q2.1] q2.2)
  else none :=
  xev_eq (E := xE1) (F := xFk) (P := xPg) (inl := []) (stop := [8]) 6 iTerms_exOfStatement 0 [(2, a0), (2, a1)] [] σ
set_option maxRecDepth 20000 in
theorem qTerms_exOfStatement_8 (t0 : Int) (vw0 vw1 : xAV) (σ : xS) : X iTerms_exOfStatement 8 [vw0, vw1] [(1, t0)] σ =
  some ((1, t0), σ) :=
  xev_eq (E := xE1) (F := xFk) (P := xPg) (inl := []) (stop := [8]) 3 iTerms_exOfStatement 8 [vw0, vw1] [(1, t0)] σ
set_option maxRecDepth 20000 in
theorem qTerms_nameAll_0 (a0 : Int) (σ : xS) : X iTerms_nameAll 0 [(2, a0), (9, 0), (9, 0)] [] σ =
  xob (xfld xE1 σ a0 11 2) none fun w1 => X iTerms_nameAll 7 [(2, a0), (0, 0), (2, w1)] [] σ :=
  xev_eq (E := xE1) (F := xFk) (P := xPg) (inl := []) (stop := [7, 43]) 7 iTerms_nameAll 0 [(2, a0), (9, 0), (9, 0)] [] σ
set_option maxRecDepth 20000 in
theorem qTerms_nameAll_7 (v0 v1 v2 : Int) (σ : xS) : X iTerms_nameAll 7 [(2, v0), (0, v1), (2, v2)] [] σ =
  if v2 = 0 then some ((9, 0), σ)
  else xob (xfld xE1 σ v2 7 0) none fun w1 => bif (xcm w1 && xcm 2) then (if w1 = 2 then (xob (xfld xE1 σ v0 11 4) none fun w2 => xob (xlen xE1 σ w2) none fun n3 => if v1 < ((n3 : Nat) : Int) then (xob (xfld xE1 σ v0 11 4) none fun w4 => xob (xfld xE1 σ v2 7 6) none fun w5 => bif xisO xE1 σ v0 11 then ((X iTerms_exOf 0 [(2, v0), (2, w5)] [] σ).bind fun q6 => X iTerms_nameAll 43 [(2, v0), (0, v1), (2, v2)] [q6.1, (0, v1), (2, w4)] q6.2)
        else none)
      else xob (xfld xE1 σ v2 7 7) none fun w7 => X iTerms_nameAll 7 [(2, v0), (0, v1), (2, w7)] [] σ)
    else xob (xfld xE1 σ v2 7 7) none fun w8 => X iTerms_nameAll 7 [(2, v0), (0, v1), (2, w8)] [] σ)
  else none :=
  xev_eq (E := xE1) (F := xFk) (P := xPg) (inl := []) (stop := [7, 43]) 20 iTerms_nameAll 7 [(2, v0), (0, v1), (2, v2)] [] σ
set_option maxRecDepth 20000 in
theorem qTerms_nameAll_43 (v0 v1 v2 t0 t1 t2 : Int) (σ : xS) : X iTerms_nameAll 43 [(2, v0), (0, v1), (2, v2)] [(1, t0), (0, t1), (2, t2)] σ =
  xob (xarr xE1 σ t2 1) none fun n1 => if xin t1 n1 then (xob (xwr xE1 σ t2 t1.toNat t0) none fun s2 => xob (xfld xE1 s2 v2 7 7) none fun w3 => X iTerms_nameAll 7 [(2, v0), (0, (xw (v1 + 1))), (2, w3)] [] s2)
  else none :=
  xev_eq (E := xE1) (F := xFk) (P := xPg) (inl := []) (stop := [7, 43]) 8 iTerms_nameAll 43 [(2, v0), (0, v1), (2, v2)] [(1, t0), (0, t1), (2, t2)] σ
set_option maxRecDepth 20000 in
theorem qTerms_exOf_0 (a0 a1 : Int) (σ : xS) : X iTerms_exOf 0 [(2, a0), (2, a1)] [] σ =
  if a1 = 0 then some ((1, 0), σ)
  else xob (xfld xE1 σ a1 7 0) none fun w1 => bif xisO xE1 σ w1 50 then (xob (xfld xE1 σ w1 50 0) none fun w2 => if xin w2 38 then (if (xag xE1 σ 41 w2.toNat) = 7 then (xob (xfld xE1 σ a1 7 1) none fun w14 => some ((1, w14), σ))
      else if (xag xE1 σ 41 w2.toNat) = 8 then (xob (xfld xE1 σ a1 7 1) none fun w11 => bif xisO xE1 σ a0 11 then (xob (xfld xE1 σ a0 11 4) none fun w12 => xob (xlen xE1 σ w12) none fun n13 => if w11 < 0 then X iTerms_exOf 94 [(2, a0), (2, a1)] [(0, 0)] σ
          else if (xw (((n13 : Nat) : Int) - 1)) < w11 then X iTerms_exOf 94 [(2, a0), (2, a1)] [(0, 0)] σ
          else X iTerms_exOf 94 [(2, a0), (2, a1)] [(0, 1)] σ)
        else none)
      else if (xag xE1 σ 41 w2.toNat) = 9 then (bif xisO xE1 σ a0 11 then (bif Nat.beq (xdp σ) 0 then none
          else (X iTerms_exOfParts 0 [(2, a0), (2, a1), (9, 0), (9, 0), (9, 0), (9, 0), (9, 0), (9, 0)] [] (xsetdp σ (xdp σ - 1))).bind fun q10 => X iTerms_exOf 135 [(2, a0), (2, a1)] [q10.1] (xsetdp q10.2 (xdp σ)))
        else none)
      else if (xag xE1 σ 41 w2.toNat) = 10 then (bif xisO xE1 σ a0 11 then (bif Nat.beq (xdp σ) 0 then none
          else (X iTerms_exOfParts 0 [(2, a0), (2, a1), (9, 0), (9, 0), (9, 0), (9, 0), (9, 0), (9, 0)] [] (xsetdp σ (xdp σ - 1))).bind fun q9 => X iTerms_exOf 135 [(2, a0), (2, a1)] [q9.1] (xsetdp q9.2 (xdp σ)))
        else none)
      else if (xag xE1 σ 41 w2.toNat) = 11 then X iTerms_exOf 136 [(2, a0), (2, a1)] [] σ
      else if (xag xE1 σ 41 w2.toNat) = 12 then (xob (xfld xE1 σ a1 7 6) none fun w7 => bif xisO xE1 σ a0 11 then (bif Nat.beq (xdp σ) 0 then none
          else (X iTerms_exOf 0 [(2, a0), (2, w7)] [] (xsetdp σ (xdp σ - 1))).bind fun q8 => X iTerms_exOf 119 [(2, a0), (2, a1)] [q8.1] (xsetdp q8.2 (xdp σ)))
        else none)
      else if (xag xE1 σ 41 w2.toNat) = 13 then X iTerms_exOf 136 [(2, a0), (2, a1)] [] σ
      else if (xag xE1 σ 41 w2.toNat) = 14 then X iTerms_exOf 136 [(2, a0), (2, a1)] [] σ
      else if (xag xE1 σ 41 w2.toNat) = 15 then X iTerms_exOf 136 [(2, a0), (2, a1)] [] σ
      else if (xag xE1 σ 41 w2.toNat) = 16 then (xob (xfld xE1 σ a1 7 6) none fun w5 => bif xisO xE1 σ a0 11 then (bif Nat.beq (xdp σ) 0 then none
          else (X iTerms_exOfIf 0 [(2, a0), (2, w5), (9, 0)] [] (xsetdp σ (xdp σ - 1))).bind fun q6 => X iTerms_exOf 129 [(2, a0), (2, a1)] [q6.1] (xsetdp q6.2 (xdp σ)))
        else none)
      else if (xag xE1 σ 41 w2.toNat) = 17 then (bif xisO xE1 σ a0 11 then (bif Nat.beq (xdp σ) 0 then none
          else (X iTerms_exOfParts 0 [(2, a0), (2, a1), (9, 0), (9, 0), (9, 0), (9, 0), (9, 0), (9, 0)] [] (xsetdp σ (xdp σ - 1))).bind fun q4 => X iTerms_exOf 135 [(2, a0), (2, a1)] [q4.1] (xsetdp q4.2 (xdp σ)))
        else none)
      else if (xag xE1 σ 41 w2.toNat) = 18 then (bif xisO xE1 σ a0 11 then (bif Nat.beq (xdp σ) 0 then none
          else (X iTerms_exOfParts 0 [(2, a0), (2, a1), (9, 0), (9, 0), (9, 0), (9, 0), (9, 0), (9, 0)] [] (xsetdp σ (xdp σ - 1))).bind fun q3 => X iTerms_exOf 135 [(2, a0), (2, a1)] [q3.1] (xsetdp q3.2 (xdp σ)))
        else none)
      else X iTerms_exOf 136 [(2, a0), (2, a1)] [] σ)
    else none)
  else none :=
  xev_eq (E := xE1) (F := xFk) (P := xPg) (inl := [172, 326, 356]) (stop := [94, 119, 129, 135, 136, 154]) 35 iTerms_exOf 0 [(2, a0), (2, a1)] [] σ
set_option maxRecDepth 20000 in
theorem qTerms_exOf_94 (v0 v1 t0 : Int) (σ : xS) : X iTerms_exOf 94 [(2, v0), (2, v1)] [(0, t0)] σ =
  if t0 = 0 then some ((1, 0), σ)
  else xob (xfld xE1 σ v0 11 4) none fun w1 => xob (xfld xE1 σ v1 7 1) none fun w2 => xob (xarr xE1 σ w1 1) none fun n3 => if xin w2 n3 then some ((1, (xag xE1 σ w1 w2.toNat)), σ)
  else none :=
  xev_eq (E := xE1) (F := xFk) (P := xPg) (inl := [172, 326, 356]) (stop := [94, 119, 129, 135, 136, 154]) 10 iTerms_exOf 94 [(2, v0), (2, v1)] [(0, t0)] σ
set_option maxRecDepth 20000 in
theorem qTerms_exOf_119 (t0 : Int) (vw0 vw1 : xAV) (σ : xS) : X iTerms_exOf 119 [vw0, vw1] [(1, t0)] σ =
  some ((1, (xW (-t0))), σ) :=
  xev_eq (E := xE1) (F := xFk) (P := xPg) (inl := [172, 326, 356]) (stop := [94, 119, 129, 135, 136, 154]) 4 iTerms_exOf 119 [vw0, vw1] [(1, t0)] σ
set_option maxRecDepth 20000 in
theorem qTerms_exOf_129 (t0 : Int) (vw0 vw1 : xAV) (σ : xS) : X iTerms_exOf 129 [vw0, vw1] [(1, t0)] σ =
  some ((1, t0), σ) :=
  xev_eq (E := xE1) (F := xFk) (P := xPg) (inl := [172, 326, 356]) (stop := [94, 119, 129, 135, 136, 154]) 3 iTerms_exOf 129 [vw0, vw1] [(1, t0)] σ
set_option maxRecDepth 20000 in
theorem qTerms_exOf_135 (t0 : Int) (vw0 vw1 : xAV) (σ : xS) : X iTerms_exOf 135 [vw0, vw1] [(1, t0)] σ =
  some ((1, t0), σ) :=
  xev_eq (E := xE1) (F := xFk) (P := xPg) (inl := [172, 326, 356]) (stop := [94, 119, 129, 135, 136, 154]) 3 iTerms_exOf 135 [vw0, vw1] [(1, t0)] σ
set_option maxRecDepth 20000 in
theorem qTerms_exOf_136 (v0 v1 : Int) (σ : xS) : X iTerms_exOf 136 [(2, v0), (2, v1)] [] σ =
  xob (xfld xE1 σ v1 7 0) none fun w1 => xob (xfld xE1 σ w1 50 2) none fun w2 => xob (xfld xE1 σ v0 11 3) none fun w3 => xob (xlen xE1 σ w3) none fun n4 => if w2 < 0 then X iTerms_exOf 154 [(2, v0), (2, v1)] [(0, 0)] σ
  else if (xw (((n4 : Nat) : Int) - 1)) < w2 then X iTerms_exOf 154 [(2, v0), (2, v1)] [(0, 0)] σ
  else X iTerms_exOf 154 [(2, v0), (2, v1)] [(0, 1)] σ :=
  xev_eq (E := xE1) (F := xFk) (P := xPg) (inl := [172, 326, 356]) (stop := [94, 119, 129, 135, 136, 154]) 21 iTerms_exOf 136 [(2, v0), (2, v1)] [] σ
set_option maxRecDepth 20000 in
theorem qTerms_exOf_154 (v0 v1 t0 : Int) (σ : xS) : X iTerms_exOf 154 [(2, v0), (2, v1)] [(0, t0)] σ =
  if t0 = 0 then some ((1, 0), σ)
  else xob (xfld xE1 σ v0 11 3) none fun w1 => xob (xfld xE1 σ v1 7 0) none fun w2 => xob (xfld xE1 σ w2 50 2) none fun w3 => xob (xarr xE1 σ w1 1) none fun n4 => if xin w3 n4 then some ((1, (xag xE1 σ w1 w3.toNat)), σ)
  else none :=
  xev_eq (E := xE1) (F := xFk) (P := xPg) (inl := [172, 326, 356]) (stop := [94, 119, 129, 135, 136, 154]) 11 iTerms_exOf 154 [(2, v0), (2, v1)] [(0, t0)] σ
set_option maxRecDepth 20000 in
theorem qTerms_exOfIf_0 (a0 a1 : Int) (σ : xS) : X iTerms_exOfIf 0 [(2, a0), (2, a1), (9, 0)] [] σ =
  if a1 = 0 then some ((1, 0), σ)
  else xob (xfld xE1 σ a1 7 7) none fun w1 => if w1 = 0 then some ((1, 0), σ)
  else bif xisO xE1 σ a0 11 then (bif Nat.beq (xdp σ) 0 then none
    else (X iTerms_holds 0 [(2, a0), (2, a1)] [] (xsetdp σ (xdp σ - 1))).bind fun q2 => X iTerms_exOfIf 24 [(2, a0), (2, a1), (2, w1)] [q2.1] (xsetdp q2.2 (xdp σ)))
  else none :=
  xev_eq (E := xE1) (F := xFk) (P := xPg) (inl := []) (stop := [24, 32, 43]) 12 iTerms_exOfIf 0 [(2, a0), (2, a1), (9, 0)] [] σ
set_option maxRecDepth 20000 in
theorem qTerms_exOfIf_24 (v0 v2 t0 : Int) (vw1 : xAV) (σ : xS) : X iTerms_exOfIf 24 [(2, v0), vw1, (2, v2)] [(0, t0)] σ =
  if t0 = 0 then (xob (xfld xE1 σ v2 7 7) none fun w1 => bif xisO xE1 σ v0 11 then (bif Nat.beq (xdp σ) 0 then none
      else (X iTerms_exOf 0 [(2, v0), (2, w1)] [] (xsetdp σ (xdp σ - 1))).bind fun q2 => X iTerms_exOfIf 43 [(2, v0), vw1, (2, v2)] [q2.1] (xsetdp q2.2 (xdp σ)))
    else none)
  else bif xisO xE1 σ v0 11 then (bif Nat.beq (xdp σ) 0 then none
    else (X iTerms_exOf 0 [(2, v0), (2, v2)] [] (xsetdp σ (xdp σ - 1))).bind fun q3 => X iTerms_exOfIf 32 [(2, v0), vw1, (2, v2)] [q3.1] (xsetdp q3.2 (xdp σ)))
  else none :=
  xev_eq (E := xE1) (F := xFk) (P := xPg) (inl := []) (stop := [24, 32, 43]) 7 iTerms_exOfIf 24 [(2, v0), vw1, (2, v2)] [(0, t0)] σ
set_option maxRecDepth 20000 in
theorem qTerms_exOfIf_32 (t0 : Int) (vw0 vw1 vw2 : xAV) (σ : xS) : X iTerms_exOfIf 32 [vw0, vw1, vw2] [(1, t0)] σ =
  X iTerms_exOfIf 43 [vw0, vw1, vw2] [(1, t0)] σ :=
  xev_eq (E := xE1) (F := xFk) (P := xPg) (inl := []) (stop := [24, 32, 43]) 3 iTerms_exOfIf 32 [vw0, vw1, vw2] [(1, t0)] σ
set_option maxRecDepth 20000 in
theorem qTerms_exOfIf_43 (t0 : Int) (vw0 vw1 vw2 : xAV) (σ : xS) : X iTerms_exOfIf 43 [vw0, vw1, vw2] [(1, t0)] σ =
  some ((1, t0), σ) :=
  xev_eq (E := xE1) (F := xFk) (P := xPg) (inl := []) (stop := [24, 32, 43]) 3 iTerms_exOfIf 43 [vw0, vw1, vw2] [(1, t0)] σ
set_option maxRecDepth 20000 in
theorem qTerms_exOfParts_0 (a0 a1 : Int) (σ : xS) : X iTerms_exOfParts 0 [(2, a0), (2, a1), (9, 0), (9, 0), (9, 0), (9, 0), (9, 0), (9, 0)] [] σ =
  xob (xfld xE1 σ a1 7 6) none fun w1 => bif xisO xE1 σ a0 11 then (bif Nat.beq (xdp σ) 0 then none
    else (X iTerms_exOf 0 [(2, a0), (2, w1)] [] (xsetdp σ (xdp σ - 1))).bind fun q2 => X iTerms_exOfParts 8 [(2, a0), (2, a1), (9, 0), (9, 0), (9, 0), (9, 0), (9, 0), (9, 0)] [q2.1] (xsetdp q2.2 (xdp σ)))
  else none :=
  xev_eq (E := xE1) (F := xFk) (P := xPg) (inl := [356]) (stop := [8, 33, 44, 115]) 6 iTerms_exOfParts 0 [(2, a0), (2, a1), (9, 0), (9, 0), (9, 0), (9, 0), (9, 0), (9, 0)] [] σ
set_option maxRecDepth 20000 in
theorem qTerms_exOfParts_8 (v0 v1 t0 : Int) (vw2 vw3 vw4 vw5 vw6 vw7 : xAV) (σ : xS) : X iTerms_exOfParts 8 [(2, v0), (2, v1), vw2, vw3, vw4, vw5, vw6, vw7] [(1, t0)] σ =
  xob (xfld xE1 σ v1 7 6) none fun w1 => if w1 = 0 then X iTerms_exOfParts 33 [(2, v0), (2, v1), (1, t0), (8, 0), (2, 0), (2, 0), vw6, vw7] [] σ
  else xob (xfld xE1 σ v1 7 6) none fun w2 => xob (xfld xE1 σ w2 7 7) none fun w3 => X iTerms_exOfParts 33 [(2, v0), (2, v1), (1, t0), (8, 0), (2, w3), (2, w3), vw6, vw7] [] σ :=
  xev_eq (E := xE1) (F := xFk) (P := xPg) (inl := [356]) (stop := [8, 33, 44, 115]) 12 iTerms_exOfParts 8 [(2, v0), (2, v1), vw2, vw3, vw4, vw5, vw6, vw7] [(1, t0)] σ
set_option maxRecDepth 20000 in
theorem qTerms_exOfParts_33 (v0 v1 v2 v5 : Int) (vw4 vw6 vw7 : xAV) (σ : xS) : X iTerms_exOfParts 33 [(2, v0), (2, v1), (1, v2), (8, 0), vw4, (2, v5), vw6, vw7] [] σ =
  if v5 = 0 then some ((1, v2), σ)
  else bif xisO xE1 σ v0 11 then (bif Nat.beq (xdp σ) 0 then none
    else (X iTerms_exOf 0 [(2, v0), (2, v5)] [] (xsetdp σ (xdp σ - 1))).bind fun q1 => X iTerms_exOfParts 44 [(2, v0), (2, v1), (1, v2), (8, 0), vw4, (2, v5), vw6, vw7] [q1.1] (xsetdp q1.2 (xdp σ)))
  else none :=
  xev_eq (E := xE1) (F := xFk) (P := xPg) (inl := [356]) (stop := [8, 33, 44, 115]) 7 iTerms_exOfParts 33 [(2, v0), (2, v1), (1, v2), (8, 0), vw4, (2, v5), vw6, vw7] [] σ
set_option maxRecDepth 20000 in
theorem qTerms_exOfParts_44 (v0 v1 v2 v5 t0 : Int) (vw4 vw6 vw7 : xAV) (σ : xS) : X iTerms_exOfParts 44 [(2, v0), (2, v1), (1, v2), (8, 0), vw4, (2, v5), vw6, vw7] [(1, t0)] σ =
  xob (xfld xE1 σ v1 7 0) none fun w1 => bif xisO xE1 σ w1 50 then (xob (xfld xE1 σ w1 50 0) none fun w2 => if xin w2 38 then (if (xag xE1 σ 41 w2.toNat) = 17 then (xob (xfld xE1 σ v5 7 7) none fun w6 => X iTerms_exOfParts 33 [(2, v0), (2, v1), (1, (xmm 1 v2 t0)), (8, 0), (xkl vw4), (2, w6), (1, t0), (8, 0)] [] σ)
      else if (xag xE1 σ 41 w2.toNat) = 18 then (xob (xfld xE1 σ v5 7 7) none fun w5 => X iTerms_exOfParts 33 [(2, v0), (2, v1), (1, (xmm 0 v2 t0)), (8, 0), (xkl vw4), (2, w5), (1, t0), (8, 0)] [] σ)
      else xob (xfld xE1 σ v5 7 5) none fun w3 => (X iTerms_joined 0 [(1, v2), (8, 0), (0, (xna 3 w3)), (1, t0), (8, 0)] [] σ).bind fun q4 => X iTerms_exOfParts 115 [(2, v0), (2, v1), (1, v2), (8, 0), vw4, (2, v5), (1, t0), (8, 0)] [q4.1] q4.2)
    else none)
  else none :=
  xev_eq (E := xE1) (F := xFk) (P := xPg) (inl := [356]) (stop := [8, 33, 44, 115]) 21 iTerms_exOfParts 44 [(2, v0), (2, v1), (1, v2), (8, 0), vw4, (2, v5), vw6, vw7] [(1, t0)] σ
set_option maxRecDepth 20000 in
theorem qTerms_exOfParts_115 (v0 v1 v5 t0 : Int) (vw2 vw3 vw4 vw6 vw7 : xAV) (σ : xS) : X iTerms_exOfParts 115 [(2, v0), (2, v1), vw2, vw3, vw4, (2, v5), vw6, vw7] [(1, t0)] σ =
  xob (xfld xE1 σ v5 7 7) none fun w1 => X iTerms_exOfParts 33 [(2, v0), (2, v1), (1, t0), (8, 0), (xkl vw4), (2, w1), vw6, vw7] [] σ :=
  xev_eq (E := xE1) (F := xFk) (P := xPg) (inl := [356]) (stop := [8, 33, 44, 115]) 7 iTerms_exOfParts 115 [(2, v0), (2, v1), vw2, vw3, vw4, (2, v5), vw6, vw7] [(1, t0)] σ
set_option maxRecDepth 20000 in
theorem qTerms_joined_0 (a0 a1 a2 : Int) (σ : xS) : X iTerms_joined 0 [(1, a0), (8, 0), (0, a1), (1, a2), (8, 0)] [] σ =
  if a1 = 37 then (if a2 = 0 then some ((1, 0), σ)
    else if a2 = 0 then none
    else some ((1, (Int.tmod a0 a2)), σ))
  else if a1 = 38 then some ((1, 0), σ)
  else if a1 = 39 then some ((1, 0), σ)
  else if a1 = 40 then some ((1, 0), σ)
  else if a1 = 41 then some ((1, 0), σ)
  else if a1 = 42 then ((X iTerms_times 0 [(1, a0), (8, 0), (1, a2), (8, 0)] [] σ).bind fun q1 => X iTerms_joined 79 [(1, a0), (8, 0), (0, a1), (1, a2), (8, 0)] [q1.1] q1.2)
  else if a1 = 43 then some ((1, (xmm 0 (-1000000000000) (xmm 1 1000000000000 (xW (a0 + a2))))), σ)
  else if a1 = 44 then some ((1, 0), σ)
  else if a1 = 45 then some ((1, (xmm 0 (-1000000000000) (xmm 1 1000000000000 (xW (a0 - a2))))), σ)
  else if a1 = 46 then some ((1, 0), σ)
  else if a1 = 47 then (if a2 = 0 then some ((1, 0), σ)
    else if a2 = 0 then none
    else some ((1, (xW (Int.tdiv a0 a2))), σ))
  else some ((1, 0), σ) :=
  xev_eq (E := xE1) (F := xFk) (P := xPg) (inl := [334]) (stop := [79]) 15 iTerms_joined 0 [(1, a0), (8, 0), (0, a1), (1, a2), (8, 0)] [] σ
set_option maxRecDepth 20000 in
theorem qTerms_joined_79 (t0 : Int) (vw0 vw1 vw2 vw3 vw4 : xAV) (σ : xS) : X iTerms_joined 79 [vw0, vw1, vw2, vw3, vw4] [(1, t0)] σ =
  some ((1, t0), σ) :=
  xev_eq (E := xE1) (F := xFk) (P := xPg) (inl := [334]) (stop := [79]) 3 iTerms_joined 79 [vw0, vw1, vw2, vw3, vw4] [(1, t0)] σ
set_option maxRecDepth 20000 in
theorem qTerms_times_0 (a0 a1 : Int) (σ : xS) : X iTerms_times 0 [(1, a0), (8, 0), (1, a1), (8, 0)] [] σ =
  if a0 = 0 then some ((1, 0), σ)
  else if a1 = 0 then some ((1, 0), σ)
  else if (xab 1 a1) = 0 then none
  else if (xW (Int.tdiv 1000000000000 (xab 1 a1))) < (xab 1 a0) then (if 0 < a0 then (if 0 < a1 then some ((1, 1000000000000), σ)
      else some ((1, (-1000000000000)), σ))
    else if 0 < a1 then some ((1, (-1000000000000)), σ)
    else some ((1, 1000000000000), σ))
  else some ((1, (xW (a0 * a1))), σ) :=
  xev_eq (E := xE1) (F := xFk) (P := xPg) (inl := []) (stop := []) 29 iTerms_times 0 [(1, a0), (8, 0), (1, a1), (8, 0)] [] σ
set_option maxRecDepth 20000 in
theorem qTerms_holds_0 (a0 a1 : Int) (σ : xS) : X iTerms_holds 0 [(2, a0), (2, a1)] [] σ =
  if a1 = 0 then some ((0, 0), σ)
  else xob (xfld xE1 σ a1 7 0) none fun w1 => bif xisO xE1 σ w1 50 then (xob (xfld xE1 σ w1 50 0) none fun w2 => if xin w2 38 then (if (xag xE1 σ 41 w2.toNat) = 13 then (bif xisO xE1 σ a0 11 then (bif Nat.beq (xdp σ) 0 then none
          else (X iTerms_hasPart 0 [(2, a0), (2, a1), (0, 1), (9, 0)] [] (xsetdp σ (xdp σ - 1))).bind fun q8 => X iTerms_holds 82 [(2, a0), (2, a1)] [q8.1] (xsetdp q8.2 (xdp σ)))
        else none)
      else if (xag xE1 σ 41 w2.toNat) = 14 then (bif xisO xE1 σ a0 11 then (bif Nat.beq (xdp σ) 0 then none
          else (X iTerms_hasPart 0 [(2, a0), (2, a1), (0, 0), (9, 0)] [] (xsetdp σ (xdp σ - 1))).bind fun q7 => X iTerms_holds 67 [(2, a0), (2, a1)] [q7.1] (xsetdp q7.2 (xdp σ)))
        else none)
      else if (xag xE1 σ 41 w2.toNat) = 15 then (xob (xfld xE1 σ a1 7 6) none fun w5 => bif xisO xE1 σ a0 11 then (bif Nat.beq (xdp σ) 0 then none
          else (X iTerms_holds 0 [(2, a0), (2, w5)] [] (xsetdp σ (xdp σ - 1))).bind fun q6 => X iTerms_holds 52 [(2, a0), (2, a1)] [q6.1] (xsetdp q6.2 (xdp σ)))
        else none)
      else xob (xfld xE1 σ a1 7 6) none fun w3 => bif xisO xE1 σ a0 11 then (bif Nat.beq (xdp σ) 0 then none
        else (X iTerms_compares 0 [(2, a0), (2, w3), (9, 0), (9, 0), (9, 0), (9, 0)] [] (xsetdp σ (xdp σ - 1))).bind fun q4 => X iTerms_holds 91 [(2, a0), (2, a1)] [q4.1] (xsetdp q4.2 (xdp σ)))
      else none)
    else none)
  else none :=
  xev_eq (E := xE1) (F := xFk) (P := xPg) (inl := [356]) (stop := [52, 67, 82, 91]) 17 iTerms_holds 0 [(2, a0), (2, a1)] [] σ
set_option maxRecDepth 20000 in
theorem qTerms_holds_52 (t0 : Int) (vw0 vw1 : xAV) (σ : xS) : X iTerms_holds 52 [vw0, vw1] [(0, t0)] σ =
  if t0 = 0 then some ((0, 1), σ)
  else some ((0, 0), σ) :=
  xev_eq (E := xE1) (F := xFk) (P := xPg) (inl := [356]) (stop := [52, 67, 82, 91]) 6 iTerms_holds 52 [vw0, vw1] [(0, t0)] σ
set_option maxRecDepth 20000 in
theorem qTerms_holds_67 (t0 : Int) (vw0 vw1 : xAV) (σ : xS) : X iTerms_holds 67 [vw0, vw1] [(0, t0)] σ =
  if t0 = 0 then some ((0, 1), σ)
  else some ((0, 0), σ) :=
  xev_eq (E := xE1) (F := xFk) (P := xPg) (inl := [356]) (stop := [52, 67, 82, 91]) 6 iTerms_holds 67 [vw0, vw1] [(0, t0)] σ
set_option maxRecDepth 20000 in
theorem qTerms_holds_82 (t0 : Int) (vw0 vw1 : xAV) (σ : xS) : X iTerms_holds 82 [vw0, vw1] [(0, t0)] σ =
  if (xna 4 t0) = t0 then some ((0, t0), σ)
  else none :=
  xev_eq (E := xE1) (F := xFk) (P := xPg) (inl := [356]) (stop := [52, 67, 82, 91]) 3 iTerms_holds 82 [vw0, vw1] [(0, t0)] σ
set_option maxRecDepth 20000 in
theorem qTerms_holds_91 (t0 : Int) (vw0 vw1 : xAV) (σ : xS) : X iTerms_holds 91 [vw0, vw1] [(0, t0)] σ =
  if (xna 4 t0) = t0 then some ((0, t0), σ)
  else none :=
  xev_eq (E := xE1) (F := xFk) (P := xPg) (inl := [356]) (stop := [52, 67, 82, 91]) 3 iTerms_holds 91 [vw0, vw1] [(0, t0)] σ
set_option maxRecDepth 20000 in
theorem qTerms_hasPart_0 (a0 a1 a2 : Int) (σ : xS) : X iTerms_hasPart 0 [(2, a0), (2, a1), (0, a2), (9, 0)] [] σ =
  xob (xfld xE1 σ a1 7 6) none fun w1 => X iTerms_hasPart 5 [(2, a0), (2, a1), (0, a2), (2, w1)] [] σ :=
  xev_eq (E := xE1) (F := xFk) (P := xPg) (inl := []) (stop := [5, 14]) 5 iTerms_hasPart 0 [(2, a0), (2, a1), (0, a2), (9, 0)] [] σ
set_option maxRecDepth 20000 in
theorem qTerms_hasPart_5 (v0 v2 v3 : Int) (vw1 : xAV) (σ : xS) : X iTerms_hasPart 5 [(2, v0), vw1, (0, v2), (2, v3)] [] σ =
  if v3 = 0 then some ((0, 0), σ)
  else bif xisO xE1 σ v0 11 then (bif Nat.beq (xdp σ) 0 then none
    else (X iTerms_holds 0 [(2, v0), (2, v3)] [] (xsetdp σ (xdp σ - 1))).bind fun q1 => X iTerms_hasPart 14 [(2, v0), vw1, (0, v2), (2, v3)] [q1.1] (xsetdp q1.2 (xdp σ)))
  else none :=
  xev_eq (E := xE1) (F := xFk) (P := xPg) (inl := []) (stop := [5, 14]) 7 iTerms_hasPart 5 [(2, v0), vw1, (0, v2), (2, v3)] [] σ
set_option maxRecDepth 20000 in
theorem qTerms_hasPart_14 (v0 v2 v3 t0 : Int) (vw1 : xAV) (σ : xS) : X iTerms_hasPart 14 [(2, v0), vw1, (0, v2), (2, v3)] [(0, t0)] σ =
  if t0 = v2 then some ((0, 1), σ)
  else xob (xfld xE1 σ v3 7 7) none fun w1 => X iTerms_hasPart 5 [(2, v0), vw1, (0, v2), (2, w1)] [] σ :=
  xev_eq (E := xE1) (F := xFk) (P := xPg) (inl := []) (stop := [5, 14]) 8 iTerms_hasPart 14 [(2, v0), vw1, (0, v2), (2, v3)] [(0, t0)] σ
set_option maxRecDepth 20000 in
theorem qTerms_compares_0 (a0 a1 : Int) (σ : xS) : X iTerms_compares 0 [(2, a0), (2, a1), (9, 0), (9, 0), (9, 0), (9, 0)] [] σ =
  if a1 = 0 then some ((0, 0), σ)
  else xob (xfld xE1 σ a1 7 7) none fun w1 => if w1 = 0 then some ((0, 0), σ)
  else bif xisO xE1 σ a0 11 then (bif Nat.beq (xdp σ) 0 then none
    else (X iTerms_exOf 0 [(2, a0), (2, a1)] [] (xsetdp σ (xdp σ - 1))).bind fun q2 => X iTerms_compares 18 [(2, a0), (2, a1), (9, 0), (9, 0), (9, 0), (9, 0)] [q2.1] (xsetdp q2.2 (xdp σ)))
  else none :=
  xev_eq (E := xE1) (F := xFk) (P := xPg) (inl := []) (stop := [18, 27]) 10 iTerms_compares 0 [(2, a0), (2, a1), (9, 0), (9, 0), (9, 0), (9, 0)] [] σ
set_option maxRecDepth 20000 in
theorem qTerms_compares_18 (v0 v1 t0 : Int) (vw2 vw3 vw4 vw5 : xAV) (σ : xS) : X iTerms_compares 18 [(2, v0), (2, v1), vw2, vw3, vw4, vw5] [(1, t0)] σ =
  xob (xfld xE1 σ v1 7 7) none fun w1 => bif xisO xE1 σ v0 11 then (bif Nat.beq (xdp σ) 0 then none
    else (X iTerms_exOf 0 [(2, v0), (2, w1)] [] (xsetdp σ (xdp σ - 1))).bind fun q2 => X iTerms_compares 27 [(2, v0), (2, v1), (1, t0), (8, 0), vw4, vw5] [q2.1] (xsetdp q2.2 (xdp σ)))
  else none :=
  xev_eq (E := xE1) (F := xFk) (P := xPg) (inl := []) (stop := [18, 27]) 7 iTerms_compares 18 [(2, v0), (2, v1), vw2, vw3, vw4, vw5] [(1, t0)] σ
set_option maxRecDepth 20000 in
theorem qTerms_compares_27 (v1 v2 t0 : Int) (vw0 vw4 vw5 : xAV) (σ : xS) : X iTerms_compares 27 [vw0, (2, v1), (1, v2), (8, 0), vw4, vw5] [(1, t0)] σ =
  xob (xfld xE1 σ v1 7 7) none fun w1 => xob (xfld xE1 σ w1 7 5) none fun w2 => if (xna 3 w2) = 60 then (if v2 < t0 then some ((0, 1), σ)
    else some ((0, 0), σ))
  else if (xna 3 w2) = 62 then (if t0 < v2 then some ((0, 1), σ)
    else some ((0, 0), σ))
  else if v2 = t0 then some ((0, 1), σ)
  else some ((0, 0), σ) :=
  xev_eq (E := xE1) (F := xFk) (P := xPg) (inl := []) (stop := [18, 27]) 13 iTerms_compares 27 [vw0, (2, v1), (1, v2), (8, 0), vw4, vw5] [(1, t0)] σ
set_option maxRecDepth 20000 in
theorem qJR_fill2_0 (a0 a1 : Int) (σ : xS) : X iJR_fill2 0 [(2, a0), (1, a1), (8, 0), (9, 0), (9, 0)] [] σ =
  xob (xlen xE1 σ a0) none fun n1 => X iJR_fill2 6 [(2, a0), (1, a1), (8, 0), (0, 0), (0, ((n1 : Nat) : Int))] [] σ :=
  xev_eq (E := xE1) (F := xFk) (P := xPg) (inl := []) (stop := [6]) 7 iJR_fill2 0 [(2, a0), (1, a1), (8, 0), (9, 0), (9, 0)] [] σ
set_option maxRecDepth 20000 in
theorem qJR_fill2_6 (v0 v1 v3 v4 : Int) (σ : xS) : X iJR_fill2 6 [(2, v0), (1, v1), (8, 0), (0, v3), (0, v4)] [] σ =
  if v3 < v4 then (xob (xarr xE1 σ v0 1) none fun n1 => if xin v3 n1 then (xob (xwr xE1 σ v0 v3.toNat v1) none fun s2 => X iJR_fill2 6 [(2, v0), (1, v1), (8, 0), (0, (xw (v3 + 1))), (0, v4)] [] s2)
    else none)
  else some ((9, 0), σ) :=
  xev_eq (E := xE1) (F := xFk) (P := xPg) (inl := []) (stop := [6]) 11 iJR_fill2 6 [(2, v0), (1, v1), (8, 0), (0, v3), (0, v4)] [] σ

/-! equations, written by a program (wip/whole/gen) -/
set_option maxRecDepth 20000 in
theorem qM_readyOn_0 (a1 a2 : Int) (σ : xS) : X iM_readyOn 0 [(2, 305), (0, a1), (0, a2), (9, 0), (9, 0), (9, 0)] [] σ =
  if xin a2 7 then (if xin (σ.1 378 a2.toNat) 6 then (if xin a1 3 then (if (σ.1 386 a1.toNat) < 0 then X iM_readyOn 59 [(2, 305), (0, a1), (0, a2), (0, (σ.1 307 (σ.1 378 a2.toNat).toNat)), (9, 0), (9, 0)] [(0, 0)] σ
        else if xin a1 3 then (if (σ.1 386 a1.toNat) = (σ.1 307 (σ.1 378 a2.toNat).toNat) then X iM_readyOn 59 [(2, 305), (0, a1), (0, a2), (0, (σ.1 307 (σ.1 378 a2.toNat).toNat)), (9, 0), (9, 0)] [(0, 0)] σ
          else if xin a1 3 then (if xin (xw ((xw (4 * (σ.1 386 a1.toNat))) + (σ.1 307 (σ.1 378 a2.toNat).toNat))) 16 then (if (xna 4 (σ.1 388 (xw ((xw (4 * (σ.1 386 a1.toNat))) + (σ.1 307 (σ.1 378 a2.toNat).toNat))).toNat)) = 0 then (if xin a1 3 then X iM_readyOn 59 [(2, 305), (0, a1), (0, a2), (0, (σ.1 307 (σ.1 378 a2.toNat).toNat)), (9, 0), (9, 0)] [(0, (σ.1 377 a1.toNat))] σ
                else none)
              else X iM_readyOn 59 [(2, 305), (0, a1), (0, a2), (0, (σ.1 307 (σ.1 378 a2.toNat).toNat)), (9, 0), (9, 0)] [(0, 0)] σ)
            else none)
          else none)
        else none)
      else none)
    else none)
  else none :=
  xev_eq (E := xE1) (F := xFk) (P := xPg) (inl := []) (stop := [59]) 38 iM_readyOn 0 [(2, 305), (0, a1), (0, a2), (9, 0), (9, 0), (9, 0)] [] σ
set_option maxRecDepth 20000 in
theorem qM_readyOn_59 (v1 v2 t0 : Int) (vw3 vw4 vw5 : xAV) (σ : xS) : X iM_readyOn 59 [(2, 305), (0, v1), (0, v2), vw3, vw4, vw5] [(0, t0)] σ =
  if xin v2 7 then (if xin v2 7 then (if xin (σ.1 378 v2.toNat) 6 then (if xin v1 3 then (if xin v1 3 then (if (σ.1 375 v1.toNat) = 0 then none
            else if xin v1 3 then (if xin v1 3 then some ((0, (xw ((xw ((σ.1 385 v1.toNat) + t0)) + (xw ((xw (Int.tdiv (xw ((xw ((xw ((σ.1 379 v2.toNat) * (σ.1 306 (σ.1 378 v2.toNat).toNat))) + (σ.1 375 v1.toNat))) - 1)) (σ.1 375 v1.toNat))) * (σ.1 376 v1.toNat)))))), σ)
              else none)
            else none)
          else none)
        else none)
      else none)
    else none)
  else none :=
  xev_eq (E := xE1) (F := xFk) (P := xPg) (inl := []) (stop := [59]) 42 iM_readyOn 59 [(2, 305), (0, v1), (0, v2), vw3, vw4, vw5] [(0, t0)] σ
set_option maxRecDepth 20000 in
theorem qM_works_0 (σ : xS) : X iM_works 0 [(2, 305), (9, 0), (9, 0), (9, 0), (9, 0), (9, 0), (9, 0)] [] σ =
  X iM_works 2 [(2, 305), (0, 0), (9, 0), (9, 0), (9, 0), (9, 0), (9, 0)] [] σ :=
  xev_eq (E := xE1) (F := xFk) (P := xPg) (inl := []) (stop := [2, 46, 66, 82, 88, 106, 139, 192, 275]) 4 iM_works 0 [(2, 305), (9, 0), (9, 0), (9, 0), (9, 0), (9, 0), (9, 0)] [] σ
set_option maxRecDepth 20000 in
theorem qM_works_2 (v1 : Int) (vw2 vw3 vw4 vw5 vw6 : xAV) (σ : xS) : X iM_works 2 [(2, 305), (0, v1), vw2, vw3, vw4, vw5, vw6] [] σ =
  if v1 < 3 then (if xin v1 3 then (if xin v1 3 then (if xin v1 3 then X iM_works 2 [(2, 305), (0, (xw (v1 + 1))), vw2, vw3, vw4, vw5, vw6] [] (xs (xs (xs σ 385 v1.toNat 0) 386 v1.toNat (-1)) 387 v1.toNat 0)
        else none)
      else none)
    else none)
  else X iM_works 46 [(2, 305), (0, 0), vw2, vw3, vw4, vw5, vw6] [] (xs (xs σ 305 116 0) 305 117 0) :=
  xev_eq (E := xE1) (F := xFk) (P := xPg) (inl := []) (stop := [2, 46, 66, 82, 88, 106, 139, 192, 275]) 22 iM_works 2 [(2, 305), (0, v1), vw2, vw3, vw4, vw5, vw6] [] σ
set_option maxRecDepth 20000 in
theorem qM_works_46 (v1 : Int) (vw2 vw3 vw4 vw5 vw6 : xAV) (σ : xS) : X iM_works 46 [(2, 305), (0, v1), vw2, vw3, vw4, vw5, vw6] [] σ =
  if v1 < (σ.1 305 107) then (if xin v1 8 then X iM_works 66 [(2, 305), (0, v1), (0, (σ.1 381 v1.toNat)), (0, 0), (0, 1), vw5, vw6] [] σ
    else none)
  else some ((9, 0), σ) :=
  xev_eq (E := xE1) (F := xFk) (P := xPg) (inl := []) (stop := [2, 46, 66, 82, 88, 106, 139, 192, 275]) 15 iM_works 46 [(2, 305), (0, v1), vw2, vw3, vw4, vw5, vw6] [] σ
set_option maxRecDepth 20000 in
theorem qM_works_66 (v1 v2 v3 v4 : Int) (vw5 vw6 : xAV) (σ : xS) : X iM_works 66 [(2, 305), (0, v1), (0, v2), (0, v3), (0, v4), vw5, vw6] [] σ =
  if v4 < (σ.1 305 102) then ((X iM_readyOn 0 [(2, 305), (0, v4), (0, v2), (9, 0), (9, 0), (9, 0)] [] σ).bind fun q1 => X iM_works 82 [(2, 305), (0, v1), (0, v2), (0, v3), (0, v4), vw5, vw6] [q1.1] q1.2)
  else (X iM_readyOn 0 [(2, 305), (0, v3), (0, v2), (9, 0), (9, 0), (9, 0)] [] σ).bind fun q2 => X iM_works 106 [(2, 305), (0, v1), (0, v2), (0, v3), (0, v4), vw5, vw6] [q2.1] q2.2 :=
  xev_eq (E := xE1) (F := xFk) (P := xPg) (inl := []) (stop := [2, 46, 66, 82, 88, 106, 139, 192, 275]) 10 iM_works 66 [(2, 305), (0, v1), (0, v2), (0, v3), (0, v4), vw5, vw6] [] σ
set_option maxRecDepth 20000 in
theorem qM_works_82 (v1 v2 v3 v4 t0 : Int) (vw5 vw6 : xAV) (σ : xS) : X iM_works 82 [(2, 305), (0, v1), (0, v2), (0, v3), (0, v4), vw5, vw6] [(0, t0)] σ =
  (X iM_readyOn 0 [(2, 305), (0, v3), (0, v2), (9, 0), (9, 0), (9, 0)] [] σ).bind fun q1 => X iM_works 88 [(2, 305), (0, v1), (0, v2), (0, v3), (0, v4), vw5, vw6] [q1.1, (0, t0)] q1.2 :=
  xev_eq (E := xE1) (F := xFk) (P := xPg) (inl := []) (stop := [2, 46, 66, 82, 88, 106, 139, 192, 275]) 6 iM_works 82 [(2, 305), (0, v1), (0, v2), (0, v3), (0, v4), vw5, vw6] [(0, t0)] σ
set_option maxRecDepth 20000 in
theorem qM_works_88 (v1 v2 v3 v4 t0 t1 : Int) (vw5 vw6 : xAV) (σ : xS) : X iM_works 88 [(2, 305), (0, v1), (0, v2), (0, v3), (0, v4), vw5, vw6] [(0, t0), (0, t1)] σ =
  if t1 < t0 then X iM_works 66 [(2, 305), (0, v1), (0, v2), (0, v4), (0, (xw (v4 + 1))), vw5, vw6] [] σ
  else X iM_works 66 [(2, 305), (0, v1), (0, v2), (0, v3), (0, (xw (v4 + 1))), vw5, vw6] [] σ :=
  xev_eq (E := xE1) (F := xFk) (P := xPg) (inl := []) (stop := [2, 46, 66, 82, 88, 106, 139, 192, 275]) 7 iM_works 88 [(2, 305), (0, v1), (0, v2), (0, v3), (0, v4), vw5, vw6] [(0, t0), (0, t1)] σ
set_option maxRecDepth 20000 in
theorem qM_works_106 (v1 v2 v3 t0 : Int) (vw4 vw5 vw6 : xAV) (σ : xS) : X iM_works 106 [(2, 305), (0, v1), (0, v2), (0, v3), vw4, vw5, vw6] [(0, t0)] σ =
  if xin v3 3 then (if xin v2 7 then (if xin (σ.1 378 v2.toNat) 6 then (if xin v3 3 then X iM_works 139 [(2, 305), (0, v1), (0, v2), (0, v3), (0, t0), (0, 0), (0, 1)] [] (xs (xs σ 385 v3.toNat t0) 386 v3.toNat (σ.1 307 (σ.1 378 v2.toNat).toNat))
        else none)
      else none)
    else none)
  else none :=
  xev_eq (E := xE1) (F := xFk) (P := xPg) (inl := []) (stop := [2, 46, 66, 82, 88, 106, 139, 192, 275]) 23 iM_works 106 [(2, 305), (0, v1), (0, v2), (0, v3), vw4, vw5, vw6] [(0, t0)] σ
set_option maxRecDepth 20000 in
theorem qM_works_139 (v1 v2 v4 v5 v6 : Int) (vw3 : xAV) (σ : xS) : X iM_works 139 [(2, 305), (0, v1), (0, v2), vw3, (0, v4), (0, v5), (0, v6)] [] σ =
  if v6 < (σ.1 305 103) then (if xin v6 3 then (if xin v5 3 then (if (σ.1 387 v6.toNat) < (σ.1 387 v5.toNat) then X iM_works 139 [(2, 305), (0, v1), (0, v2), vw3, (0, v4), (0, v6), (0, (xw (v6 + 1)))] [] σ
        else X iM_works 139 [(2, 305), (0, v1), (0, v2), vw3, (0, v4), (0, v5), (0, (xw (v6 + 1)))] [] σ)
      else none)
    else none)
  else if xin v5 3 then ((X iM_max 0 [(0, v4), (0, (σ.1 387 v5.toNat))] [] σ).bind fun q1 => X iM_works 192 [(2, 305), (0, v1), (0, v2), vw3, (0, v4), (0, v5), (0, v6)] [q1.1, (0, v2), (2, 383)] q1.2)
  else none :=
  xev_eq (E := xE1) (F := xFk) (P := xPg) (inl := []) (stop := [2, 46, 66, 82, 88, 106, 139, 192, 275]) 19 iM_works 139 [(2, 305), (0, v1), (0, v2), vw3, (0, v4), (0, v5), (0, v6)] [] σ
set_option maxRecDepth 20000 in
theorem qM_works_192 (v1 v2 v5 t0 t1 : Int) (vw3 vw4 vw6 : xAV) (σ : xS) : X iM_works 192 [(2, 305), (0, v1), (0, v2), vw3, vw4, (0, v5), vw6] [(0, t0), (0, t1), (2, 383)] σ =
  if xin v2 7 then (if xin (σ.1 378 v2.toNat) 6 then (if xin v2 7 then (if xin t1 7 then (if xin v2 7 then (if xin v5 3 then (if xin v2 7 then (if xin v2 7 then (if (σ.1 380 v2.toNat) < ((xs σ 383 t1.toNat (xw (t0 + (xw ((σ.1 308 (σ.1 378 v2.toNat).toNat) * (xw (Int.tdiv (xw ((σ.1 379 v2.toNat) + 9)) 10))))))).1 383 v2.toNat) then (if xin v2 7 then (if xin v2 7 then ((X iM_max 0 [(0, (σ.1 305 117)), (0, ((xs σ 383 t1.toNat (xw (t0 + (xw ((σ.1 308 (σ.1 378 v2.toNat).toNat) * (xw (Int.tdiv (xw ((σ.1 379 v2.toNat) + 9)) 10))))))).1 383 v2.toNat))] [] (xs (xs (xs σ 383 t1.toNat (xw (t0 + (xw ((σ.1 308 (σ.1 378 v2.toNat).toNat) * (xw (Int.tdiv (xw ((σ.1 379 v2.toNat) + 9)) 10))))))) 387 v5.toNat ((xs σ 383 t1.toNat (xw (t0 + (xw ((σ.1 308 (σ.1 378 v2.toNat).toNat) * (xw (Int.tdiv (xw ((σ.1 379 v2.toNat) + 9)) 10))))))).1 383 v2.toNat)) 305 116 (xw ((σ.1 305 116) + (σ.1 379 v2.toNat))))).bind fun q1 => X iM_works 275 [(2, 305), (0, v1), (0, v2), vw3, vw4, (0, v5), vw6] [q1.1, (2, 305)] q1.2)
                      else none)
                    else none)
                  else if xin v2 7 then ((X iM_max 0 [(0, (σ.1 305 117)), (0, ((xs σ 383 t1.toNat (xw (t0 + (xw ((σ.1 308 (σ.1 378 v2.toNat).toNat) * (xw (Int.tdiv (xw ((σ.1 379 v2.toNat) + 9)) 10))))))).1 383 v2.toNat))] [] (xs (xs σ 383 t1.toNat (xw (t0 + (xw ((σ.1 308 (σ.1 378 v2.toNat).toNat) * (xw (Int.tdiv (xw ((σ.1 379 v2.toNat) + 9)) 10))))))) 387 v5.toNat ((xs σ 383 t1.toNat (xw (t0 + (xw ((σ.1 308 (σ.1 378 v2.toNat).toNat) * (xw (Int.tdiv (xw ((σ.1 379 v2.toNat) + 9)) 10))))))).1 383 v2.toNat))).bind fun q2 => X iM_works 275 [(2, 305), (0, v1), (0, v2), vw3, vw4, (0, v5), vw6] [q2.1, (2, 305)] q2.2)
                  else none)
                else none)
              else none)
            else none)
          else none)
        else none)
      else none)
    else none)
  else none :=
  xev_eq (E := xE1) (F := xFk) (P := xPg) (inl := []) (stop := [2, 46, 66, 82, 88, 106, 139, 192, 275]) 54 iM_works 192 [(2, 305), (0, v1), (0, v2), vw3, vw4, (0, v5), vw6] [(0, t0), (0, t1), (2, 383)] σ
set_option maxRecDepth 20000 in
theorem qM_works_275 (v1 t0 : Int) (vw2 vw3 vw4 vw5 vw6 : xAV) (σ : xS) : X iM_works 275 [(2, 305), (0, v1), vw2, vw3, vw4, vw5, vw6] [(0, t0), (2, 305)] σ =
  X iM_works 46 [(2, 305), (0, (xw (v1 + 1))), vw2, vw3, vw4, vw5, vw6] [] (xs σ 305 117 t0) :=
  xev_eq (E := xE1) (F := xFk) (P := xPg) (inl := []) (stop := [2, 46, 66, 82, 88, 106, 139, 192, 275]) 5 iM_works 275 [(2, 305), (0, v1), vw2, vw3, vw4, vw5, vw6] [(0, t0), (2, 305)] σ
set_option maxRecDepth 20000 in
theorem qM_night_0 (a1 : Int) (σ : xS) : X iM_night 0 [(2, 305), (0, a1), (9, 0), (9, 0), (9, 0)] [] σ =
  if (σ.1 305 102) = 0 then some ((0, (-1)), σ)
  else X iM_night 11 [(2, 305), (0, a1), (0, 0), (9, 0), (9, 0)] [] σ :=
  xev_eq (E := xE1) (F := xFk) (P := xPg) (inl := []) (stop := [11, 18, 38, 59, 63, 71, 129, 180]) 7 iM_night 0 [(2, 305), (0, a1), (9, 0), (9, 0), (9, 0)] [] σ
set_option maxRecDepth 20000 in
theorem qM_night_11 (v1 v2 : Int) (vw3 vw4 : xAV) (σ : xS) : X iM_night 11 [(2, 305), (0, v1), (0, v2), vw3, vw4] [] σ =
  if v2 < 4 then X iM_night 18 [(2, 305), (0, v1), (0, v2), (0, 0), vw4] [] σ
  else (X iM_first 0 [(2, 305), (0, (σ.1 305 107)), (9, 0)] [] σ).bind fun q1 => X iM_night 59 [(2, 305), (0, v1), (0, v2), vw3, vw4] [] q1.2 :=
  xev_eq (E := xE1) (F := xFk) (P := xPg) (inl := []) (stop := [11, 18, 38, 59, 63, 71, 129, 180]) 9 iM_night 11 [(2, 305), (0, v1), (0, v2), vw3, vw4] [] σ
set_option maxRecDepth 20000 in
theorem qM_night_18 (v1 v2 v3 : Int) (vw4 : xAV) (σ : xS) : X iM_night 18 [(2, 305), (0, v1), (0, v2), (0, v3), vw4] [] σ =
  if v3 < 4 then ((X iM_isMixed 0 [(2, 305), (0, v2), (0, v3), (9, 0), (9, 0)] [] σ).bind fun q1 => X iM_night 38 [(2, 305), (0, v1), (0, v2), (0, v3), vw4] [q1.1, (0, (xw ((xw (4 * v2)) + v3))), (2, 388)] q1.2)
  else X iM_night 11 [(2, 305), (0, v1), (0, (xw (v2 + 1))), (0, v3), vw4] [] σ :=
  xev_eq (E := xE1) (F := xFk) (P := xPg) (inl := []) (stop := [11, 18, 38, 59, 63, 71, 129, 180]) 16 iM_night 18 [(2, 305), (0, v1), (0, v2), (0, v3), vw4] [] σ
set_option maxRecDepth 20000 in
theorem qM_night_38 (v1 v2 v3 t0 t1 : Int) (vw4 : xAV) (σ : xS) : X iM_night 38 [(2, 305), (0, v1), (0, v2), (0, v3), vw4] [(0, t0), (0, t1), (2, 388)] σ =
  if xin t1 16 then X iM_night 18 [(2, 305), (0, v1), (0, v2), (0, (xw (v3 + 1))), vw4] [] (xs σ 388 t1.toNat (xna 4 t0))
  else none :=
  xev_eq (E := xE1) (F := xFk) (P := xPg) (inl := []) (stop := [11, 18, 38, 59, 63, 71, 129, 180]) 5 iM_night 38 [(2, 305), (0, v1), (0, v2), (0, v3), vw4] [(0, t0), (0, t1), (2, 388)] σ
set_option maxRecDepth 20000 in
theorem qM_night_59 (v1 : Int) (vw2 vw3 vw4 : xAV) (σ : xS) : X iM_night 59 [(2, 305), (0, v1), vw2, vw3, vw4] [] σ =
  X iM_night 63 [(2, 305), (0, v1), (0, 1), (0, 0), vw4] [] σ :=
  xev_eq (E := xE1) (F := xFk) (P := xPg) (inl := []) (stop := [11, 18, 38, 59, 63, 71, 129, 180]) 6 iM_night 59 [(2, 305), (0, v1), vw2, vw3, vw4] [] σ
set_option maxRecDepth 20000 in
theorem qM_night_63 (v1 v2 v3 : Int) (vw4 : xAV) (σ : xS) : X iM_night 63 [(2, 305), (0, v1), (0, v2), (0, v3), vw4] [] σ =
  if v2 = 0 then (if v1 = 0 then some ((0, (σ.1 305 118)), σ)
    else if v1 = 1 then some ((0, (σ.1 305 119)), σ)
    else if v1 < 10 then (if v1 < 20 then some ((0, (-1)), σ)
      else if v1 < (xw (20 + (σ.1 305 107))) then (if xin (xw (v1 - 20)) 7 then some ((0, (σ.1 384 (xw (v1 - 20)).toNat)), σ)
        else none)
      else some ((0, (-1)), σ))
    else if v1 < (xw (10 + (σ.1 305 107))) then (if xin (xw (v1 - 10)) 8 then some ((0, (σ.1 382 (xw (v1 - 10)).toNat)), σ)
      else none)
    else if v1 < 20 then some ((0, (-1)), σ)
    else if v1 < (xw (20 + (σ.1 305 107))) then (if xin (xw (v1 - 20)) 7 then some ((0, (σ.1 384 (xw (v1 - 20)).toNat)), σ)
      else none)
    else some ((0, (-1)), σ))
  else (X iM_works 0 [(2, 305), (9, 0), (9, 0), (9, 0), (9, 0), (9, 0), (9, 0)] [] σ).bind fun q1 => X iM_night 71 [(2, 305), (0, v1), (0, v2), (0, v3), vw4] [] q1.2 :=
  xev_eq (E := xE1) (F := xFk) (P := xPg) (inl := []) (stop := [11, 18, 38, 59, 63, 71, 129, 180]) 35 iM_night 63 [(2, 305), (0, v1), (0, v2), (0, v3), vw4] [] σ
set_option maxRecDepth 20000 in
theorem qM_night_71 (v1 v3 : Int) (vw2 vw4 : xAV) (σ : xS) : X iM_night 71 [(2, 305), (0, v1), vw2, (0, v3), vw4] [] σ =
  if v3 = 0 then X iM_night 129 [(2, 305), (0, v1), (xkl vw2), (0, 1), (0, 0)] [] (xs (xs σ 305 118 (σ.1 305 116)) 305 119 (σ.1 305 117))
  else if (σ.1 305 116) < (σ.1 305 118) then X iM_night 129 [(2, 305), (0, v1), (xkl vw2), (0, 1), (0, 0)] [] (xs (xs σ 305 118 (σ.1 305 116)) 305 119 (σ.1 305 117))
  else if (σ.1 305 116) = (σ.1 305 118) then (if (σ.1 305 117) < (σ.1 305 119) then X iM_night 129 [(2, 305), (0, v1), (xkl vw2), (0, 1), (0, 0)] [] (xs (xs σ 305 118 (σ.1 305 116)) 305 119 (σ.1 305 117))
    else (X iM_follows 0 [(2, 305), (0, (σ.1 305 107)), (9, 0), (9, 0), (9, 0), (9, 0), (9, 0)] [] σ).bind fun q1 => X iM_night 180 [(2, 305), (0, v1), vw2, (0, v3), vw4] [q1.1] q1.2)
  else (X iM_follows 0 [(2, 305), (0, (σ.1 305 107)), (9, 0), (9, 0), (9, 0), (9, 0), (9, 0)] [] σ).bind fun q2 => X iM_night 180 [(2, 305), (0, v1), vw2, (0, v3), vw4] [q2.1] q2.2 :=
  xev_eq (E := xE1) (F := xFk) (P := xPg) (inl := []) (stop := [11, 18, 38, 59, 63, 71, 129, 180]) 31 iM_night 71 [(2, 305), (0, v1), vw2, (0, v3), vw4] [] σ
set_option maxRecDepth 20000 in
theorem qM_night_129 (v1 v3 v4 : Int) (vw2 : xAV) (σ : xS) : X iM_night 129 [(2, 305), (0, v1), vw2, (0, v3), (0, v4)] [] σ =
  if v4 < (σ.1 305 107) then (if xin v4 8 then (if xin v4 8 then (if xin v4 7 then (if xin v4 7 then X iM_night 129 [(2, 305), (0, v1), vw2, (0, v3), (0, (xw (v4 + 1)))] [] (xs (xs σ 382 v4.toNat (σ.1 381 v4.toNat)) 384 v4.toNat (σ.1 383 v4.toNat))
          else none)
        else none)
      else none)
    else none)
  else (X iM_follows 0 [(2, 305), (0, (σ.1 305 107)), (9, 0), (9, 0), (9, 0), (9, 0), (9, 0)] [] σ).bind fun q1 => X iM_night 180 [(2, 305), (0, v1), vw2, (0, v3), (0, v4)] [q1.1] q1.2 :=
  xev_eq (E := xE1) (F := xFk) (P := xPg) (inl := []) (stop := [11, 18, 38, 59, 63, 71, 129, 180]) 24 iM_night 129 [(2, 305), (0, v1), vw2, (0, v3), (0, v4)] [] σ
set_option maxRecDepth 20000 in
theorem qM_night_180 (v1 v3 t0 : Int) (vw2 vw4 : xAV) (σ : xS) : X iM_night 180 [(2, 305), (0, v1), vw2, (0, v3), vw4] [(0, t0)] σ =
  X iM_night 63 [(2, 305), (0, v1), (0, t0), (0, v3), vw4] [] σ :=
  xev_eq (E := xE1) (F := xFk) (P := xPg) (inl := []) (stop := [11, 18, 38, 59, 63, 71, 129, 180]) 4 iM_night 180 [(2, 305), (0, v1), vw2, (0, v3), vw4] [(0, t0)] σ
set_option maxRecDepth 20000 in
theorem qC_night_0 (a1 : Int) (σ : xS) : X iC_night 0 [(2, 200), (0, a1), (9, 0), (9, 0)] [] σ =
  if a1 < 10 then (if a1 < 20 then X iC_night 33 [(2, 200), (0, a1), (0, 0), (9, 0)] [(0, 0)] σ
    else if (xw (19 + (σ.1 258 9))) < a1 then X iC_night 33 [(2, 200), (0, a1), (0, 0), (9, 0)] [(0, 0)] σ
    else X iC_night 33 [(2, 200), (0, a1), (0, 0), (9, 0)] [(0, 1)] σ)
  else if (xw (9 + (σ.1 258 9))) < a1 then (if a1 < 20 then X iC_night 33 [(2, 200), (0, a1), (0, 0), (9, 0)] [(0, 0)] σ
    else if (xw (19 + (σ.1 258 9))) < a1 then X iC_night 33 [(2, 200), (0, a1), (0, 0), (9, 0)] [(0, 0)] σ
    else X iC_night 33 [(2, 200), (0, a1), (0, 0), (9, 0)] [(0, 1)] σ)
  else if a1 < 20 then X iC_night 33 [(2, 200), (0, a1), (0, 1), (9, 0)] [(0, 0)] σ
  else if (xw (19 + (σ.1 258 9))) < a1 then X iC_night 33 [(2, 200), (0, a1), (0, 1), (9, 0)] [(0, 0)] σ
  else X iC_night 33 [(2, 200), (0, a1), (0, 1), (9, 0)] [(0, 1)] σ :=
  xev_eq (E := xE1) (F := xFk) (P := xPg) (inl := [172]) (stop := [33, 50, 74, 77]) 37 iC_night 0 [(2, 200), (0, a1), (9, 0), (9, 0)] [] σ
set_option maxRecDepth 20000 in
theorem qC_night_33 (v1 v2 t0 : Int) (vw3 : xAV) (σ : xS) : X iC_night 33 [(2, 200), (0, v1), (0, v2), vw3] [(0, t0)] σ =
  if (σ.1 258 4) = 0 then some ((0, (-1)), σ)
  else if v1 < 0 then X iC_night 50 [(2, 200), (0, v1), (0, v2), (0, t0)] [(0, 0)] σ
  else if 1 < v1 then X iC_night 50 [(2, 200), (0, v1), (0, v2), (0, t0)] [(0, 0)] σ
  else X iC_night 50 [(2, 200), (0, v1), (0, v2), (0, t0)] [(0, 1)] σ :=
  xev_eq (E := xE1) (F := xFk) (P := xPg) (inl := [172]) (stop := [33, 50, 74, 77]) 20 iC_night 33 [(2, 200), (0, v1), (0, v2), vw3] [(0, t0)] σ
set_option maxRecDepth 20000 in
theorem qC_night_50 (v1 v2 v3 t0 : Int) (σ : xS) : X iC_night 50 [(2, 200), (0, v1), (0, v2), (0, v3)] [(0, t0)] σ =
  if t0 = 0 then (if v2 = 0 then (if v3 = 0 then some ((0, (-1)), σ)
      else (X iLedger_mixes 0 [(2, 243), (9, 0), (9, 0), (9, 0)] [] σ).bind fun q1 => X iC_night 74 [(2, 200), (0, v1), (0, v2), (0, v3)] [q1.1, (2, 258)] q1.2)
    else (X iLedger_mixes 0 [(2, 243), (9, 0), (9, 0), (9, 0)] [] σ).bind fun q2 => X iC_night 74 [(2, 200), (0, v1), (0, v2), (0, v3)] [q2.1, (2, 258)] q2.2)
  else (X iLedger_mixes 0 [(2, 243), (9, 0), (9, 0), (9, 0)] [] σ).bind fun q3 => X iC_night 74 [(2, 200), (0, v1), (0, v2), (0, v3)] [q3.1, (2, 258)] q3.2 :=
  xev_eq (E := xE1) (F := xFk) (P := xPg) (inl := [172]) (stop := [33, 50, 74, 77]) 12 iC_night 50 [(2, 200), (0, v1), (0, v2), (0, v3)] [(0, t0)] σ
set_option maxRecDepth 20000 in
theorem qC_night_74 (v1 v2 v3 t0 : Int) (σ : xS) : X iC_night 74 [(2, 200), (0, v1), (0, v2), (0, v3)] [(0, t0), (2, 258)] σ =
  (X iNight_plan 0 [(2, 258), (0, t0)] [] σ).bind fun q1 => X iC_night 77 [(2, 200), (0, v1), (0, v2), (0, v3)] [] q1.2 :=
  xev_eq (E := xE1) (F := xFk) (P := xPg) (inl := [172]) (stop := [33, 50, 74, 77]) 3 iC_night 74 [(2, 200), (0, v1), (0, v2), (0, v3)] [(0, t0), (2, 258)] σ
set_option maxRecDepth 20000 in
theorem qC_night_77 (v1 v2 v3 : Int) (σ : xS) : X iC_night 77 [(2, 200), (0, v1), (0, v2), (0, v3)] [] σ =
  if v2 = 0 then (if v3 = 0 then (if v1 = 0 then some ((0, (σ.1 258 18)), σ)
      else some ((0, (σ.1 258 19)), σ))
    else if xin (xw (v1 - 20)) 7 then some ((0, (σ.1 271 (xw (v1 - 20)).toNat)), σ)
    else none)
  else if xin (xw (v1 - 10)) 7 then some ((0, (σ.1 270 (xw (v1 - 10)).toNat)), σ)
  else none :=
  xev_eq (E := xE1) (F := xFk) (P := xPg) (inl := [172]) (stop := [33, 50, 74, 77]) 14 iC_night 77 [(2, 200), (0, v1), (0, v2), (0, v3)] [] σ
set_option maxRecDepth 20000 in
theorem qNight_plan_0 (a1 : Int) (σ : xS) : X iNight_plan 0 [(2, 258), (0, a1)] [] σ =
  (X iJR_fill1 0 [(2, 265), (0, 0), (9, 0), (9, 0)] [] (xs (xs (xs σ 258 10 a1) 258 18 1000000000) 258 19 1000000000)).bind fun q1 => X iNight_plan 25 [(2, 258), (0, a1)] [] q1.2 :=
  xev_eq (E := xE1) (F := xFk) (P := xPg) (inl := []) (stop := [25, 33, 41, 49]) 15 iNight_plan 0 [(2, 258), (0, a1)] [] σ
set_option maxRecDepth 20000 in
theorem qNight_plan_25 (vw1 : xAV) (σ : xS) : X iNight_plan 25 [(2, 258), vw1] [] σ =
  (X iJR_fill1 0 [(2, 266), (0, (-1)), (9, 0), (9, 0)] [] σ).bind fun q1 => X iNight_plan 33 [(2, 258), vw1] [] q1.2 :=
  xev_eq (E := xE1) (F := xFk) (P := xPg) (inl := []) (stop := [25, 33, 41, 49]) 6 iNight_plan 25 [(2, 258), vw1] [] σ
set_option maxRecDepth 20000 in
theorem qNight_plan_33 (vw1 : xAV) (σ : xS) : X iNight_plan 33 [(2, 258), vw1] [] σ =
  (X iJR_fill1 0 [(2, 267), (0, 0), (9, 0), (9, 0)] [] σ).bind fun q1 => X iNight_plan 41 [(2, 258), vw1] [] q1.2 :=
  xev_eq (E := xE1) (F := xFk) (P := xPg) (inl := []) (stop := [25, 33, 41, 49]) 6 iNight_plan 33 [(2, 258), vw1] [] σ
set_option maxRecDepth 20000 in
theorem qNight_plan_41 (vw1 : xAV) (σ : xS) : X iNight_plan 41 [(2, 258), vw1] [] σ =
  (X iNight_search 0 [(2, 258), (0, 0), (0, 0), (0, 0), (0, 0), (9, 0), (9, 0)] [] σ).bind fun q1 => X iNight_plan 49 [(2, 258), vw1] [] q1.2 :=
  xev_eq (E := xE1) (F := xFk) (P := xPg) (inl := []) (stop := [25, 33, 41, 49]) 8 iNight_plan 41 [(2, 258), vw1] [] σ
set_option maxRecDepth 20000 in
theorem qNight_plan_49 (vw0 vw1 : xAV) (σ : xS) : X iNight_plan 49 [vw0, vw1] [] σ =
  some ((9, 0), σ) :=
  xev_eq (E := xE1) (F := xFk) (P := xPg) (inl := []) (stop := [25, 33, 41, 49]) 3 iNight_plan 49 [vw0, vw1] [] σ
set_option maxRecDepth 20000 in
theorem qNight_search_0 (a1 a2 a3 a4 : Int) (σ : xS) : X iNight_search 0 [(2, 258), (0, a1), (0, a2), (0, a3), (0, a4), (9, 0), (9, 0)] [] σ =
  if a3 < (σ.1 258 18) then (if a1 < (σ.1 258 9) then X iNight_search 95 [(2, 258), (0, a1), (0, a2), (0, a3), (0, a4), (0, 1), (0, 0)] [] σ
    else if (((0 : Int) ≤ 0 ∧ (0 : Int) ≤ 0) ∧ (0 : Int) ≤ (σ.1 258 9)) ∧ (0 + (σ.1 258 9) ≤ (7 : Int) ∧ 0 + (σ.1 258 9) ≤ (7 : Int)) then (if (((0 : Int) ≤ 0 ∧ (0 : Int) ≤ 0) ∧ (0 : Int) ≤ ((xcopy xE1 (xs (xs σ 258 18 a3) 258 19 a4) 268 0 270 0 (σ.1 258 9).toNat).1 258 9)) ∧ (0 + ((xcopy xE1 (xs (xs σ 258 18 a3) 258 19 a4) 268 0 270 0 (σ.1 258 9).toNat).1 258 9) ≤ (7 : Int) ∧ 0 + ((xcopy xE1 (xs (xs σ 258 18 a3) 258 19 a4) 268 0 270 0 (σ.1 258 9).toNat).1 258 9) ≤ (7 : Int)) then some ((9, 0), (xcopy xE1 (xcopy xE1 (xs (xs σ 258 18 a3) 258 19 a4) 268 0 270 0 (σ.1 258 9).toNat) 269 0 271 0 ((xcopy xE1 (xs (xs σ 258 18 a3) 258 19 a4) 268 0 270 0 (σ.1 258 9).toNat).1 258 9).toNat))
      else none)
    else none)
  else if a3 = (σ.1 258 18) then (if a4 < (σ.1 258 19) then (if a1 < (σ.1 258 9) then X iNight_search 95 [(2, 258), (0, a1), (0, a2), (0, a3), (0, a4), (0, 1), (0, 0)] [] σ
      else if (((0 : Int) ≤ 0 ∧ (0 : Int) ≤ 0) ∧ (0 : Int) ≤ (σ.1 258 9)) ∧ (0 + (σ.1 258 9) ≤ (7 : Int) ∧ 0 + (σ.1 258 9) ≤ (7 : Int)) then (if (((0 : Int) ≤ 0 ∧ (0 : Int) ≤ 0) ∧ (0 : Int) ≤ ((xcopy xE1 (xs (xs σ 258 18 a3) 258 19 a4) 268 0 270 0 (σ.1 258 9).toNat).1 258 9)) ∧ (0 + ((xcopy xE1 (xs (xs σ 258 18 a3) 258 19 a4) 268 0 270 0 (σ.1 258 9).toNat).1 258 9) ≤ (7 : Int) ∧ 0 + ((xcopy xE1 (xs (xs σ 258 18 a3) 258 19 a4) 268 0 270 0 (σ.1 258 9).toNat).1 258 9) ≤ (7 : Int)) then some ((9, 0), (xcopy xE1 (xcopy xE1 (xs (xs σ 258 18 a3) 258 19 a4) 268 0 270 0 (σ.1 258 9).toNat) 269 0 271 0 ((xcopy xE1 (xs (xs σ 258 18 a3) 258 19 a4) 268 0 270 0 (σ.1 258 9).toNat).1 258 9).toNat))
        else none)
      else none)
    else some ((9, 0), σ))
  else some ((9, 0), σ) :=
  xev_eq (E := xE1) (F := xFk) (P := xPg) (inl := []) (stop := [95, 130]) 48 iNight_search 0 [(2, 258), (0, a1), (0, a2), (0, a3), (0, a4), (9, 0), (9, 0)] [] σ
set_option maxRecDepth 20000 in
theorem qNight_search_95 (v1 v2 v3 v4 v6 : Int) (vw5 : xAV) (σ : xS) : X iNight_search 95 [(2, 258), (0, v1), (0, v2), (0, v3), (0, v4), vw5, (0, v6)] [] σ =
  if v6 < (σ.1 258 9) then (if (xiand (xshr v2 v6) 1) = 0 then (if xin v1 7 then (bif Nat.beq (xdp (xs σ 268 v1.toNat v6)) 0 then none
        else (X iNight_tryNext 0 [(2, 258), (0, v1), (0, v2), (0, v3), (0, v4), (9, 0), (9, 0), (9, 0), (9, 0), (9, 0), (9, 0), (9, 0), (9, 0), (9, 0)] [] (xsetdp (xs σ 268 v1.toNat v6) (xdp (xs σ 268 v1.toNat v6) - 1))).bind fun q1 => X iNight_search 130 [(2, 258), (0, v1), (0, v2), (0, v3), (0, v4), vw5, (0, v6)] [] (xsetdp q1.2 (xdp (xs σ 268 v1.toNat v6))))
      else none)
    else X iNight_search 130 [(2, 258), (0, v1), (0, v2), (0, v3), (0, v4), vw5, (0, v6)] [] σ)
  else some ((9, 0), σ) :=
  xev_eq (E := xE1) (F := xFk) (P := xPg) (inl := []) (stop := [95, 130]) 23 iNight_search 95 [(2, 258), (0, v1), (0, v2), (0, v3), (0, v4), vw5, (0, v6)] [] σ
set_option maxRecDepth 20000 in
theorem qNight_search_130 (v1 v2 v3 v4 v6 : Int) (vw5 : xAV) (σ : xS) : X iNight_search 130 [(2, 258), (0, v1), (0, v2), (0, v3), (0, v4), vw5, (0, v6)] [] σ =
  X iNight_search 95 [(2, 258), (0, v1), (0, v2), (0, v3), (0, v4), vw5, (0, (xw (v6 + 1)))] [] σ :=
  xev_eq (E := xE1) (F := xFk) (P := xPg) (inl := []) (stop := [95, 130]) 4 iNight_search 130 [(2, 258), (0, v1), (0, v2), (0, v3), (0, v4), vw5, (0, v6)] [] σ
set_option maxRecDepth 20000 in
theorem qNight_tryNext_0 (a1 a2 a3 a4 : Int) (σ : xS) : X iNight_tryNext 0 [(2, 258), (0, a1), (0, a2), (0, a3), (0, a4), (9, 0), (9, 0), (9, 0), (9, 0), (9, 0), (9, 0), (9, 0), (9, 0), (9, 0)] [] σ =
  if xin a1 7 then ((X iNight_firstReady 0 [(2, 258), (0, (σ.1 268 a1.toNat)), (9, 0), (9, 0)] [] σ).bind fun q1 => X iNight_tryNext 14 [(2, 258), (0, a1), (0, a2), (0, a3), (0, a4), (0, (σ.1 268 a1.toNat)), (9, 0), (9, 0), (9, 0), (9, 0), (9, 0), (9, 0), (9, 0), (9, 0)] [q1.1] q1.2)
  else none :=
  xev_eq (E := xE1) (F := xFk) (P := xPg) (inl := []) (stop := [14, 20, 57, 196]) 10 iNight_tryNext 0 [(2, 258), (0, a1), (0, a2), (0, a3), (0, a4), (9, 0), (9, 0), (9, 0), (9, 0), (9, 0), (9, 0), (9, 0), (9, 0), (9, 0)] [] σ
set_option maxRecDepth 20000 in
theorem qNight_tryNext_14 (v1 v2 v3 v4 v5 t0 : Int) (vw6 vw7 vw8 vw9 vw10 vw11 vw12 vw13 : xAV) (σ : xS) : X iNight_tryNext 14 [(2, 258), (0, v1), (0, v2), (0, v3), (0, v4), (0, v5), vw6, vw7, vw8, vw9, vw10, vw11, vw12, vw13] [(0, t0)] σ =
  (X iNight_firstDryer 0 [(2, 258), (9, 0), (9, 0)] [] σ).bind fun q1 => X iNight_tryNext 20 [(2, 258), (0, v1), (0, v2), (0, v3), (0, v4), (0, v5), (0, t0), vw7, vw8, vw9, vw10, vw11, vw12, vw13] [q1.1] q1.2 :=
  xev_eq (E := xE1) (F := xFk) (P := xPg) (inl := []) (stop := [14, 20, 57, 196]) 5 iNight_tryNext 14 [(2, 258), (0, v1), (0, v2), (0, v3), (0, v4), (0, v5), vw6, vw7, vw8, vw9, vw10, vw11, vw12, vw13] [(0, t0)] σ
set_option maxRecDepth 20000 in
theorem qNight_tryNext_20 (v1 v2 v3 v4 v5 v6 t0 : Int) (vw7 vw8 vw9 vw10 vw11 vw12 vw13 : xAV) (σ : xS) : X iNight_tryNext 20 [(2, 258), (0, v1), (0, v2), (0, v3), (0, v4), (0, v5), (0, v6), vw7, vw8, vw9, vw10, vw11, vw12, vw13] [(0, t0)] σ =
  if xin v6 3 then (if xin v6 3 then (if xin t0 3 then ((X iNight_readyOn 0 [(2, 258), (0, v6), (0, v5), (9, 0), (9, 0), (9, 0)] [] σ).bind fun q1 => X iNight_tryNext 57 [(2, 258), (0, v1), (0, v2), (0, v3), (0, v4), (0, v5), (0, v6), (0, t0), (0, (σ.1 265 v6.toNat)), (0, (σ.1 266 v6.toNat)), (0, (σ.1 267 t0.toNat)), vw11, vw12, vw13] [q1.1] q1.2)
      else none)
    else none)
  else none :=
  xev_eq (E := xE1) (F := xFk) (P := xPg) (inl := []) (stop := [14, 20, 57, 196]) 22 iNight_tryNext 20 [(2, 258), (0, v1), (0, v2), (0, v3), (0, v4), (0, v5), (0, v6), vw7, vw8, vw9, vw10, vw11, vw12, vw13] [(0, t0)] σ
set_option maxRecDepth 20000 in
theorem qNight_tryNext_57 (v1 v2 v3 v4 v5 v6 v7 v8 v9 v10 t0 : Int) (vw11 vw12 vw13 : xAV) (σ : xS) : X iNight_tryNext 57 [(2, 258), (0, v1), (0, v2), (0, v3), (0, v4), (0, v5), (0, v6), (0, v7), (0, v8), (0, v9), (0, v10), vw11, vw12, vw13] [(0, t0)] σ =
  if xin v5 7 then (if xin (σ.1 262 v5.toNat) 6 then (if xin v5 7 then (if xin v6 3 then (if xin v5 7 then (if xin (σ.1 262 v5.toNat) 6 then (if xin v6 3 then (if xin v7 3 then (if xin v5 7 then (if xin v5 7 then (if (σ.1 264 v5.toNat) < (xw ((xmm 0 t0 v10) + (xw ((σ.1 204 (σ.1 262 v5.toNat).toNat) * (xw (Int.tdiv (xw ((σ.1 263 v5.toNat) + 9)) 10)))))) then (if xin v5 7 then (bif Nat.beq (xdp (xs (xs (xs (xs σ 265 v6.toNat t0) 266 v6.toNat (σ.1 203 (σ.1 262 v5.toNat).toNat)) 267 v7.toNat (xw ((xmm 0 t0 v10) + (xw ((σ.1 204 (σ.1 262 v5.toNat).toNat) * (xw (Int.tdiv (xw ((σ.1 263 v5.toNat) + 9)) 10))))))) 269 v5.toNat (xw ((xmm 0 t0 v10) + (xw ((σ.1 204 (σ.1 262 v5.toNat).toNat) * (xw (Int.tdiv (xw ((σ.1 263 v5.toNat) + 9)) 10)))))))) 0 then none
                          else (X iNight_search 0 [(2, 258), (0, (xw (v1 + 1))), (0, (xior v2 (xshl 1 v5))), (0, (xw (v3 + (σ.1 263 v5.toNat)))), (0, (xmm 0 v4 (xw ((xmm 0 t0 v10) + (xw ((σ.1 204 (σ.1 262 v5.toNat).toNat) * (xw (Int.tdiv (xw ((σ.1 263 v5.toNat) + 9)) 10)))))))), (9, 0), (9, 0)] [] (xsetdp (xs (xs (xs (xs σ 265 v6.toNat t0) 266 v6.toNat (σ.1 203 (σ.1 262 v5.toNat).toNat)) 267 v7.toNat (xw ((xmm 0 t0 v10) + (xw ((σ.1 204 (σ.1 262 v5.toNat).toNat) * (xw (Int.tdiv (xw ((σ.1 263 v5.toNat) + 9)) 10))))))) 269 v5.toNat (xw ((xmm 0 t0 v10) + (xw ((σ.1 204 (σ.1 262 v5.toNat).toNat) * (xw (Int.tdiv (xw ((σ.1 263 v5.toNat) + 9)) 10))))))) (xdp (xs (xs (xs (xs σ 265 v6.toNat t0) 266 v6.toNat (σ.1 203 (σ.1 262 v5.toNat).toNat)) 267 v7.toNat (xw ((xmm 0 t0 v10) + (xw ((σ.1 204 (σ.1 262 v5.toNat).toNat) * (xw (Int.tdiv (xw ((σ.1 263 v5.toNat) + 9)) 10))))))) 269 v5.toNat (xw ((xmm 0 t0 v10) + (xw ((σ.1 204 (σ.1 262 v5.toNat).toNat) * (xw (Int.tdiv (xw ((σ.1 263 v5.toNat) + 9)) 10))))))) - 1))).bind fun q1 => X iNight_tryNext 196 [(2, 258), (0, v1), (0, v2), (0, v3), (0, v4), (0, v5), (0, v6), (0, v7), (0, v8), (0, v9), (0, v10), (0, t0), (0, (xw ((xmm 0 t0 v10) + (xw ((σ.1 204 (σ.1 262 v5.toNat).toNat) * (xw (Int.tdiv (xw ((σ.1 263 v5.toNat) + 9)) 10))))))), (0, (xw (v3 + (σ.1 263 v5.toNat))))] [] (xsetdp q1.2 (xdp (xs (xs (xs (xs σ 265 v6.toNat t0) 266 v6.toNat (σ.1 203 (σ.1 262 v5.toNat).toNat)) 267 v7.toNat (xw ((xmm 0 t0 v10) + (xw ((σ.1 204 (σ.1 262 v5.toNat).toNat) * (xw (Int.tdiv (xw ((σ.1 263 v5.toNat) + 9)) 10))))))) 269 v5.toNat (xw ((xmm 0 t0 v10) + (xw ((σ.1 204 (σ.1 262 v5.toNat).toNat) * (xw (Int.tdiv (xw ((σ.1 263 v5.toNat) + 9)) 10))))))))))
                        else none)
                      else bif Nat.beq (xdp (xs (xs (xs (xs σ 265 v6.toNat t0) 266 v6.toNat (σ.1 203 (σ.1 262 v5.toNat).toNat)) 267 v7.toNat (xw ((xmm 0 t0 v10) + (xw ((σ.1 204 (σ.1 262 v5.toNat).toNat) * (xw (Int.tdiv (xw ((σ.1 263 v5.toNat) + 9)) 10))))))) 269 v5.toNat (xw ((xmm 0 t0 v10) + (xw ((σ.1 204 (σ.1 262 v5.toNat).toNat) * (xw (Int.tdiv (xw ((σ.1 263 v5.toNat) + 9)) 10)))))))) 0 then none
                      else (X iNight_search 0 [(2, 258), (0, (xw (v1 + 1))), (0, (xior v2 (xshl 1 v5))), (0, (xw (v3 + 0))), (0, (xmm 0 v4 (xw ((xmm 0 t0 v10) + (xw ((σ.1 204 (σ.1 262 v5.toNat).toNat) * (xw (Int.tdiv (xw ((σ.1 263 v5.toNat) + 9)) 10)))))))), (9, 0), (9, 0)] [] (xsetdp (xs (xs (xs (xs σ 265 v6.toNat t0) 266 v6.toNat (σ.1 203 (σ.1 262 v5.toNat).toNat)) 267 v7.toNat (xw ((xmm 0 t0 v10) + (xw ((σ.1 204 (σ.1 262 v5.toNat).toNat) * (xw (Int.tdiv (xw ((σ.1 263 v5.toNat) + 9)) 10))))))) 269 v5.toNat (xw ((xmm 0 t0 v10) + (xw ((σ.1 204 (σ.1 262 v5.toNat).toNat) * (xw (Int.tdiv (xw ((σ.1 263 v5.toNat) + 9)) 10))))))) (xdp (xs (xs (xs (xs σ 265 v6.toNat t0) 266 v6.toNat (σ.1 203 (σ.1 262 v5.toNat).toNat)) 267 v7.toNat (xw ((xmm 0 t0 v10) + (xw ((σ.1 204 (σ.1 262 v5.toNat).toNat) * (xw (Int.tdiv (xw ((σ.1 263 v5.toNat) + 9)) 10))))))) 269 v5.toNat (xw ((xmm 0 t0 v10) + (xw ((σ.1 204 (σ.1 262 v5.toNat).toNat) * (xw (Int.tdiv (xw ((σ.1 263 v5.toNat) + 9)) 10))))))) - 1))).bind fun q2 => X iNight_tryNext 196 [(2, 258), (0, v1), (0, v2), (0, v3), (0, v4), (0, v5), (0, v6), (0, v7), (0, v8), (0, v9), (0, v10), (0, t0), (0, (xw ((xmm 0 t0 v10) + (xw ((σ.1 204 (σ.1 262 v5.toNat).toNat) * (xw (Int.tdiv (xw ((σ.1 263 v5.toNat) + 9)) 10))))))), (0, (xw (v3 + 0)))] [] (xsetdp q2.2 (xdp (xs (xs (xs (xs σ 265 v6.toNat t0) 266 v6.toNat (σ.1 203 (σ.1 262 v5.toNat).toNat)) 267 v7.toNat (xw ((xmm 0 t0 v10) + (xw ((σ.1 204 (σ.1 262 v5.toNat).toNat) * (xw (Int.tdiv (xw ((σ.1 263 v5.toNat) + 9)) 10))))))) 269 v5.toNat (xw ((xmm 0 t0 v10) + (xw ((σ.1 204 (σ.1 262 v5.toNat).toNat) * (xw (Int.tdiv (xw ((σ.1 263 v5.toNat) + 9)) 10))))))))))
                    else none)
                  else none)
                else none)
              else none)
            else none)
          else none)
        else none)
      else none)
    else none)
  else none :=
  xev_eq (E := xE1) (F := xFk) (P := xPg) (inl := []) (stop := [14, 20, 57, 196]) 80 iNight_tryNext 57 [(2, 258), (0, v1), (0, v2), (0, v3), (0, v4), (0, v5), (0, v6), (0, v7), (0, v8), (0, v9), (0, v10), vw11, vw12, vw13] [(0, t0)] σ
set_option maxRecDepth 20000 in
theorem qNight_tryNext_196 (v6 v7 v8 v9 v10 : Int) (vw1 vw2 vw3 vw4 vw5 vw11 vw12 vw13 : xAV) (σ : xS) : X iNight_tryNext 196 [(2, 258), vw1, vw2, vw3, vw4, vw5, (0, v6), (0, v7), (0, v8), (0, v9), (0, v10), vw11, vw12, vw13] [] σ =
  if xin v6 3 then (if xin v6 3 then (if xin v7 3 then some ((9, 0), (xs (xs (xs σ 265 v6.toNat v8) 266 v6.toNat v9) 267 v7.toNat v10))
      else none)
    else none)
  else none :=
  xev_eq (E := xE1) (F := xFk) (P := xPg) (inl := []) (stop := [14, 20, 57, 196]) 18 iNight_tryNext 196 [(2, 258), vw1, vw2, vw3, vw4, vw5, (0, v6), (0, v7), (0, v8), (0, v9), (0, v10), vw11, vw12, vw13] [] σ
set_option maxRecDepth 20000 in
theorem qNight_firstReady_0 (a1 : Int) (σ : xS) : X iNight_firstReady 0 [(2, 258), (0, a1), (9, 0), (9, 0)] [] σ =
  X iNight_firstReady 4 [(2, 258), (0, a1), (0, 0), (0, 1)] [] σ :=
  xev_eq (E := xE1) (F := xFk) (P := xPg) (inl := []) (stop := [4, 18, 24]) 6 iNight_firstReady 0 [(2, 258), (0, a1), (9, 0), (9, 0)] [] σ
set_option maxRecDepth 20000 in
theorem qNight_firstReady_4 (v1 v2 v3 : Int) (σ : xS) : X iNight_firstReady 4 [(2, 258), (0, v1), (0, v2), (0, v3)] [] σ =
  if v3 < (σ.1 258 4) then ((X iNight_readyOn 0 [(2, 258), (0, v3), (0, v1), (9, 0), (9, 0), (9, 0)] [] σ).bind fun q1 => X iNight_firstReady 18 [(2, 258), (0, v1), (0, v2), (0, v3)] [q1.1] q1.2)
  else some ((0, v2), σ) :=
  xev_eq (E := xE1) (F := xFk) (P := xPg) (inl := []) (stop := [4, 18, 24]) 10 iNight_firstReady 4 [(2, 258), (0, v1), (0, v2), (0, v3)] [] σ
set_option maxRecDepth 20000 in
theorem qNight_firstReady_18 (v1 v2 v3 t0 : Int) (σ : xS) : X iNight_firstReady 18 [(2, 258), (0, v1), (0, v2), (0, v3)] [(0, t0)] σ =
  (X iNight_readyOn 0 [(2, 258), (0, v2), (0, v1), (9, 0), (9, 0), (9, 0)] [] σ).bind fun q1 => X iNight_firstReady 24 [(2, 258), (0, v1), (0, v2), (0, v3)] [q1.1, (0, t0)] q1.2 :=
  xev_eq (E := xE1) (F := xFk) (P := xPg) (inl := []) (stop := [4, 18, 24]) 6 iNight_firstReady 18 [(2, 258), (0, v1), (0, v2), (0, v3)] [(0, t0)] σ
set_option maxRecDepth 20000 in
theorem qNight_firstReady_24 (v1 v2 v3 t0 t1 : Int) (σ : xS) : X iNight_firstReady 24 [(2, 258), (0, v1), (0, v2), (0, v3)] [(0, t0), (0, t1)] σ =
  if t1 < t0 then X iNight_firstReady 4 [(2, 258), (0, v1), (0, v3), (0, (xw (v3 + 1)))] [] σ
  else X iNight_firstReady 4 [(2, 258), (0, v1), (0, v2), (0, (xw (v3 + 1)))] [] σ :=
  xev_eq (E := xE1) (F := xFk) (P := xPg) (inl := []) (stop := [4, 18, 24]) 8 iNight_firstReady 24 [(2, 258), (0, v1), (0, v2), (0, v3)] [(0, t0), (0, t1)] σ
set_option maxRecDepth 20000 in
theorem qNight_firstDryer_0 (σ : xS) : X iNight_firstDryer 0 [(2, 258), (9, 0), (9, 0)] [] σ =
  X iNight_firstDryer 4 [(2, 258), (0, 0), (0, 1)] [] σ :=
  xev_eq (E := xE1) (F := xFk) (P := xPg) (inl := []) (stop := [4]) 6 iNight_firstDryer 0 [(2, 258), (9, 0), (9, 0)] [] σ
set_option maxRecDepth 20000 in
theorem qNight_firstDryer_4 (v1 v2 : Int) (σ : xS) : X iNight_firstDryer 4 [(2, 258), (0, v1), (0, v2)] [] σ =
  if v2 < (σ.1 258 5) then (if xin v2 3 then (if xin v1 3 then (if (σ.1 267 v2.toNat) < (σ.1 267 v1.toNat) then X iNight_firstDryer 4 [(2, 258), (0, v2), (0, (xw (v2 + 1)))] [] σ
        else X iNight_firstDryer 4 [(2, 258), (0, v1), (0, (xw (v2 + 1)))] [] σ)
      else none)
    else none)
  else some ((0, v1), σ) :=
  xev_eq (E := xE1) (F := xFk) (P := xPg) (inl := []) (stop := [4]) 20 iNight_firstDryer 4 [(2, 258), (0, v1), (0, v2)] [] σ
set_option maxRecDepth 20000 in
theorem qNight_readyOn_0 (a1 a2 : Int) (σ : xS) : X iNight_readyOn 0 [(2, 258), (0, a1), (0, a2), (9, 0), (9, 0), (9, 0)] [] σ =
  if xin a1 3 then (if xin a2 7 then (if xin a2 7 then (if xin (σ.1 262 a2.toNat) 6 then (if (xmm 0 1 (σ.1 259 a1.toNat)) = 0 then none
          else if xin a1 3 then (if xin a2 7 then (if xin (σ.1 262 a2.toNat) 6 then (if (σ.1 266 a1.toNat) = (-1) then (if xin a1 3 then (if xin a1 3 then some ((0, (xw ((xw ((σ.1 265 a1.toNat) + 0)) + (xw ((σ.1 260 a1.toNat) * (xw (Int.tdiv (xw ((xw ((xw ((σ.1 263 a2.toNat) * (σ.1 202 (σ.1 262 a2.toNat).toNat))) + (xmm 0 1 (σ.1 259 a1.toNat)))) - 1)) (xmm 0 1 (σ.1 259 a1.toNat))))))))), σ)
                    else none)
                  else none)
                else if (σ.1 266 a1.toNat) = (σ.1 203 (σ.1 262 a2.toNat).toNat) then (if xin a1 3 then (if xin a1 3 then some ((0, (xw ((xw ((σ.1 265 a1.toNat) + 0)) + (xw ((σ.1 260 a1.toNat) * (xw (Int.tdiv (xw ((xw ((xw ((σ.1 263 a2.toNat) * (σ.1 202 (σ.1 262 a2.toNat).toNat))) + (xmm 0 1 (σ.1 259 a1.toNat)))) - 1)) (xmm 0 1 (σ.1 259 a1.toNat))))))))), σ)
                    else none)
                  else none)
                else if (xiand (xshr (σ.1 258 10) (xw ((xw ((σ.1 266 a1.toNat) * 4)) + (σ.1 203 (σ.1 262 a2.toNat).toNat)))) 1) = 0 then (if xin a1 3 then (if xin a1 3 then (if xin a1 3 then some ((0, (xw ((xw ((σ.1 265 a1.toNat) + (σ.1 261 a1.toNat))) + (xw ((σ.1 260 a1.toNat) * (xw (Int.tdiv (xw ((xw ((xw ((σ.1 263 a2.toNat) * (σ.1 202 (σ.1 262 a2.toNat).toNat))) + (xmm 0 1 (σ.1 259 a1.toNat)))) - 1)) (xmm 0 1 (σ.1 259 a1.toNat))))))))), σ)
                      else none)
                    else none)
                  else none)
                else if xin a1 3 then (if xin a1 3 then some ((0, (xw ((xw ((σ.1 265 a1.toNat) + 0)) + (xw ((σ.1 260 a1.toNat) * (xw (Int.tdiv (xw ((xw ((xw ((σ.1 263 a2.toNat) * (σ.1 202 (σ.1 262 a2.toNat).toNat))) + (xmm 0 1 (σ.1 259 a1.toNat)))) - 1)) (xmm 0 1 (σ.1 259 a1.toNat))))))))), σ)
                  else none)
                else none)
              else none)
            else none)
          else none)
        else none)
      else none)
    else none)
  else none :=
  xev_eq (E := xE1) (F := xFk) (P := xPg) (inl := [252]) (stop := []) 84 iNight_readyOn 0 [(2, 258), (0, a1), (0, a2), (9, 0), (9, 0), (9, 0)] [] σ
set_option maxRecDepth 20000 in
theorem qNight_needsChange_0 (a1 a2 : Int) (σ : xS) : X iNight_needsChange 0 [(2, 258), (0, a1), (0, a2)] [] σ =
  if a1 = (-1) then some ((0, 0), σ)
  else if a1 = a2 then some ((0, 0), σ)
  else if (xiand (xshr (σ.1 258 10) (xw ((xw (a1 * 4)) + a2))) 1) = 0 then some ((0, 1), σ)
  else some ((0, 0), σ) :=
  xev_eq (E := xE1) (F := xFk) (P := xPg) (inl := []) (stop := []) 22 iNight_needsChange 0 [(2, 258), (0, a1), (0, a2)] [] σ
set_option maxRecDepth 20000 in
theorem qJR_fill1_0 (a0 a1 : Int) (σ : xS) : X iJR_fill1 0 [(2, a0), (0, a1), (9, 0), (9, 0)] [] σ =
  xob (xlen xE1 σ a0) none fun n1 => X iJR_fill1 5 [(2, a0), (0, a1), (0, 0), (0, ((n1 : Nat) : Int))] [] σ :=
  xev_eq (E := xE1) (F := xFk) (P := xPg) (inl := []) (stop := [5]) 7 iJR_fill1 0 [(2, a0), (0, a1), (9, 0), (9, 0)] [] σ
set_option maxRecDepth 20000 in
theorem qJR_fill1_5 (v0 v1 v2 v3 : Int) (σ : xS) : X iJR_fill1 5 [(2, v0), (0, v1), (0, v2), (0, v3)] [] σ =
  if v2 < v3 then (xob (xarr xE1 σ v0 0) none fun n1 => if xin v2 n1 then (xob (xwr xE1 σ v0 v2.toNat v1) none fun s2 => X iJR_fill1 5 [(2, v0), (0, v1), (0, (xw (v2 + 1))), (0, v3)] [] s2)
    else none)
  else some ((9, 0), σ) :=
  xev_eq (E := xE1) (F := xFk) (P := xPg) (inl := []) (stop := [5]) 11 iJR_fill1 5 [(2, v0), (0, v1), (0, v2), (0, v3)] [] σ

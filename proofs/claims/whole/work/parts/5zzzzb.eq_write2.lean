/-! equations, written by a program (wip/whole/gen) -/
set_option maxRecDepth 20000 in
theorem qM_wordAt_0 (a1 a2 : Int) (σ : xS) : X iM_wordAt 0 [(2, 305), (0, a1), (0, a2)] [] σ =
  if a2 = 0 then some ((1, 330936265), σ)
  else if a2 = 1 then some ((1, 923), σ)
  else if a2 = 2 then some ((1, 242924), σ)
  else if a2 = 3 then some ((1, 12532058), σ)
  else if a2 = 4 then some ((1, 4075480), σ)
  else if a2 = 5 then some ((1, 385418), σ)
  else if a2 = 6 then some ((1, 223456), σ)
  else if a2 = 7 then some ((1, 80155), σ)
  else if a2 = 8 then some ((1, 191706742), σ)
  else if a2 = 9 then some ((1, 2968), σ)
  else if xin a1 8 then (if xin (xw ((xw ((σ.1 341 a1.toNat) + a2)) - 10)) 200 then some ((1, (σ.1 350 (xw ((xw ((σ.1 341 a1.toNat) + a2)) - 10)).toNat)), σ)
    else none)
  else none :=
  xev_eq (E := xE1) (F := xFk) (P := xPg) (inl := []) (stop := []) 43 iM_wordAt 0 [(2, 305), (0, a1), (0, a2)] [] σ
set_option maxRecDepth 20000 in
theorem qM_around_0 (a1 a2 a3 : Int) (σ : xS) : X iM_around 0 [(2, 305), (0, a1), (0, a2), (0, a3), (9, 0)] [] σ =
  if xin a2 3300 then (if a1 < 11 then (if a1 = 2 then X iM_around 37 [(2, 305), (0, a1), (0, a2), (0, a3), (0, (σ.1 351 a2.toNat))] [(0, 1)] σ
      else if a1 = 3 then X iM_around 37 [(2, 305), (0, a1), (0, a2), (0, a3), (0, (σ.1 351 a2.toNat))] [(0, 1)] σ
      else X iM_around 37 [(2, 305), (0, a1), (0, a2), (0, a3), (0, (σ.1 351 a2.toNat))] [(0, 0)] σ)
    else if 13 < a1 then (if a1 = 2 then X iM_around 37 [(2, 305), (0, a1), (0, a2), (0, a3), (0, (σ.1 351 a2.toNat))] [(0, 1)] σ
      else if a1 = 3 then X iM_around 37 [(2, 305), (0, a1), (0, a2), (0, a3), (0, (σ.1 351 a2.toNat))] [(0, 1)] σ
      else X iM_around 37 [(2, 305), (0, a1), (0, a2), (0, a3), (0, (σ.1 351 a2.toNat))] [(0, 0)] σ)
    else if (σ.1 351 a2.toNat) = 10 then some ((0, 1), σ)
    else some ((0, 0), σ))
  else none :=
  xev_eq (E := xE1) (F := xFk) (P := xPg) (inl := [100, 101]) (stop := [37, 69]) 24 iM_around 0 [(2, 305), (0, a1), (0, a2), (0, a3), (9, 0)] [] σ
set_option maxRecDepth 20000 in
theorem qM_around_37 (v1 v3 v4 t0 : Int) (vw0 vw2 : xAV) (σ : xS) : X iM_around 37 [vw0, (0, v1), vw2, (0, v3), (0, v4)] [(0, t0)] σ =
  if t0 = 0 then (if v1 < 4 then X iM_around 69 [vw0, (0, v1), vw2, (0, v3), (0, v4)] [(0, 0)] σ
    else if 6 < v1 then X iM_around 69 [vw0, (0, v1), vw2, (0, v3), (0, v4)] [(0, 0)] σ
    else X iM_around 69 [vw0, (0, v1), vw2, (0, v3), (0, v4)] [(0, 1)] σ)
  else if v4 = 10 then some ((0, 1), σ)
  else if v3 = 0 then some ((0, 0), σ)
  else if v4 = 2 then some ((0, 1), σ)
  else if v4 = 3 then some ((0, 1), σ)
  else some ((0, 0), σ) :=
  xev_eq (E := xE1) (F := xFk) (P := xPg) (inl := [100, 101]) (stop := [37, 69]) 23 iM_around 37 [vw0, (0, v1), vw2, (0, v3), (0, v4)] [(0, t0)] σ
set_option maxRecDepth 20000 in
theorem qM_around_69 (v1 v3 v4 t0 : Int) (vw0 vw2 : xAV) (σ : xS) : X iM_around 69 [vw0, (0, v1), vw2, (0, v3), (0, v4)] [(0, t0)] σ =
  if t0 = 0 then (if v1 = 7 then (if v4 = 10 then some ((0, 1), σ)
      else if v4 = 2 then some ((0, 1), σ)
      else if v4 = 3 then some ((0, 1), σ)
      else if v4 < 4 then some ((0, 0), σ)
      else if 6 < v4 then some ((0, 0), σ)
      else some ((0, 1), σ))
    else if v1 = 15 then (if v4 = 16 then some ((0, 2), σ)
      else some ((0, 0), σ))
    else if v1 = 14 then (if v4 = 16 then some ((0, 2), σ)
      else if v4 = 15 then some ((0, 2), σ)
      else some ((0, 0), σ))
    else some ((0, 0), σ))
  else if v4 = 10 then some ((0, 1), σ)
  else if v4 = 2 then some ((0, 1), σ)
  else if v4 = 3 then some ((0, 1), σ)
  else if v3 = 0 then some ((0, 0), σ)
  else if v4 < 4 then some ((0, 0), σ)
  else if 6 < v4 then some ((0, 0), σ)
  else some ((0, 1), σ) :=
  xev_eq (E := xE1) (F := xFk) (P := xPg) (inl := [100, 101]) (stop := [37, 69]) 35 iM_around 69 [vw0, (0, v1), vw2, (0, v3), (0, v4)] [(0, t0)] σ
set_option maxRecDepth 20000 in
theorem qM_begins_0 (a1 a2 : Int) (σ : xS) : X iM_begins 0 [(2, 305), (0, a1), (0, a2)] [] σ =
  if xin (σ.1 305 98) 500 then (if xin (σ.1 305 98) 500 then (if xin (σ.1 305 98) 500 then (if xin (σ.1 305 98) 500 then some ((9, 0), (xs (xs (xs (xs (xs σ 371 (σ.1 305 98).toNat a1) 372 (σ.1 305 98).toNat 0) 373 (σ.1 305 98).toNat a2) 374 (σ.1 305 98).toNat (-1)) 305 98 (xw ((σ.1 305 98) + 1))))
        else none)
      else none)
    else none)
  else none :=
  xev_eq (E := xE1) (F := xFk) (P := xPg) (inl := []) (stop := []) 33 iM_begins 0 [(2, 305), (0, a1), (0, a2)] [] σ
set_option maxRecDepth 20000 in
theorem qM_closes_0 (a1 : Int) (σ : xS) : X iM_closes 0 [(2, 305), (0, a1)] [] σ =
  if xin a1 500 then (if (σ.1 373 a1.toNat) = 1 then (if xin (σ.1 305 92) 1400 then (if xin a1 500 then (if (σ.1 373 a1.toNat) = 2 then (if xin (xw ((σ.1 305 92) + 1)) 1400 then some ((9, 0), (xs (xs (xs (xs (xs (xs (xs σ 370 (σ.1 305 92).toNat 41) 305 92 (xw ((σ.1 305 92) + 1))) 305 93 0) 370 (xw ((σ.1 305 92) + 1)).toNat 93) 305 92 (xw ((xw ((σ.1 305 92) + 1)) + 1))) 305 93 0) 305 98 (xw ((σ.1 305 98) - 1))))
            else none)
          else some ((9, 0), (xs (xs (xs (xs σ 370 (σ.1 305 92).toNat 41) 305 92 (xw ((σ.1 305 92) + 1))) 305 93 0) 305 98 (xw ((σ.1 305 98) - 1)))))
        else none)
      else none)
    else if xin a1 500 then (if (σ.1 373 a1.toNat) = 2 then (if xin (σ.1 305 92) 1400 then some ((9, 0), (xs (xs (xs (xs σ 370 (σ.1 305 92).toNat 93) 305 92 (xw ((σ.1 305 92) + 1))) 305 93 0) 305 98 (xw ((σ.1 305 98) - 1))))
        else none)
      else some ((9, 0), (xs σ 305 98 (xw ((σ.1 305 98) - 1)))))
    else none)
  else none :=
  xev_eq (E := xE1) (F := xFk) (P := xPg) (inl := [95]) (stop := []) 61 iM_closes 0 [(2, 305), (0, a1)] [] σ

/-! equations, written by a program (wip/whole/gen) -/
set_option maxRecDepth 20000 in
theorem qM_isProven_0 (a1 a2 : Int) (σ : xS) : X iM_isProven 0 [(2, 305), (0, a1), (0, a2), (9, 0), (9, 0), (9, 0), (9, 0)] [] σ =
  (X iM_termsOn 0 [(2, 305), (0, a1), (9, 0), (9, 0)] [] σ).bind fun q1 => X iM_isProven 5 [(2, 305), (0, a1), (0, a2), (9, 0), (9, 0), (9, 0), (9, 0)] [q1.1] q1.2 :=
  xev_eq (E := xE1) (F := xFk) (P := xPg) (inl := []) (stop := [5, 24, 84]) 5 iM_isProven 0 [(2, 305), (0, a1), (0, a2), (9, 0), (9, 0), (9, 0), (9, 0)] [] σ
set_option maxRecDepth 20000 in
theorem qM_isProven_5 (v1 v2 t0 : Int) (vw3 vw4 vw5 vw6 : xAV) (σ : xS) : X iM_isProven 5 [(2, 305), (0, v1), (0, v2), vw3, vw4, vw5, vw6] [(0, t0)] σ =
  if t0 < 0 then X iM_isProven 84 [(2, 305), (0, v1), (0, v2), (0, t0), (0, 0), (0, 0), (0, 0)] [] σ
  else if xin t0 8 then X iM_isProven 24 [(2, 305), (0, v1), (0, v2), (0, t0), (0, 0), (0, 0), (0, (σ.1 341 t0.toNat))] [] σ
  else none :=
  xev_eq (E := xE1) (F := xFk) (P := xPg) (inl := []) (stop := [5, 24, 84]) 14 iM_isProven 5 [(2, 305), (0, v1), (0, v2), vw3, vw4, vw5, vw6] [(0, t0)] σ
set_option maxRecDepth 20000 in
theorem qM_isProven_24 (v1 v2 v3 v4 v5 v6 : Int) (σ : xS) : X iM_isProven 24 [(2, 305), (0, v1), (0, v2), (0, v3), (0, v4), (0, v5), (0, v6)] [] σ =
  if xin v3 8 then (if xin v3 8 then (if v6 < (xw ((σ.1 341 v3.toNat) + (σ.1 342 v3.toNat))) then (if xin v6 200 then (if (σ.1 344 v6.toNat) = 6 then (if xin v6 200 then (if xin v6 200 then X iM_isProven 24 [(2, 305), (0, v1), (0, v2), (0, v3), (0, (σ.1 345 v6.toNat)), (0, (σ.1 346 v6.toNat)), (0, (xw (v6 + 1)))] [] σ
              else none)
            else none)
          else X iM_isProven 24 [(2, 305), (0, v1), (0, v2), (0, v3), (0, v4), (0, v5), (0, (xw (v6 + 1)))] [] σ)
        else none)
      else X iM_isProven 84 [(2, 305), (0, v1), (0, v2), (0, v3), (0, v4), (0, v5), (0, 0)] [] σ)
    else none)
  else none :=
  xev_eq (E := xE1) (F := xFk) (P := xPg) (inl := []) (stop := [5, 24, 84]) 31 iM_isProven 24 [(2, 305), (0, v1), (0, v2), (0, v3), (0, v4), (0, v5), (0, v6)] [] σ
set_option maxRecDepth 20000 in
theorem qM_isProven_84 (v1 v2 v4 v5 v6 : Int) (vw3 : xAV) (σ : xS) : X iM_isProven 84 [(2, 305), (0, v1), (0, v2), vw3, (0, v4), (0, v5), (0, v6)] [] σ =
  if v6 < (σ.1 305 30) then (if xin v6 60 then (if (σ.1 325 v6.toNat) = v1 then (if xin v6 60 then (if v2 < (σ.1 328 v6.toNat) then X iM_isProven 84 [(2, 305), (0, v1), (0, v2), vw3, (0, v4), (0, v5), (0, (xw (v6 + 1)))] [] σ
          else if xin v6 60 then (if (σ.1 326 v6.toNat) < v4 then X iM_isProven 84 [(2, 305), (0, v1), (0, v2), vw3, (0, v4), (0, v5), (0, (xw (v6 + 1)))] [] σ
            else if xin v6 60 then (if (σ.1 327 v6.toNat) < v5 then X iM_isProven 84 [(2, 305), (0, v1), (0, v2), vw3, (0, v4), (0, v5), (0, (xw (v6 + 1)))] [] σ
              else some ((0, 1), σ))
            else none)
          else none)
        else none)
      else X iM_isProven 84 [(2, 305), (0, v1), (0, v2), vw3, (0, v4), (0, v5), (0, (xw (v6 + 1)))] [] σ)
    else none)
  else some ((0, 0), σ) :=
  xev_eq (E := xE1) (F := xFk) (P := xPg) (inl := []) (stop := [5, 24, 84]) 32 iM_isProven 84 [(2, 305), (0, v1), (0, v2), vw3, (0, v4), (0, v5), (0, v6)] [] σ
set_option maxRecDepth 20000 in
theorem qM_proven_0 (a1 a2 : Int) (σ : xS) : X iM_proven 0 [(2, 305), (0, a1), (0, a2)] [] σ =
  if a1 < 0 then some ((0, (-1)), σ)
  else if 1000 < a1 then some ((0, (-1)), σ)
  else if a2 < 0 then some ((0, (-1)), σ)
  else if 1000 < a2 then some ((0, (-1)), σ)
  else (X iM_isProven 0 [(2, 305), (0, a1), (0, a2), (9, 0), (9, 0), (9, 0), (9, 0)] [] σ).bind fun q1 => X iM_proven 24 [(2, 305), (0, a1), (0, a2)] [q1.1] q1.2 :=
  xev_eq (E := xE1) (F := xFk) (P := xPg) (inl := [8]) (stop := [24]) 28 iM_proven 0 [(2, 305), (0, a1), (0, a2)] [] σ
set_option maxRecDepth 20000 in
theorem qM_proven_24 (t0 : Int) (vw0 vw1 vw2 : xAV) (σ : xS) : X iM_proven 24 [vw0, vw1, vw2] [(0, t0)] σ =
  if t0 = 0 then some ((0, 0), σ)
  else some ((0, 1), σ) :=
  xev_eq (E := xE1) (F := xFk) (P := xPg) (inl := [8]) (stop := [24]) 6 iM_proven 24 [vw0, vw1, vw2] [(0, t0)] σ
set_option maxRecDepth 20000 in
theorem qM_unsafe_0 (a1 a2 : Int) (σ : xS) : X iM_unsafe 0 [(2, 305), (0, a1), (0, a2), (9, 0), (9, 0), (9, 0), (9, 0), (9, 0)] [] σ =
  if a2 < 0 then some ((0, (-1)), σ)
  else if 1000 < a2 then some ((0, (-1)), σ)
  else X iM_unsafe 14 [(2, 305), (0, a1), (0, a2), (0, 0), (0, 0), (9, 0), (9, 0), (9, 0)] [] σ :=
  xev_eq (E := xE1) (F := xFk) (P := xPg) (inl := [8, 17]) (stop := [14, 34, 51, 74, 182]) 17 iM_unsafe 0 [(2, 305), (0, a1), (0, a2), (9, 0), (9, 0), (9, 0), (9, 0), (9, 0)] [] σ
set_option maxRecDepth 20000 in
theorem qM_unsafe_14 (v1 v2 v3 v4 : Int) (vw5 vw6 vw7 : xAV) (σ : xS) : X iM_unsafe 14 [(2, 305), (0, v1), (0, v2), (0, v3), (0, v4), vw5, vw6, vw7] [] σ =
  if v4 < (σ.1 305 15) then ((X iM_isAsked 0 [(2, 305), (0, v4), (0, (σ.1 305 0)), (0, v2)] [] σ).bind fun q1 => X iM_unsafe 34 [(2, 305), (0, v1), (0, v2), (0, v3), (0, v4), vw5, vw6, vw7] [q1.1] q1.2)
  else some ((0, (-1)), σ) :=
  xev_eq (E := xE1) (F := xFk) (P := xPg) (inl := [8, 17]) (stop := [14, 34, 51, 74, 182]) 12 iM_unsafe 14 [(2, 305), (0, v1), (0, v2), (0, v3), (0, v4), vw5, vw6, vw7] [] σ
set_option maxRecDepth 20000 in
theorem qM_unsafe_34 (v1 v2 v3 v4 t0 : Int) (vw5 vw6 vw7 : xAV) (σ : xS) : X iM_unsafe 34 [(2, 305), (0, v1), (0, v2), (0, v3), (0, v4), vw5, vw6, vw7] [(0, t0)] σ =
  if t0 = 0 then X iM_unsafe 14 [(2, 305), (0, v1), (0, v2), (0, v3), (0, (xw (v4 + 1))), vw5, vw6, vw7] [] σ
  else (X iM_placeOf 0 [(2, 305), (0, v4), (0, (σ.1 305 0)), (0, v2), (9, 0)] [] σ).bind fun q1 => X iM_unsafe 51 [(2, 305), (0, v1), (0, v2), (0, v3), (0, v4), vw5, vw6, vw7] [q1.1] q1.2 :=
  xev_eq (E := xE1) (F := xFk) (P := xPg) (inl := [8, 17]) (stop := [14, 34, 51, 74, 182]) 9 iM_unsafe 34 [(2, 305), (0, v1), (0, v2), (0, v3), (0, v4), vw5, vw6, vw7] [(0, t0)] σ
set_option maxRecDepth 20000 in
theorem qM_unsafe_51 (v1 v2 v3 v4 t0 : Int) (vw5 vw6 vw7 : xAV) (σ : xS) : X iM_unsafe 51 [(2, 305), (0, v1), (0, v2), (0, v3), (0, v4), vw5, vw6, vw7] [(0, t0)] σ =
  if t0 = 0 then X iM_unsafe 74 [(2, 305), (0, v1), (0, v2), (0, v3), (0, v4), (0, t0), (0, (-1)), (0, 0)] [] σ
  else if t0 < 10 then X iM_unsafe 14 [(2, 305), (0, v1), (0, v2), (0, v3), (0, (xw (v4 + 1))), (0, t0), vw6, vw7] [] σ
  else X iM_unsafe 74 [(2, 305), (0, v1), (0, v2), (0, v3), (0, v4), (0, t0), (0, (-1)), (0, 0)] [] σ :=
  xev_eq (E := xE1) (F := xFk) (P := xPg) (inl := [8, 17]) (stop := [14, 34, 51, 74, 182]) 12 iM_unsafe 51 [(2, 305), (0, v1), (0, v2), (0, v3), (0, v4), vw5, vw6, vw7] [(0, t0)] σ
set_option maxRecDepth 20000 in
theorem qM_unsafe_74 (v1 v2 v3 v4 v6 v7 : Int) (vw5 : xAV) (σ : xS) : X iM_unsafe 74 [(2, 305), (0, v1), (0, v2), (0, v3), (0, v4), vw5, (0, v6), (0, v7)] [] σ =
  if v7 < (σ.1 305 22) then (if xin v7 600 then (if (σ.1 318 v7.toNat) = v4 then (if xin v7 600 then (if (σ.1 320 v7.toNat) = 2 then (if xin v7 600 then (if (σ.1 305 0) < (σ.1 319 v7.toNat) then X iM_unsafe 74 [(2, 305), (0, v1), (0, v2), (0, v3), (0, v4), vw5, (0, v6), (0, (xw (v7 + 1)))] [] σ
              else if xin v7 600 then (if v2 < (σ.1 321 v7.toNat) then X iM_unsafe 74 [(2, 305), (0, v1), (0, v2), (0, v3), (0, v4), vw5, (0, v6), (0, (xw (v7 + 1)))] [] σ
                else if xin v7 600 then (if (σ.1 322 v7.toNat) < 0 then (if v6 < 0 then X iM_unsafe 74 [(2, 305), (0, v1), (0, v2), (0, v3), (0, v4), (xkl vw5), (0, v7), (0, (xw (v7 + 1)))] [] σ
                    else if xin v7 600 then (if xin v6 600 then (if (σ.1 319 v7.toNat) < (σ.1 319 v6.toNat) then X iM_unsafe 74 [(2, 305), (0, v1), (0, v2), (0, v3), (0, v4), vw5, (0, v6), (0, (xw (v7 + 1)))] [] σ
                        else X iM_unsafe 74 [(2, 305), (0, v1), (0, v2), (0, v3), (0, v4), (xkl vw5), (0, v7), (0, (xw (v7 + 1)))] [] σ)
                      else none)
                    else none)
                  else if xin v7 600 then (if v2 < (σ.1 322 v7.toNat) then (if v6 < 0 then X iM_unsafe 74 [(2, 305), (0, v1), (0, v2), (0, v3), (0, v4), (xkl vw5), (0, v7), (0, (xw (v7 + 1)))] [] σ
                      else if xin v7 600 then (if xin v6 600 then (if (σ.1 319 v7.toNat) < (σ.1 319 v6.toNat) then X iM_unsafe 74 [(2, 305), (0, v1), (0, v2), (0, v3), (0, v4), vw5, (0, v6), (0, (xw (v7 + 1)))] [] σ
                          else X iM_unsafe 74 [(2, 305), (0, v1), (0, v2), (0, v3), (0, v4), (xkl vw5), (0, v7), (0, (xw (v7 + 1)))] [] σ)
                        else none)
                      else none)
                    else X iM_unsafe 74 [(2, 305), (0, v1), (0, v2), (0, v3), (0, v4), vw5, (0, v6), (0, (xw (v7 + 1)))] [] σ)
                  else none)
                else none)
              else none)
            else none)
          else X iM_unsafe 74 [(2, 305), (0, v1), (0, v2), (0, v3), (0, v4), vw5, (0, v6), (0, (xw (v7 + 1)))] [] σ)
        else none)
      else X iM_unsafe 74 [(2, 305), (0, v1), (0, v2), (0, v3), (0, v4), vw5, (0, v6), (0, (xw (v7 + 1)))] [] σ)
    else none)
  else if v6 < 0 then X iM_unsafe 14 [(2, 305), (0, v1), (0, v2), (0, v3), (0, (xw (v4 + 1))), vw5, (0, v6), (0, v7)] [] σ
  else if xin v6 600 then ((X iM_isProven 0 [(2, 305), (0, (σ.1 319 v6.toNat)), (0, v2), (9, 0), (9, 0), (9, 0), (9, 0)] [] σ).bind fun q1 => X iM_unsafe 182 [(2, 305), (0, v1), (0, v2), (0, v3), (0, v4), vw5, (0, v6), (0, v7)] [q1.1] q1.2)
  else none :=
  xev_eq (E := xE1) (F := xFk) (P := xPg) (inl := [8, 17]) (stop := [14, 34, 51, 74, 182]) 65 iM_unsafe 74 [(2, 305), (0, v1), (0, v2), (0, v3), (0, v4), vw5, (0, v6), (0, v7)] [] σ
set_option maxRecDepth 20000 in
theorem qM_unsafe_182 (v1 v2 v3 v4 t0 : Int) (vw5 vw6 vw7 : xAV) (σ : xS) : X iM_unsafe 182 [(2, 305), (0, v1), (0, v2), (0, v3), (0, v4), vw5, vw6, vw7] [(0, t0)] σ =
  if t0 = 0 then (if v3 = v1 then some ((0, v4), σ)
    else X iM_unsafe 14 [(2, 305), (0, v1), (0, v2), (0, (xw (v3 + 1))), (0, (xw (v4 + 1))), vw5, vw6, vw7] [] σ)
  else X iM_unsafe 14 [(2, 305), (0, v1), (0, v2), (0, v3), (0, (xw (v4 + 1))), vw5, vw6, vw7] [] σ :=
  xev_eq (E := xE1) (F := xFk) (P := xPg) (inl := [8, 17]) (stop := [14, 34, 51, 74, 182]) 9 iM_unsafe 182 [(2, 305), (0, v1), (0, v2), (0, v3), (0, v4), vw5, vw6, vw7] [(0, t0)] σ
set_option maxRecDepth 20000 in
theorem qM_value_0 (a1 a2 : Int) (σ : xS) : X iM_value 0 [(2, 305), (0, a1), (0, a2), (9, 0), (9, 0), (9, 0)] [] σ =
  (X iM_termsOn 0 [(2, 305), (0, (σ.1 305 0)), (9, 0), (9, 0)] [] σ).bind fun q1 => X iM_value 8 [(2, 305), (0, a1), (0, a2), (9, 0), (9, 0), (9, 0)] [q1.1] q1.2 :=
  xev_eq (E := xE1) (F := xFk) (P := xPg) (inl := [7]) (stop := [8, 40, 90, 103, 110]) 6 iM_value 0 [(2, 305), (0, a1), (0, a2), (9, 0), (9, 0), (9, 0)] [] σ
set_option maxRecDepth 20000 in
theorem qM_value_8 (v1 v2 t0 : Int) (vw3 vw4 vw5 : xAV) (σ : xS) : X iM_value 8 [(2, 305), (0, v1), (0, v2), vw3, vw4, vw5] [(0, t0)] σ =
  if v1 < 0 then some ((1, (-2000000000000)), σ)
  else if v1 < (σ.1 305 15) then (if t0 < 0 then some ((1, (-2000000000000)), σ)
    else if v2 < 0 then some ((1, (-2000000000000)), σ)
    else if xin t0 8 then X iM_value 40 [(2, 305), (0, v1), (0, v2), (0, t0), (0, 0), (0, (σ.1 341 t0.toNat))] [] σ
    else none)
  else some ((1, (-2000000000000)), σ) :=
  xev_eq (E := xE1) (F := xFk) (P := xPg) (inl := [7]) (stop := [8, 40, 90, 103, 110]) 27 iM_value 8 [(2, 305), (0, v1), (0, v2), vw3, vw4, vw5] [(0, t0)] σ
set_option maxRecDepth 20000 in
theorem qM_value_40 (v1 v2 v3 v4 v5 : Int) (σ : xS) : X iM_value 40 [(2, 305), (0, v1), (0, v2), (0, v3), (0, v4), (0, v5)] [] σ =
  if xin v3 8 then (if xin v3 8 then (if v5 < (xw ((σ.1 341 v3.toNat) + (σ.1 342 v3.toNat))) then (if xin v5 200 then (if (σ.1 344 v5.toNat) = 0 then (if v4 = v2 then ((X iM_ofSheet 0 [(2, 305), (0, v1), (0, (σ.1 305 0)), (0, (σ.1 305 0))] [] σ).bind fun q1 => X iM_value 90 [(2, 305), (0, v1), (0, v2), (0, v3), (0, v4), (0, v5)] [] q1.2)
            else X iM_value 40 [(2, 305), (0, v1), (0, v2), (0, v3), (0, (xw (v4 + 1))), (0, (xw (v5 + 1)))] [] σ)
          else X iM_value 40 [(2, 305), (0, v1), (0, v2), (0, v3), (0, v4), (0, (xw (v5 + 1)))] [] σ)
        else none)
      else some ((1, (-2000000000000)), σ))
    else none)
  else none :=
  xev_eq (E := xE1) (F := xFk) (P := xPg) (inl := [7]) (stop := [8, 40, 90, 103, 110]) 28 iM_value 40 [(2, 305), (0, v1), (0, v2), (0, v3), (0, v4), (0, v5)] [] σ
set_option maxRecDepth 20000 in
theorem qM_value_90 (v1 v3 v5 : Int) (vw2 vw4 : xAV) (σ : xS) : X iM_value 90 [(2, 305), (0, v1), vw2, (0, v3), vw4, (0, v5)] [] σ =
  (X iM_atHouse 0 [(2, 305), (0, v1), (0, (σ.1 305 0)), (0, (σ.1 305 0)), (9, 0)] [] σ).bind fun q1 => X iM_value 103 [(2, 305), (0, v1), vw2, (0, v3), vw4, (0, v5)] [] q1.2 :=
  xev_eq (E := xE1) (F := xFk) (P := xPg) (inl := [7]) (stop := [8, 40, 90, 103, 110]) 9 iM_value 90 [(2, 305), (0, v1), vw2, (0, v3), vw4, (0, v5)] [] σ
set_option maxRecDepth 20000 in
theorem qM_value_103 (v3 v5 : Int) (vw1 vw2 vw4 : xAV) (σ : xS) : X iM_value 103 [(2, 305), vw1, vw2, (0, v3), vw4, (0, v5)] [] σ =
  (X iM_worked 0 [(2, 305), (0, v3), (0, v5), (9, 0)] [] σ).bind fun q1 => X iM_value 110 [(2, 305), vw1, vw2, (0, v3), vw4, (0, v5)] [q1.1] q1.2 :=
  xev_eq (E := xE1) (F := xFk) (P := xPg) (inl := [7]) (stop := [8, 40, 90, 103, 110]) 6 iM_value 103 [(2, 305), vw1, vw2, (0, v3), vw4, (0, v5)] [] σ
set_option maxRecDepth 20000 in
theorem qM_value_110 (t0 : Int) (vw0 vw1 vw2 vw3 vw4 vw5 : xAV) (σ : xS) : X iM_value 110 [vw0, vw1, vw2, vw3, vw4, vw5] [(1, t0)] σ =
  some ((1, t0), σ) :=
  xev_eq (E := xE1) (F := xFk) (P := xPg) (inl := [7]) (stop := [8, 40, 90, 103, 110]) 3 iM_value 110 [vw0, vw1, vw2, vw3, vw4, vw5] [(1, t0)] σ
set_option maxRecDepth 20000 in
theorem qM_priceOf_0 (a1 a2 a3 a4 : Int) (σ : xS) : X iM_priceOf 0 [(2, 305), (0, a1), (0, a2), (0, a3), (0, a4), (9, 0), (9, 0), (9, 0), (9, 0)] [] σ =
  (X iM_termsOn 0 [(2, 305), (0, a3), (9, 0), (9, 0)] [] σ).bind fun q1 => X iM_priceOf 5 [(2, 305), (0, a1), (0, a2), (0, a3), (0, a4), (9, 0), (9, 0), (9, 0), (9, 0)] [q1.1] q1.2 :=
  xev_eq (E := xE1) (F := xFk) (P := xPg) (inl := []) (stop := [5, 20, 35, 66, 88]) 5 iM_priceOf 0 [(2, 305), (0, a1), (0, a2), (0, a3), (0, a4), (9, 0), (9, 0), (9, 0), (9, 0)] [] σ
set_option maxRecDepth 20000 in
theorem qM_priceOf_5 (v1 v2 v3 v4 t0 : Int) (vw5 vw6 vw7 vw8 : xAV) (σ : xS) : X iM_priceOf 5 [(2, 305), (0, v1), (0, v2), (0, v3), (0, v4), vw5, vw6, vw7, vw8] [(0, t0)] σ =
  if xin v1 150 then ((X iM_lastOf 0 [(2, 305), (0, t0), (0, 1), (0, (σ.1 315 v1.toNat)), (9, 0), (9, 0)] [] σ).bind fun q1 => X iM_priceOf 20 [(2, 305), (0, v1), (0, v2), (0, v3), (0, v4), (0, t0), vw6, vw7, vw8] [q1.1] q1.2)
  else none :=
  xev_eq (E := xE1) (F := xFk) (P := xPg) (inl := []) (stop := [5, 20, 35, 66, 88]) 11 iM_priceOf 5 [(2, 305), (0, v1), (0, v2), (0, v3), (0, v4), vw5, vw6, vw7, vw8] [(0, t0)] σ
set_option maxRecDepth 20000 in
theorem qM_priceOf_20 (v1 v2 v3 v4 v5 t0 : Int) (vw6 vw7 vw8 : xAV) (σ : xS) : X iM_priceOf 20 [(2, 305), (0, v1), (0, v2), (0, v3), (0, v4), (0, v5), vw6, vw7, vw8] [(0, t0)] σ =
  if t0 < 0 then ((X iM_lastOf 0 [(2, 305), (0, v5), (0, 1), (0, (-1)), (9, 0), (9, 0)] [] σ).bind fun q1 => X iM_priceOf 35 [(2, 305), (0, v1), (0, v2), (0, v3), (0, v4), (0, v5), (0, t0), vw7, vw8] [q1.1] q1.2)
  else if t0 < 0 then (if xin v1 150 then (if xin (σ.1 315 v1.toNat) 6 then some ((1, (xw (Int.tdiv (σ.1 310 (σ.1 315 v1.toNat).toNat) 20))), σ)
      else none)
    else none)
  else (X iM_ofSheet 0 [(2, 305), (0, v1), (0, v3), (0, v4)] [] σ).bind fun q2 => X iM_priceOf 66 [(2, 305), (0, v1), (0, v2), (0, v3), (0, v4), (0, v5), (0, t0), vw7, vw8] [] q2.2 :=
  xev_eq (E := xE1) (F := xFk) (P := xPg) (inl := []) (stop := [5, 20, 35, 66, 88]) 18 iM_priceOf 20 [(2, 305), (0, v1), (0, v2), (0, v3), (0, v4), (0, v5), vw6, vw7, vw8] [(0, t0)] σ
set_option maxRecDepth 20000 in
theorem qM_priceOf_35 (v1 v2 v3 v4 v5 t0 : Int) (vw6 vw7 vw8 : xAV) (σ : xS) : X iM_priceOf 35 [(2, 305), (0, v1), (0, v2), (0, v3), (0, v4), (0, v5), vw6, vw7, vw8] [(0, t0)] σ =
  if t0 < 0 then (if xin v1 150 then (if xin (σ.1 315 v1.toNat) 6 then some ((1, (xw (Int.tdiv (σ.1 310 (σ.1 315 v1.toNat).toNat) 20))), σ)
      else none)
    else none)
  else (X iM_ofSheet 0 [(2, 305), (0, v1), (0, v3), (0, v4)] [] σ).bind fun q1 => X iM_priceOf 66 [(2, 305), (0, v1), (0, v2), (0, v3), (0, v4), (0, v5), (0, t0), vw7, vw8] [] q1.2 :=
  xev_eq (E := xE1) (F := xFk) (P := xPg) (inl := []) (stop := [5, 20, 35, 66, 88]) 16 iM_priceOf 35 [(2, 305), (0, v1), (0, v2), (0, v3), (0, v4), (0, v5), vw6, vw7, vw8] [(0, t0)] σ
set_option maxRecDepth 20000 in
theorem qM_priceOf_66 (v2 v5 v6 : Int) (vw1 vw3 vw4 vw7 vw8 : xAV) (σ : xS) : X iM_priceOf 66 [(2, 305), vw1, (0, v2), vw3, vw4, (0, v5), (0, v6), vw7, vw8] [] σ =
  if xin v2 8 then ((X iM_worked 0 [(2, 305), (0, v5), (0, v6), (9, 0)] [] (xs σ 365 6 (σ.1 311 v2.toNat))).bind fun q1 => X iM_priceOf 88 [(2, 305), vw1, (0, v2), vw3, vw4, (0, v5), (0, v6), vw7, vw8] [q1.1] q1.2)
  else none :=
  xev_eq (E := xE1) (F := xFk) (P := xPg) (inl := []) (stop := [5, 20, 35, 66, 88]) 15 iM_priceOf 66 [(2, 305), vw1, (0, v2), vw3, vw4, (0, v5), (0, v6), vw7, vw8] [] σ
set_option maxRecDepth 20000 in
theorem qM_priceOf_88 (t0 : Int) (vw0 vw1 vw2 vw3 vw4 vw5 vw6 vw7 vw8 : xAV) (σ : xS) : X iM_priceOf 88 [vw0, vw1, vw2, vw3, vw4, vw5, vw6, vw7, vw8] [(1, t0)] σ =
  if t0 < 0 then some ((1, 0), σ)
  else some ((1, t0), σ) :=
  xev_eq (E := xE1) (F := xFk) (P := xPg) (inl := []) (stop := [5, 20, 35, 66, 88]) 9 iM_priceOf 88 [vw0, vw1, vw2, vw3, vw4, vw5, vw6, vw7, vw8] [(1, t0)] σ
set_option maxRecDepth 20000 in
theorem qM_price_0 (a1 a2 : Int) (σ : xS) : X iM_price 0 [(2, 305), (0, a1), (0, a2)] [] σ =
  if a1 < 0 then some ((1, (-1)), σ)
  else if a1 < (σ.1 305 15) then (if a2 < 0 then some ((1, (-1)), σ)
    else if a2 < (σ.1 305 11) then ((X iM_priceOf 0 [(2, 305), (0, a1), (0, a2), (0, (σ.1 305 0)), (0, (σ.1 305 0)), (9, 0), (9, 0), (9, 0), (9, 0)] [] σ).bind fun q1 => X iM_price 30 [(2, 305), (0, a1), (0, a2)] [q1.1] q1.2)
    else some ((1, (-1)), σ))
  else some ((1, (-1)), σ) :=
  xev_eq (E := xE1) (F := xFk) (P := xPg) (inl := [6, 7]) (stop := [30]) 36 iM_price 0 [(2, 305), (0, a1), (0, a2)] [] σ
set_option maxRecDepth 20000 in
theorem qM_price_30 (t0 : Int) (vw0 vw1 vw2 : xAV) (σ : xS) : X iM_price 30 [vw0, vw1, vw2] [(1, t0)] σ =
  some ((1, t0), σ) :=
  xev_eq (E := xE1) (F := xFk) (P := xPg) (inl := [6, 7]) (stop := [30]) 4 iM_price 30 [vw0, vw1, vw2] [(1, t0)] σ
set_option maxRecDepth 20000 in
theorem qM_bill_0 (a1 a2 a3 a4 : Int) (σ : xS) : X iM_bill 0 [(2, 305), (0, a1), (0, a2), (0, a3), (0, a4), (9, 0), (9, 0), (9, 0)] [] σ =
  if a1 < 0 then some ((1, (-1)), σ)
  else if a1 < (σ.1 305 11) then (if a2 < 0 then some ((1, (-1)), σ)
    else if 1000 < a2 then some ((1, (-1)), σ)
    else if a3 < 0 then some ((1, (-1)), σ)
    else if 1000 < a3 then some ((1, (-1)), σ)
    else if a4 < 0 then some ((1, (-1)), σ)
    else if 1000 < a4 then some ((1, (-1)), σ)
    else X iM_bill 40 [(2, 305), (0, a1), (0, a2), (0, a3), (0, a4), (1, 0), (8, 0), (0, 0)] [] σ)
  else some ((1, (-1)), σ) :=
  xev_eq (E := xE1) (F := xFk) (P := xPg) (inl := [6, 8, 17]) (stop := [40, 119]) 52 iM_bill 0 [(2, 305), (0, a1), (0, a2), (0, a3), (0, a4), (9, 0), (9, 0), (9, 0)] [] σ
set_option maxRecDepth 20000 in
theorem qM_bill_40 (v1 v2 v3 v4 v5 v7 : Int) (σ : xS) : X iM_bill 40 [(2, 305), (0, v1), (0, v2), (0, v3), (0, v4), (1, v5), (8, 0), (0, v7)] [] σ =
  if v7 < (σ.1 305 22) then (if xin v7 600 then (if (σ.1 320 v7.toNat) = (xw (10 + v1)) then (if xin v7 600 then (if (σ.1 319 v7.toNat) < v2 then X iM_bill 40 [(2, 305), (0, v1), (0, v2), (0, v3), (0, v4), (1, v5), (8, 0), (0, (xw (v7 + 1)))] [] σ
          else if xin v7 600 then (if v3 < (σ.1 319 v7.toNat) then X iM_bill 40 [(2, 305), (0, v1), (0, v2), (0, v3), (0, v4), (1, v5), (8, 0), (0, (xw (v7 + 1)))] [] σ
            else if xin v7 600 then (if v4 < (σ.1 321 v7.toNat) then X iM_bill 40 [(2, 305), (0, v1), (0, v2), (0, v3), (0, v4), (1, v5), (8, 0), (0, (xw (v7 + 1)))] [] σ
              else if xin v7 600 then (if (σ.1 322 v7.toNat) < 0 then (if xin v7 600 then (if xin v7 600 then ((X iM_priceOf 0 [(2, 305), (0, (σ.1 318 v7.toNat)), (0, v1), (0, (σ.1 319 v7.toNat)), (0, v4), (9, 0), (9, 0), (9, 0), (9, 0)] [] σ).bind fun q1 => X iM_bill 119 [(2, 305), (0, v1), (0, v2), (0, v3), (0, v4), (1, v5), (8, 0), (0, v7)] [q1.1, (1, v5)] q1.2)
                    else none)
                  else none)
                else if xin v7 600 then (if v4 < (σ.1 322 v7.toNat) then (if xin v7 600 then (if xin v7 600 then ((X iM_priceOf 0 [(2, 305), (0, (σ.1 318 v7.toNat)), (0, v1), (0, (σ.1 319 v7.toNat)), (0, v4), (9, 0), (9, 0), (9, 0), (9, 0)] [] σ).bind fun q2 => X iM_bill 119 [(2, 305), (0, v1), (0, v2), (0, v3), (0, v4), (1, v5), (8, 0), (0, v7)] [q2.1, (1, v5)] q2.2)
                      else none)
                    else none)
                  else X iM_bill 40 [(2, 305), (0, v1), (0, v2), (0, v3), (0, v4), (1, v5), (8, 0), (0, (xw (v7 + 1)))] [] σ)
                else none)
              else none)
            else none)
          else none)
        else none)
      else X iM_bill 40 [(2, 305), (0, v1), (0, v2), (0, v3), (0, v4), (1, v5), (8, 0), (0, (xw (v7 + 1)))] [] σ)
    else none)
  else some ((1, v5), σ) :=
  xev_eq (E := xE1) (F := xFk) (P := xPg) (inl := [6, 8, 17]) (stop := [40, 119]) 64 iM_bill 40 [(2, 305), (0, v1), (0, v2), (0, v3), (0, v4), (1, v5), (8, 0), (0, v7)] [] σ
set_option maxRecDepth 20000 in
theorem qM_bill_119 (v1 v2 v3 v4 v7 t0 t1 : Int) (vw5 vw6 : xAV) (σ : xS) : X iM_bill 119 [(2, 305), (0, v1), (0, v2), (0, v3), (0, v4), vw5, vw6, (0, v7)] [(1, t0), (1, t1)] σ =
  X iM_bill 40 [(2, 305), (0, v1), (0, v2), (0, v3), (0, v4), (1, (xW (t1 + t0))), (8, 0), (0, (xw (v7 + 1)))] [] σ :=
  xev_eq (E := xE1) (F := xFk) (P := xPg) (inl := [6, 8, 17]) (stop := [40, 119]) 6 iM_bill 119 [(2, 305), (0, v1), (0, v2), (0, v3), (0, v4), vw5, vw6, (0, v7)] [(1, t0), (1, t1)] σ
set_option maxRecDepth 20000 in
theorem qM_parts_0 (a1 a2 a3 : Int) (σ : xS) : X iM_parts 0 [(2, 305), (0, a1), (0, a2), (0, a3), (9, 0), (9, 0), (9, 0), (9, 0), (9, 0), (9, 0), (9, 0), (9, 0), (9, 0), (9, 0)] [] σ =
  (X iM_termsOn 0 [(2, 305), (0, a2), (9, 0), (9, 0)] [] σ).bind fun q1 => X iM_parts 5 [(2, 305), (0, a1), (0, a2), (0, a3), (9, 0), (9, 0), (9, 0), (9, 0), (9, 0), (9, 0), (9, 0), (9, 0), (9, 0), (9, 0)] [q1.1] q1.2 :=
  xev_eq (E := xE1) (F := xFk) (P := xPg) (inl := []) (stop := [5, 14, 21, 56, 75, 90, 124, 187, 251, 264]) 5 iM_parts 0 [(2, 305), (0, a1), (0, a2), (0, a3), (9, 0), (9, 0), (9, 0), (9, 0), (9, 0), (9, 0), (9, 0), (9, 0), (9, 0), (9, 0)] [] σ
set_option maxRecDepth 20000 in
theorem qM_parts_5 (v1 v2 v3 t0 : Int) (vw4 vw5 vw6 vw7 vw8 vw9 vw10 vw11 vw12 vw13 : xAV) (σ : xS) : X iM_parts 5 [(2, 305), (0, v1), (0, v2), (0, v3), vw4, vw5, vw6, vw7, vw8, vw9, vw10, vw11, vw12, vw13] [(0, t0)] σ =
  (X iM_ofSheet 0 [(2, 305), (0, v1), (0, v2), (0, v3)] [] σ).bind fun q1 => X iM_parts 14 [(2, 305), (0, v1), (0, v2), (0, v3), (0, t0), vw5, vw6, vw7, vw8, vw9, vw10, vw11, vw12, vw13] [] q1.2 :=
  xev_eq (E := xE1) (F := xFk) (P := xPg) (inl := []) (stop := [5, 14, 21, 56, 75, 90, 124, 187, 251, 264]) 8 iM_parts 5 [(2, 305), (0, v1), (0, v2), (0, v3), vw4, vw5, vw6, vw7, vw8, vw9, vw10, vw11, vw12, vw13] [(0, t0)] σ
set_option maxRecDepth 20000 in
theorem qM_parts_14 (v1 v2 v3 v4 : Int) (vw5 vw6 vw7 vw8 vw9 vw10 vw11 vw12 vw13 : xAV) (σ : xS) : X iM_parts 14 [(2, 305), (0, v1), (0, v2), (0, v3), (0, v4), vw5, vw6, vw7, vw8, vw9, vw10, vw11, vw12, vw13] [] σ =
  (X iM_atHouse 0 [(2, 305), (0, v1), (0, v2), (0, v3), (9, 0)] [] σ).bind fun q1 => X iM_parts 21 [(2, 305), (0, v1), (0, v2), (0, v3), (0, v4), vw5, vw6, vw7, vw8, vw9, vw10, vw11, vw12, vw13] [] q1.2 :=
  xev_eq (E := xE1) (F := xFk) (P := xPg) (inl := []) (stop := [5, 14, 21, 56, 75, 90, 124, 187, 251, 264]) 7 iM_parts 14 [(2, 305), (0, v1), (0, v2), (0, v3), (0, v4), vw5, vw6, vw7, vw8, vw9, vw10, vw11, vw12, vw13] [] σ
set_option maxRecDepth 20000 in
theorem qM_parts_21 (v1 v4 : Int) (vw2 vw3 vw5 vw6 vw7 vw8 vw9 vw10 vw11 vw12 vw13 : xAV) (σ : xS) : X iM_parts 21 [(2, 305), (0, v1), vw2, vw3, (0, v4), vw5, vw6, vw7, vw8, vw9, vw10, vw11, vw12, vw13] [] σ =
  if xin v1 150 then (if xin (σ.1 315 v1.toNat) 6 then (if xin (σ.1 315 v1.toNat) 6 then ((X iM_max 0 [(0, 0), (0, (xw ((σ.1 309 (σ.1 315 v1.toNat).toNat) - (xw (σ.1 365 0)))))] [] σ).bind fun q1 => X iM_parts 56 [(2, 305), (0, v1), vw2, vw3, (0, v4), (0, (σ.1 315 v1.toNat)), vw6, vw7, vw8, vw9, vw10, vw11, vw12, vw13] [q1.1, (1, (σ.1 310 (σ.1 315 v1.toNat).toNat))] q1.2)
      else none)
    else none)
  else none :=
  xev_eq (E := xE1) (F := xFk) (P := xPg) (inl := []) (stop := [5, 14, 21, 56, 75, 90, 124, 187, 251, 264]) 24 iM_parts 21 [(2, 305), (0, v1), vw2, vw3, (0, v4), vw5, vw6, vw7, vw8, vw9, vw10, vw11, vw12, vw13] [] σ
set_option maxRecDepth 20000 in
theorem qM_parts_56 (v4 v5 t0 t1 : Int) (vw1 vw2 vw3 vw6 vw7 vw8 vw9 vw10 vw11 vw12 vw13 : xAV) (σ : xS) : X iM_parts 56 [(2, 305), vw1, vw2, vw3, (0, v4), (0, v5), vw6, vw7, vw8, vw9, vw10, vw11, vw12, vw13] [(0, t0), (1, t1)] σ =
  if xin v5 6 then (if (σ.1 309 v5.toNat) = 0 then none
    else X iM_parts 75 [(2, 305), vw1, vw2, vw3, (0, v4), (0, v5), (1, (xW (Int.tdiv (xW (t1 * t0)) (σ.1 309 v5.toNat)))), (8, 0), (1, 0), (8, 0), (0, 0), vw11, vw12, vw13] [] σ)
  else none :=
  xev_eq (E := xE1) (F := xFk) (P := xPg) (inl := []) (stop := [5, 14, 21, 56, 75, 90, 124, 187, 251, 264]) 15 iM_parts 56 [(2, 305), vw1, vw2, vw3, (0, v4), (0, v5), vw6, vw7, vw8, vw9, vw10, vw11, vw12, vw13] [(0, t0), (1, t1)] σ
set_option maxRecDepth 20000 in
theorem qM_parts_75 (v4 v6 v8 v10 : Int) (vw1 vw2 vw3 vw5 vw11 vw12 vw13 : xAV) (σ : xS) : X iM_parts 75 [(2, 305), vw1, vw2, vw3, (0, v4), vw5, (1, v6), (8, 0), (1, v8), (8, 0), (0, v10), vw11, vw12, vw13] [] σ =
  if v10 < 3 then ((X iM_lastOf 0 [(2, 305), (0, v4), (0, 2), (0, v10), (9, 0), (9, 0)] [] σ).bind fun q1 => X iM_parts 90 [(2, 305), vw1, vw2, vw3, (0, v4), vw5, (1, v6), (8, 0), (1, v8), (8, 0), (0, v10), vw11, vw12, vw13] [q1.1] q1.2)
  else if v8 = 0 then X iM_parts 187 [(2, 305), vw1, vw2, vw3, (0, v4), vw5, (1, v6), (8, 0), (1, 1), (8, 0), (1, v6), (8, 0), (0, 0), vw13] [] (xs σ 366 2 1)
  else X iM_parts 187 [(2, 305), vw1, vw2, vw3, (0, v4), vw5, (1, v6), (8, 0), (1, v8), (8, 0), (1, v6), (8, 0), (0, 0), vw13] [] σ :=
  xev_eq (E := xE1) (F := xFk) (P := xPg) (inl := []) (stop := [5, 14, 21, 56, 75, 90, 124, 187, 251, 264]) 19 iM_parts 75 [(2, 305), vw1, vw2, vw3, (0, v4), vw5, (1, v6), (8, 0), (1, v8), (8, 0), (0, v10), vw11, vw12, vw13] [] σ
set_option maxRecDepth 20000 in
theorem qM_parts_90 (v4 v6 v8 v10 t0 : Int) (vw1 vw2 vw3 vw5 vw11 vw12 vw13 : xAV) (σ : xS) : X iM_parts 90 [(2, 305), vw1, vw2, vw3, (0, v4), vw5, (1, v6), (8, 0), (1, v8), (8, 0), (0, v10), vw11, vw12, vw13] [(0, t0)] σ =
  if t0 < 0 then (if v10 = 0 then X iM_parts 124 [(2, 305), vw1, vw2, vw3, (0, v4), vw5, (1, v6), (8, 0), (1, v8), (8, 0), (0, v10), (0, t0), vw12, vw13] [(1, 1), (0, v10), (2, 366)] σ
    else X iM_parts 124 [(2, 305), vw1, vw2, vw3, (0, v4), vw5, (1, v6), (8, 0), (1, v8), (8, 0), (0, v10), (0, t0), vw12, vw13] [(1, 0), (0, v10), (2, 366)] σ)
  else (X iM_worked 0 [(2, 305), (0, v4), (0, t0), (9, 0)] [] σ).bind fun q1 => X iM_parts 124 [(2, 305), vw1, vw2, vw3, (0, v4), vw5, (1, v6), (8, 0), (1, v8), (8, 0), (0, v10), (0, t0), vw12, vw13] [q1.1, (0, v10), (2, 366)] q1.2 :=
  xev_eq (E := xE1) (F := xFk) (P := xPg) (inl := []) (stop := [5, 14, 21, 56, 75, 90, 124, 187, 251, 264]) 12 iM_parts 90 [(2, 305), vw1, vw2, vw3, (0, v4), vw5, (1, v6), (8, 0), (1, v8), (8, 0), (0, v10), vw11, vw12, vw13] [(0, t0)] σ
set_option maxRecDepth 20000 in
theorem qM_parts_124 (v4 v6 v8 v10 t0 t1 : Int) (vw1 vw2 vw3 vw5 vw11 vw12 vw13 : xAV) (σ : xS) : X iM_parts 124 [(2, 305), vw1, vw2, vw3, (0, v4), vw5, (1, v6), (8, 0), (1, v8), (8, 0), (0, v10), vw11, vw12, vw13] [(1, t0), (0, t1), (2, 366)] σ =
  if xin t1 3 then (if xin v10 3 then (if ((xs σ 366 t1.toNat t0).1 366 v10.toNat) < 0 then (if xin v10 3 then (if xin v10 3 then X iM_parts 75 [(2, 305), vw1, vw2, vw3, (0, v4), vw5, (1, v6), (8, 0), (1, (xW (v8 + ((xs (xs σ 366 t1.toNat t0) 366 v10.toNat 0).1 366 v10.toNat)))), (8, 0), (0, (xw (v10 + 1))), vw11, vw12, vw13] [] (xs (xs σ 366 t1.toNat t0) 366 v10.toNat 0)
          else none)
        else none)
      else if xin v10 3 then X iM_parts 75 [(2, 305), vw1, vw2, vw3, (0, v4), vw5, (1, v6), (8, 0), (1, (xW (v8 + ((xs σ 366 t1.toNat t0).1 366 v10.toNat)))), (8, 0), (0, (xw (v10 + 1))), vw11, vw12, vw13] [] (xs σ 366 t1.toNat t0)
      else none)
    else none)
  else none :=
  xev_eq (E := xE1) (F := xFk) (P := xPg) (inl := []) (stop := [5, 14, 21, 56, 75, 90, 124, 187, 251, 264]) 23 iM_parts 124 [(2, 305), vw1, vw2, vw3, (0, v4), vw5, (1, v6), (8, 0), (1, v8), (8, 0), (0, v10), vw11, vw12, vw13] [(1, t0), (0, t1), (2, 366)] σ
set_option maxRecDepth 20000 in
theorem qM_parts_187 (v6 v8 v10 v12 : Int) (vw1 vw2 vw3 vw4 vw5 vw13 : xAV) (σ : xS) : X iM_parts 187 [(2, 305), vw1, vw2, vw3, vw4, vw5, (1, v6), (8, 0), (1, v8), (8, 0), (1, v10), (8, 0), (0, v12), vw13] [] σ =
  if v12 < 3 then (if xin v12 3 then (if v8 = 0 then none
      else if xin v12 3 then (if xin v12 3 then (if v8 = 0 then none
          else if xin v12 3 then (if xin v12 3 then X iM_parts 187 [(2, 305), vw1, vw2, vw3, vw4, vw5, (1, v6), (8, 0), (1, v8), (8, 0), (1, (xW (v10 - ((xs σ 367 v12.toNat (xW (Int.tdiv (xW (v6 * (σ.1 366 v12.toNat))) v8))).1 367 v12.toNat)))), (8, 0), (0, (xw (v12 + 1))), vw13] [] (xs (xs σ 367 v12.toNat (xW (Int.tdiv (xW (v6 * (σ.1 366 v12.toNat))) v8))) 368 v12.toNat (Int.tmod (xW (v6 * (σ.1 366 v12.toNat))) v8))
            else none)
          else none)
        else none)
      else none)
    else none)
  else X iM_parts 251 [(2, 305), vw1, vw2, vw3, vw4, vw5, (1, v6), (8, 0), (1, v8), (8, 0), (1, v10), (8, 0), (0, v12), vw13] [] σ :=
  xev_eq (E := xE1) (F := xFk) (P := xPg) (inl := []) (stop := [5, 14, 21, 56, 75, 90, 124, 187, 251, 264]) 38 iM_parts 187 [(2, 305), vw1, vw2, vw3, vw4, vw5, (1, v6), (8, 0), (1, v8), (8, 0), (1, v10), (8, 0), (0, v12), vw13] [] σ
set_option maxRecDepth 20000 in
theorem qM_parts_251 (v10 : Int) (vw1 vw2 vw3 vw4 vw5 vw6 vw7 vw8 vw9 vw12 vw13 : xAV) (σ : xS) : X iM_parts 251 [(2, 305), vw1, vw2, vw3, vw4, vw5, vw6, vw7, vw8, vw9, (1, v10), (8, 0), vw12, vw13] [] σ =
  if 0 < v10 then X iM_parts 264 [(2, 305), vw1, vw2, vw3, vw4, vw5, vw6, vw7, vw8, vw9, (1, v10), (8, 0), (0, 0), (0, 1)] [] σ
  else some ((9, 0), σ) :=
  xev_eq (E := xE1) (F := xFk) (P := xPg) (inl := []) (stop := [5, 14, 21, 56, 75, 90, 124, 187, 251, 264]) 9 iM_parts 251 [(2, 305), vw1, vw2, vw3, vw4, vw5, vw6, vw7, vw8, vw9, (1, v10), (8, 0), vw12, vw13] [] σ
set_option maxRecDepth 20000 in
theorem qM_parts_264 (v10 v12 v13 : Int) (vw1 vw2 vw3 vw4 vw5 vw6 vw7 vw8 vw9 : xAV) (σ : xS) : X iM_parts 264 [(2, 305), vw1, vw2, vw3, vw4, vw5, vw6, vw7, vw8, vw9, (1, v10), (8, 0), (0, v12), (0, v13)] [] σ =
  if v13 < 3 then (if xin v13 3 then (if xin v12 3 then (if (σ.1 368 v12.toNat) < (σ.1 368 v13.toNat) then X iM_parts 264 [(2, 305), vw1, vw2, vw3, vw4, vw5, vw6, vw7, vw8, vw9, (1, v10), (8, 0), (0, v13), (0, (xw (v13 + 1)))] [] σ
        else X iM_parts 264 [(2, 305), vw1, vw2, vw3, vw4, vw5, vw6, vw7, vw8, vw9, (1, v10), (8, 0), (0, v12), (0, (xw (v13 + 1)))] [] σ)
      else none)
    else none)
  else if xin v12 3 then (if xin v12 3 then (if xin v12 3 then X iM_parts 251 [(2, 305), vw1, vw2, vw3, vw4, vw5, vw6, vw7, vw8, (xkl vw9), (1, (xW (v10 - 1))), (8, 0), (0, v12), (0, v13)] [] (xs (xs σ 367 v12.toNat (xW ((σ.1 367 v12.toNat) + 1))) 368 v12.toNat (-1))
      else none)
    else none)
  else none :=
  xev_eq (E := xE1) (F := xFk) (P := xPg) (inl := []) (stop := [5, 14, 21, 56, 75, 90, 124, 187, 251, 264]) 23 iM_parts 264 [(2, 305), vw1, vw2, vw3, vw4, vw5, vw6, vw7, vw8, vw9, (1, v10), (8, 0), (0, v12), (0, v13)] [] σ
set_option maxRecDepth 20000 in
theorem qM_part_0 (a1 a2 a3 a4 : Int) (σ : xS) : X iM_part 0 [(2, 305), (0, a1), (0, a2), (0, a3), (0, a4), (9, 0), (9, 0), (9, 0)] [] σ =
  if a1 < 0 then some ((1, (-1)), σ)
  else if a1 < (σ.1 305 11) then (if a2 < 0 then some ((1, (-1)), σ)
    else if 2 < a2 then some ((1, (-1)), σ)
    else if a3 < 0 then some ((1, (-1)), σ)
    else if 1000 < a3 then some ((1, (-1)), σ)
    else if a4 < 0 then some ((1, (-1)), σ)
    else if 1000 < a4 then some ((1, (-1)), σ)
    else X iM_part 42 [(2, 305), (0, a1), (0, a2), (0, a3), (0, a4), (1, 0), (8, 0), (0, 0)] [] σ)
  else some ((1, (-1)), σ) :=
  xev_eq (E := xE1) (F := xFk) (P := xPg) (inl := [1, 6, 8]) (stop := [42, 61, 76]) 55 iM_part 0 [(2, 305), (0, a1), (0, a2), (0, a3), (0, a4), (9, 0), (9, 0), (9, 0)] [] σ
set_option maxRecDepth 20000 in
theorem qM_part_42 (v1 v2 v3 v4 v5 v7 : Int) (σ : xS) : X iM_part 42 [(2, 305), (0, v1), (0, v2), (0, v3), (0, v4), (1, v5), (8, 0), (0, v7)] [] σ =
  if v7 < (σ.1 305 15) then ((X iM_isLost 0 [(2, 305), (0, v7), (0, v1), (0, v3), (0, v4)] [] σ).bind fun q1 => X iM_part 61 [(2, 305), (0, v1), (0, v2), (0, v3), (0, v4), (1, v5), (8, 0), (0, v7)] [q1.1] q1.2)
  else some ((1, v5), σ) :=
  xev_eq (E := xE1) (F := xFk) (P := xPg) (inl := [1, 6, 8]) (stop := [42, 61, 76]) 12 iM_part 42 [(2, 305), (0, v1), (0, v2), (0, v3), (0, v4), (1, v5), (8, 0), (0, v7)] [] σ
set_option maxRecDepth 20000 in
theorem qM_part_61 (v1 v2 v3 v4 v5 v7 t0 : Int) (σ : xS) : X iM_part 61 [(2, 305), (0, v1), (0, v2), (0, v3), (0, v4), (1, v5), (8, 0), (0, v7)] [(0, t0)] σ =
  if t0 = 0 then X iM_part 42 [(2, 305), (0, v1), (0, v2), (0, v3), (0, v4), (1, v5), (8, 0), (0, (xw (v7 + 1)))] [] σ
  else (X iM_parts 0 [(2, 305), (0, v7), (0, v3), (0, v4), (9, 0), (9, 0), (9, 0), (9, 0), (9, 0), (9, 0), (9, 0), (9, 0), (9, 0), (9, 0)] [] σ).bind fun q1 => X iM_part 76 [(2, 305), (0, v1), (0, v2), (0, v3), (0, v4), (1, v5), (8, 0), (0, v7)] [] q1.2 :=
  xev_eq (E := xE1) (F := xFk) (P := xPg) (inl := [1, 6, 8]) (stop := [42, 61, 76]) 8 iM_part 61 [(2, 305), (0, v1), (0, v2), (0, v3), (0, v4), (1, v5), (8, 0), (0, v7)] [(0, t0)] σ
set_option maxRecDepth 20000 in
theorem qM_part_76 (v1 v2 v3 v4 v5 v7 : Int) (σ : xS) : X iM_part 76 [(2, 305), (0, v1), (0, v2), (0, v3), (0, v4), (1, v5), (8, 0), (0, v7)] [] σ =
  if xin v2 3 then X iM_part 42 [(2, 305), (0, v1), (0, v2), (0, v3), (0, v4), (1, (xW (v5 + (σ.1 367 v2.toNat)))), (8, 0), (0, (xw (v7 + 1)))] [] σ
  else none :=
  xev_eq (E := xE1) (F := xFk) (P := xPg) (inl := [1, 6, 8]) (stop := [42, 61, 76]) 11 iM_part 76 [(2, 305), (0, v1), (0, v2), (0, v3), (0, v4), (1, v5), (8, 0), (0, v7)] [] σ
set_option maxRecDepth 20000 in
theorem qM_due_0 (a1 : Int) (σ : xS) : X iM_due 0 [(2, 305), (0, a1), (9, 0), (9, 0), (9, 0), (9, 0)] [] σ =
  (X iM_termsOn 0 [(2, 305), (0, (σ.1 305 0)), (9, 0), (9, 0)] [] σ).bind fun q1 => X iM_due 8 [(2, 305), (0, a1), (9, 0), (9, 0), (9, 0), (9, 0)] [q1.1] q1.2 :=
  xev_eq (E := xE1) (F := xFk) (P := xPg) (inl := []) (stop := [8, 16, 23, 46, 66, 102]) 6 iM_due 0 [(2, 305), (0, a1), (9, 0), (9, 0), (9, 0), (9, 0)] [] σ
set_option maxRecDepth 20000 in
theorem qM_due_8 (v1 t0 : Int) (vw2 vw3 vw4 vw5 : xAV) (σ : xS) : X iM_due 8 [(2, 305), (0, v1), vw2, vw3, vw4, vw5] [(0, t0)] σ =
  (X iM_lastOf 0 [(2, 305), (0, t0), (0, 3), (0, (-1)), (9, 0), (9, 0)] [] σ).bind fun q1 => X iM_due 16 [(2, 305), (0, v1), (0, t0), vw3, vw4, vw5] [q1.1] q1.2 :=
  xev_eq (E := xE1) (F := xFk) (P := xPg) (inl := []) (stop := [8, 16, 23, 46, 66, 102]) 8 iM_due 8 [(2, 305), (0, v1), vw2, vw3, vw4, vw5] [(0, t0)] σ
set_option maxRecDepth 20000 in
theorem qM_due_16 (v1 v2 t0 : Int) (vw3 vw4 vw5 : xAV) (σ : xS) : X iM_due 16 [(2, 305), (0, v1), (0, v2), vw3, vw4, vw5] [(0, t0)] σ =
  X iM_due 23 [(2, 305), (0, v1), (0, v2), (0, t0), (0, 0), (0, 0)] [] σ :=
  xev_eq (E := xE1) (F := xFk) (P := xPg) (inl := []) (stop := [8, 16, 23, 46, 66, 102]) 7 iM_due 16 [(2, 305), (0, v1), (0, v2), vw3, vw4, vw5] [(0, t0)] σ
set_option maxRecDepth 20000 in
theorem qM_due_23 (v1 v2 v3 v4 v5 : Int) (σ : xS) : X iM_due 23 [(2, 305), (0, v1), (0, v2), (0, v3), (0, v4), (0, v5)] [] σ =
  if v5 < (σ.1 305 15) then ((X iM_placeOf 0 [(2, 305), (0, v5), (0, (σ.1 305 0)), (0, (σ.1 305 0)), (9, 0)] [] σ).bind fun q1 => X iM_due 46 [(2, 305), (0, v1), (0, v2), (0, v3), (0, v4), (0, v5)] [q1.1] q1.2)
  else some ((0, (-1)), σ) :=
  xev_eq (E := xE1) (F := xFk) (P := xPg) (inl := []) (stop := [8, 16, 23, 46, 66, 102]) 13 iM_due 23 [(2, 305), (0, v1), (0, v2), (0, v3), (0, v4), (0, v5)] [] σ
set_option maxRecDepth 20000 in
theorem qM_due_46 (v1 v2 v3 v4 v5 t0 : Int) (σ : xS) : X iM_due 46 [(2, 305), (0, v1), (0, v2), (0, v3), (0, v4), (0, v5)] [(0, t0)] σ =
  if t0 = 0 then ((X iM_ofSheet 0 [(2, 305), (0, v5), (0, (σ.1 305 0)), (0, (σ.1 305 0))] [] σ).bind fun q1 => X iM_due 66 [(2, 305), (0, v1), (0, v2), (0, v3), (0, v4), (0, v5)] [] q1.2)
  else X iM_due 23 [(2, 305), (0, v1), (0, v2), (0, v3), (0, v4), (0, (xw (v5 + 1)))] [] σ :=
  xev_eq (E := xE1) (F := xFk) (P := xPg) (inl := []) (stop := [8, 16, 23, 46, 66, 102]) 10 iM_due 46 [(2, 305), (0, v1), (0, v2), (0, v3), (0, v4), (0, v5)] [(0, t0)] σ
set_option maxRecDepth 20000 in
theorem qM_due_66 (v1 v2 v3 v4 v5 : Int) (σ : xS) : X iM_due 66 [(2, 305), (0, v1), (0, v2), (0, v3), (0, v4), (0, v5)] [] σ =
  if v3 < 0 then (if xin v5 150 then (if xin (σ.1 315 v5.toNat) 6 then (if (σ.1 365 0) < (σ.1 309 (σ.1 315 v5.toNat).toNat) then X iM_due 23 [(2, 305), (0, v1), (0, v2), (0, v3), (0, v4), (0, (xw (v5 + 1)))] [] σ
        else if v4 = v1 then some ((0, v5), σ)
        else X iM_due 23 [(2, 305), (0, v1), (0, v2), (0, v3), (0, (xw (v4 + 1))), (0, (xw (v5 + 1)))] [] σ)
      else none)
    else none)
  else (X iM_worked 0 [(2, 305), (0, v2), (0, v3), (9, 0)] [] σ).bind fun q1 => X iM_due 102 [(2, 305), (0, v1), (0, v2), (0, v3), (0, v4), (0, v5)] [q1.1] q1.2 :=
  xev_eq (E := xE1) (F := xFk) (P := xPg) (inl := []) (stop := [8, 16, 23, 46, 66, 102]) 23 iM_due 66 [(2, 305), (0, v1), (0, v2), (0, v3), (0, v4), (0, v5)] [] σ
set_option maxRecDepth 20000 in
theorem qM_due_102 (v1 v2 v3 v4 v5 t0 : Int) (σ : xS) : X iM_due 102 [(2, 305), (0, v1), (0, v2), (0, v3), (0, v4), (0, v5)] [(1, t0)] σ =
  if 0 < t0 then (if v4 = v1 then some ((0, v5), σ)
    else X iM_due 23 [(2, 305), (0, v1), (0, v2), (0, v3), (0, (xw (v4 + 1))), (0, (xw (v5 + 1)))] [] σ)
  else X iM_due 23 [(2, 305), (0, v1), (0, v2), (0, v3), (0, v4), (0, (xw (v5 + 1)))] [] σ :=
  xev_eq (E := xE1) (F := xFk) (P := xPg) (inl := []) (stop := [8, 16, 23, 46, 66, 102]) 10 iM_due 102 [(2, 305), (0, v1), (0, v2), (0, v3), (0, v4), (0, v5)] [(1, t0)] σ
set_option maxRecDepth 20000 in
theorem qM_wantedOn_0 (a1 a2 : Int) (σ : xS) : X iM_wantedOn 0 [(2, 305), (0, a1), (0, a2), (9, 0), (9, 0), (9, 0), (9, 0), (9, 0), (9, 0)] [] σ =
  (X iM_termsOn 0 [(2, 305), (0, a2), (9, 0), (9, 0)] [] σ).bind fun q1 => X iM_wantedOn 5 [(2, 305), (0, a1), (0, a2), (9, 0), (9, 0), (9, 0), (9, 0), (9, 0), (9, 0)] [q1.1] q1.2 :=
  xev_eq (E := xE1) (F := xFk) (P := xPg) (inl := []) (stop := [5, 21, 93, 135, 140, 164]) 5 iM_wantedOn 0 [(2, 305), (0, a1), (0, a2), (9, 0), (9, 0), (9, 0), (9, 0), (9, 0), (9, 0)] [] σ
set_option maxRecDepth 20000 in
theorem qM_wantedOn_5 (v1 v2 t0 : Int) (vw3 vw4 vw5 vw6 vw7 vw8 : xAV) (σ : xS) : X iM_wantedOn 5 [(2, 305), (0, v1), (0, v2), vw3, vw4, vw5, vw6, vw7, vw8] [(0, t0)] σ =
  if t0 < 0 then X iM_wantedOn 93 [(2, 305), (0, v1), (0, v2), (0, t0), (0, (-1)), (0, 0), (0, 0), vw7, vw8] [] σ
  else if xin t0 8 then X iM_wantedOn 21 [(2, 305), (0, v1), (0, v2), (0, t0), (0, (-1)), (0, (σ.1 341 t0.toNat)), vw6, vw7, vw8] [] σ
  else none :=
  xev_eq (E := xE1) (F := xFk) (P := xPg) (inl := []) (stop := [5, 21, 93, 135, 140, 164]) 12 iM_wantedOn 5 [(2, 305), (0, v1), (0, v2), vw3, vw4, vw5, vw6, vw7, vw8] [(0, t0)] σ
set_option maxRecDepth 20000 in
theorem qM_wantedOn_21 (v1 v2 v3 v4 v5 : Int) (vw6 vw7 vw8 : xAV) (σ : xS) : X iM_wantedOn 21 [(2, 305), (0, v1), (0, v2), (0, v3), (0, v4), (0, v5), vw6, vw7, vw8] [] σ =
  if xin v3 8 then (if xin v3 8 then (if v5 < (xw ((σ.1 341 v3.toNat) + (σ.1 342 v3.toNat))) then (if v4 < 0 then (if xin v5 200 then (if (σ.1 344 v5.toNat) = 4 then (if xin v5 200 then (if v2 < (σ.1 345 v5.toNat) then X iM_wantedOn 21 [(2, 305), (0, v1), (0, v2), (0, v3), (0, v4), (0, (xw (v5 + 1))), vw6, vw7, vw8] [] σ
                else if xin v5 200 then (if (σ.1 346 v5.toNat) < v2 then X iM_wantedOn 21 [(2, 305), (0, v1), (0, v2), (0, v3), (0, v4), (0, (xw (v5 + 1))), vw6, vw7, vw8] [] σ
                  else X iM_wantedOn 21 [(2, 305), (0, v1), (0, v2), (0, v3), (0, v5), (0, (xw (v5 + 1))), vw6, vw7, vw8] [] σ)
                else none)
              else none)
            else X iM_wantedOn 21 [(2, 305), (0, v1), (0, v2), (0, v3), (0, v4), (0, (xw (v5 + 1))), vw6, vw7, vw8] [] σ)
          else none)
        else X iM_wantedOn 93 [(2, 305), (0, v1), (0, v2), (0, v3), (0, v4), (0, 0), (0, 0), vw7, vw8] [] σ)
      else X iM_wantedOn 93 [(2, 305), (0, v1), (0, v2), (0, v3), (0, v4), (0, 0), (0, 0), vw7, vw8] [] σ)
    else none)
  else none :=
  xev_eq (E := xE1) (F := xFk) (P := xPg) (inl := []) (stop := [5, 21, 93, 135, 140, 164]) 37 iM_wantedOn 21 [(2, 305), (0, v1), (0, v2), (0, v3), (0, v4), (0, v5), vw6, vw7, vw8] [] σ
set_option maxRecDepth 20000 in
theorem qM_wantedOn_93 (v1 v2 v3 v4 v5 v6 : Int) (vw7 vw8 : xAV) (σ : xS) : X iM_wantedOn 93 [(2, 305), (0, v1), (0, v2), (0, v3), (0, v4), (0, v5), (0, v6), vw7, vw8] [] σ =
  if v6 < (σ.1 305 11) then (if xin (xw ((xw ((xw (42 * v6)) + (xw (7 * v1)))) + (Int.tmod v2 7))) 336 then (if v4 < 0 then X iM_wantedOn 93 [(2, 305), (0, v1), (0, v2), (0, v3), (0, v4), (0, (xw (v5 + (xw (σ.1 369 (xw ((xw ((xw (42 * v6)) + (xw (7 * v1)))) + (Int.tmod v2 7))).toNat))))), (0, (xw (v6 + 1))), (1, (σ.1 369 (xw ((xw ((xw (42 * v6)) + (xw (7 * v1)))) + (Int.tmod v2 7))).toNat)), (8, 0)] [] σ
      else (X iM_bare 0 [(2, 305), (0, v2), (9, 0)] [] σ).bind fun q1 => X iM_wantedOn 135 [(2, 305), (0, v1), (0, v2), (0, v3), (0, v4), (0, v5), (0, v6), (1, (σ.1 369 (xw ((xw ((xw (42 * v6)) + (xw (7 * v1)))) + (Int.tmod v2 7))).toNat)), (8, 0)] [] q1.2)
    else none)
  else some ((0, v5), σ) :=
  xev_eq (E := xE1) (F := xFk) (P := xPg) (inl := []) (stop := [5, 21, 93, 135, 140, 164]) 31 iM_wantedOn 93 [(2, 305), (0, v1), (0, v2), (0, v3), (0, v4), (0, v5), (0, v6), vw7, vw8] [] σ
set_option maxRecDepth 20000 in
theorem qM_wantedOn_135 (v1 v2 v3 v4 v5 v6 v7 : Int) (σ : xS) : X iM_wantedOn 135 [(2, 305), (0, v1), (0, v2), (0, v3), (0, v4), (0, v5), (0, v6), (1, v7), (8, 0)] [] σ =
  (X iM_ofSort 0 [(2, 305), (0, v1)] [] σ).bind fun q1 => X iM_wantedOn 140 [(2, 305), (0, v1), (0, v2), (0, v3), (0, v4), (0, v5), (0, v6), (1, v7), (8, 0)] [] q1.2 :=
  xev_eq (E := xE1) (F := xFk) (P := xPg) (inl := []) (stop := [5, 21, 93, 135, 140, 164]) 5 iM_wantedOn 135 [(2, 305), (0, v1), (0, v2), (0, v3), (0, v4), (0, v5), (0, v6), (1, v7), (8, 0)] [] σ
set_option maxRecDepth 20000 in
theorem qM_wantedOn_140 (v1 v2 v3 v4 v5 v6 v7 : Int) (σ : xS) : X iM_wantedOn 140 [(2, 305), (0, v1), (0, v2), (0, v3), (0, v4), (0, v5), (0, v6), (1, v7), (8, 0)] [] σ =
  if xin v6 8 then ((X iM_worked 0 [(2, 305), (0, v3), (0, v4), (9, 0)] [] (xs σ 365 6 (σ.1 311 v6.toNat))).bind fun q1 => X iM_wantedOn 164 [(2, 305), (0, v1), (0, v2), (0, v3), (0, v4), (0, v5), (0, v6), (1, v7), (8, 0)] [q1.1, (1, v7)] q1.2)
  else none :=
  xev_eq (E := xE1) (F := xFk) (P := xPg) (inl := []) (stop := [5, 21, 93, 135, 140, 164]) 16 iM_wantedOn 140 [(2, 305), (0, v1), (0, v2), (0, v3), (0, v4), (0, v5), (0, v6), (1, v7), (8, 0)] [] σ
set_option maxRecDepth 20000 in
theorem qM_wantedOn_164 (v1 v2 v3 v4 v5 v6 t0 t1 : Int) (vw7 vw8 : xAV) (σ : xS) : X iM_wantedOn 164 [(2, 305), (0, v1), (0, v2), (0, v3), (0, v4), (0, v5), (0, v6), vw7, vw8] [(1, t0), (1, t1)] σ =
  if (xW (Int.tdiv (xW (t1 * t0)) 100)) < 0 then X iM_wantedOn 93 [(2, 305), (0, v1), (0, v2), (0, v3), (0, v4), (0, (xw (v5 + 0))), (0, (xw (v6 + 1))), (1, 0), (8, 0)] [] σ
  else if 1000 < (xW (Int.tdiv (xW (t1 * t0)) 100)) then X iM_wantedOn 93 [(2, 305), (0, v1), (0, v2), (0, v3), (0, v4), (0, (xw (v5 + 1000))), (0, (xw (v6 + 1))), (1, 1000), (8, 0)] [] σ
  else X iM_wantedOn 93 [(2, 305), (0, v1), (0, v2), (0, v3), (0, v4), (0, (xw (v5 + (xw (xW (Int.tdiv (xW (t1 * t0)) 100)))))), (0, (xw (v6 + 1))), (1, (xW (Int.tdiv (xW (t1 * t0)) 100))), (8, 0)] [] σ :=
  xev_eq (E := xE1) (F := xFk) (P := xPg) (inl := []) (stop := [5, 21, 93, 135, 140, 164]) 21 iM_wantedOn 164 [(2, 305), (0, v1), (0, v2), (0, v3), (0, v4), (0, v5), (0, v6), vw7, vw8] [(1, t0), (1, t1)] σ
set_option maxRecDepth 20000 in
theorem qM_wanted_0 (a1 a2 : Int) (σ : xS) : X iM_wanted 0 [(2, 305), (0, a1), (0, a2)] [] σ =
  if a1 < 0 then some ((0, (-1)), σ)
  else if a1 < (σ.1 305 6) then (if a2 < 0 then some ((0, (-1)), σ)
    else if 1010 < a2 then some ((0, (-1)), σ)
    else (X iM_wantedOn 0 [(2, 305), (0, a1), (0, a2), (9, 0), (9, 0), (9, 0), (9, 0), (9, 0), (9, 0)] [] σ).bind fun q1 => X iM_wanted 25 [(2, 305), (0, a1), (0, a2)] [q1.1] q1.2)
  else some ((0, (-1)), σ) :=
  xev_eq (E := xE1) (F := xFk) (P := xPg) (inl := [1, 5]) (stop := [25]) 33 iM_wanted 0 [(2, 305), (0, a1), (0, a2)] [] σ
set_option maxRecDepth 20000 in
theorem qM_wanted_25 (t0 : Int) (vw0 vw1 vw2 : xAV) (σ : xS) : X iM_wanted 25 [vw0, vw1, vw2] [(0, t0)] σ =
  some ((0, t0), σ) :=
  xev_eq (E := xE1) (F := xFk) (P := xPg) (inl := [1, 5]) (stop := [25]) 4 iM_wanted 25 [vw0, vw1, vw2] [(0, t0)] σ
set_option maxRecDepth 20000 in
theorem qC_proven_0 (a1 a2 : Int) (σ : xS) : X iC_proven 0 [(2, 200), (0, a1), (0, a2)] [] σ =
  if a1 < 0 then some ((0, (-1)), σ)
  else if 1000 < a1 then some ((0, (-1)), σ)
  else if a2 < 0 then some ((0, (-1)), σ)
  else if 1000 < a2 then some ((0, (-1)), σ)
  else (X iLedger_isProven 0 [(2, 243), (0, a1), (0, a2), (9, 0), (9, 0), (9, 0), (9, 0)] [] σ).bind fun q1 => X iC_proven 17 [(2, 200), (0, a1), (0, a2)] [q1.1] q1.2 :=
  xev_eq (E := xE1) (F := xFk) (P := xPg) (inl := [172, 173, 174, 175]) (stop := [17]) 48 iC_proven 0 [(2, 200), (0, a1), (0, a2)] [] σ
set_option maxRecDepth 20000 in
theorem qC_proven_17 (t0 : Int) (vw0 vw1 vw2 : xAV) (σ : xS) : X iC_proven 17 [vw0, vw1, vw2] [(0, t0)] σ =
  if t0 = 0 then some ((0, 0), σ)
  else some ((0, 1), σ) :=
  xev_eq (E := xE1) (F := xFk) (P := xPg) (inl := [172, 173, 174, 175]) (stop := [17]) 10 iC_proven 17 [vw0, vw1, vw2] [(0, t0)] σ
set_option maxRecDepth 20000 in
theorem qC_unsafe_0 (a1 a2 : Int) (σ : xS) : X iC_unsafe 0 [(2, 200), (0, a1), (0, a2)] [] σ =
  if a1 < 0 then some ((0, (-1)), σ)
  else if a2 < 0 then some ((0, (-1)), σ)
  else if 1000 < a2 then some ((0, (-1)), σ)
  else (X iLedger_unsafeSheet 0 [(2, 243), (0, a1), (0, a2), (9, 0), (9, 0)] [] σ).bind fun q1 => X iC_unsafe 20 [(2, 200), (0, a1), (0, a2)] [q1.1] q1.2 :=
  xev_eq (E := xE1) (F := xFk) (P := xPg) (inl := [172, 174]) (stop := [20]) 26 iC_unsafe 0 [(2, 200), (0, a1), (0, a2)] [] σ
set_option maxRecDepth 20000 in
theorem qC_unsafe_20 (t0 : Int) (vw0 vw1 vw2 : xAV) (σ : xS) : X iC_unsafe 20 [vw0, vw1, vw2] [(0, t0)] σ =
  some ((0, t0), σ) :=
  xev_eq (E := xE1) (F := xFk) (P := xPg) (inl := [172, 174]) (stop := [20]) 4 iC_unsafe 20 [vw0, vw1, vw2] [(0, t0)] σ
set_option maxRecDepth 20000 in
theorem qC_value_0 (a1 a2 : Int) (σ : xS) : X iC_value 0 [(2, 200), (0, a1), (0, a2)] [] σ =
  if a1 < 0 then some ((1, (-2000000000000)), σ)
  else if (xw ((σ.1 216 6) - 1)) < a1 then some ((1, (-2000000000000)), σ)
  else if a2 < 0 then some ((1, (-2000000000000)), σ)
  else (X iLedger_valueNow 0 [(2, 243), (0, a1), (0, a2), (9, 0)] [] σ).bind fun q1 => X iC_value 24 [(2, 200), (0, a1), (0, a2)] [q1.1] q1.2 :=
  xev_eq (E := xE1) (F := xFk) (P := xPg) (inl := [172, 180]) (stop := [24]) 31 iC_value 0 [(2, 200), (0, a1), (0, a2)] [] σ
set_option maxRecDepth 20000 in
theorem qC_value_24 (t0 : Int) (vw0 vw1 vw2 : xAV) (σ : xS) : X iC_value 24 [vw0, vw1, vw2] [(1, t0)] σ =
  some ((1, t0), σ) :=
  xev_eq (E := xE1) (F := xFk) (P := xPg) (inl := [172, 180]) (stop := [24]) 4 iC_value 24 [vw0, vw1, vw2] [(1, t0)] σ
set_option maxRecDepth 20000 in
theorem qC_price_0 (a1 a2 : Int) (σ : xS) : X iC_price 0 [(2, 200), (0, a1), (0, a2), (9, 0)] [] σ =
  if a1 < 0 then some ((1, (-1)), σ)
  else if (xw ((σ.1 216 6) - 1)) < a1 then some ((1, (-1)), σ)
  else if a2 < 0 then some ((1, (-1)), σ)
  else if (xw ((σ.1 209 4) - 1)) < a2 then some ((1, (-1)), σ)
  else (X iLedger_priceOn 0 [(2, 243), (0, a1), (0, a2), (0, (σ.1 216 0)), (0, (σ.1 216 0)), (9, 0), (9, 0), (9, 0)] [] σ).bind fun q1 => X iC_price 55 [(2, 200), (0, a1), (0, a2), (0, 1)] [q1.1] q1.2 :=
  xev_eq (E := xE1) (F := xFk) (P := xPg) (inl := [172, 180, 211]) (stop := [55]) 62 iC_price 0 [(2, 200), (0, a1), (0, a2), (9, 0)] [] σ
set_option maxRecDepth 20000 in
theorem qC_price_55 (t0 : Int) (vw0 vw1 vw2 vw3 : xAV) (σ : xS) : X iC_price 55 [vw0, vw1, vw2, vw3] [(1, t0)] σ =
  some ((1, t0), σ) :=
  xev_eq (E := xE1) (F := xFk) (P := xPg) (inl := [172, 180, 211]) (stop := [55]) 4 iC_price 55 [vw0, vw1, vw2, vw3] [(1, t0)] σ
set_option maxRecDepth 20000 in
theorem qC_bill_0 (a1 a2 a3 a4 : Int) (σ : xS) : X iC_bill 0 [(2, 200), (0, a1), (0, a2), (0, a3), (0, a4), (9, 0)] [] σ =
  if a1 < 0 then some ((1, (-1)), σ)
  else if (xw ((σ.1 209 4) - 1)) < a1 then some ((1, (-1)), σ)
  else if a2 < 0 then some ((1, (-1)), σ)
  else if 1000 < a2 then some ((1, (-1)), σ)
  else if a3 < 0 then some ((1, (-1)), σ)
  else if 1000 < a3 then some ((1, (-1)), σ)
  else if a4 < 0 then some ((1, (-1)), σ)
  else if 1000 < a4 then some ((1, (-1)), σ)
  else (X iLedger_billOf 0 [(2, 243), (0, a1), (0, a2), (0, a3), (0, a4), (9, 0), (9, 0), (9, 0), (9, 0)] [] σ).bind fun q1 => X iC_bill 51 [(2, 200), (0, a1), (0, a2), (0, a3), (0, a4), (0, 1)] [q1.1] q1.2 :=
  xev_eq (E := xE1) (F := xFk) (P := xPg) (inl := [172, 174, 175, 211]) (stop := [51]) 94 iC_bill 0 [(2, 200), (0, a1), (0, a2), (0, a3), (0, a4), (9, 0)] [] σ
set_option maxRecDepth 20000 in
theorem qC_bill_51 (t0 : Int) (vw0 vw1 vw2 vw3 vw4 vw5 : xAV) (σ : xS) : X iC_bill 51 [vw0, vw1, vw2, vw3, vw4, vw5] [(1, t0)] σ =
  some ((1, t0), σ) :=
  xev_eq (E := xE1) (F := xFk) (P := xPg) (inl := [172, 174, 175, 211]) (stop := [51]) 4 iC_bill 51 [vw0, vw1, vw2, vw3, vw4, vw5] [(1, t0)] σ
set_option maxRecDepth 20000 in
theorem qC_part_0 (a1 a2 a3 a4 : Int) (σ : xS) : X iC_part 0 [(2, 200), (0, a1), (0, a2), (0, a3), (0, a4), (9, 0)] [] σ =
  if a1 < 0 then some ((1, (-1)), σ)
  else if (xw ((σ.1 209 4) - 1)) < a1 then some ((1, (-1)), σ)
  else if a2 < 0 then some ((1, (-1)), σ)
  else if 2 < a2 then some ((1, (-1)), σ)
  else if a3 < 0 then some ((1, (-1)), σ)
  else if 1000 < a3 then some ((1, (-1)), σ)
  else if a4 < 0 then some ((1, (-1)), σ)
  else if 1000 < a4 then some ((1, (-1)), σ)
  else (X iLedger_partOf 0 [(2, 243), (0, a1), (0, a2), (0, a3), (0, a4), (9, 0), (9, 0), (9, 0), (9, 0)] [] σ).bind fun q1 => X iC_part 53 [(2, 200), (0, a1), (0, a2), (0, a3), (0, a4), (0, 1)] [q1.1] q1.2 :=
  xev_eq (E := xE1) (F := xFk) (P := xPg) (inl := [172, 174, 175, 211]) (stop := [53]) 91 iC_part 0 [(2, 200), (0, a1), (0, a2), (0, a3), (0, a4), (9, 0)] [] σ
set_option maxRecDepth 20000 in
theorem qC_part_53 (t0 : Int) (vw0 vw1 vw2 vw3 vw4 vw5 : xAV) (σ : xS) : X iC_part 53 [vw0, vw1, vw2, vw3, vw4, vw5] [(1, t0)] σ =
  some ((1, t0), σ) :=
  xev_eq (E := xE1) (F := xFk) (P := xPg) (inl := [172, 174, 175, 211]) (stop := [53]) 4 iC_part 53 [vw0, vw1, vw2, vw3, vw4, vw5] [(1, t0)] σ
set_option maxRecDepth 20000 in
theorem qC_due_0 (a1 : Int) (σ : xS) : X iC_due 0 [(2, 200), (0, a1)] [] σ =
  if a1 < 0 then some ((0, (-1)), σ)
  else (X iLedger_dueSheet 0 [(2, 243), (0, a1), (9, 0), (9, 0)] [] σ).bind fun q1 => X iC_due 12 [(2, 200), (0, a1)] [q1.1] q1.2 :=
  xev_eq (E := xE1) (F := xFk) (P := xPg) (inl := []) (stop := [12]) 8 iC_due 0 [(2, 200), (0, a1)] [] σ
set_option maxRecDepth 20000 in
theorem qC_due_12 (t0 : Int) (vw0 vw1 : xAV) (σ : xS) : X iC_due 12 [vw0, vw1] [(0, t0)] σ =
  some ((0, t0), σ) :=
  xev_eq (E := xE1) (F := xFk) (P := xPg) (inl := []) (stop := [12]) 4 iC_due 12 [vw0, vw1] [(0, t0)] σ
set_option maxRecDepth 20000 in
theorem qC_wanted_0 (a1 a2 : Int) (σ : xS) : X iC_wanted 0 [(2, 200), (0, a1), (0, a2)] [] σ =
  if a1 < 0 then some ((0, (-1)), σ)
  else if (xw ((σ.1 201 5) - 1)) < a1 then some ((0, (-1)), σ)
  else if a2 < 0 then some ((0, (-1)), σ)
  else if 1010 < a2 then some ((0, (-1)), σ)
  else (X iLedger_wantedOn 0 [(2, 243), (0, a1), (0, a2), (9, 0), (9, 0), (9, 0), (9, 0), (9, 0), (9, 0), (9, 0)] [] σ).bind fun q1 => X iC_wanted 31 [(2, 200), (0, a1), (0, a2)] [q1.1] q1.2 :=
  xev_eq (E := xE1) (F := xFk) (P := xPg) (inl := [172, 307]) (stop := [31]) 43 iC_wanted 0 [(2, 200), (0, a1), (0, a2)] [] σ
set_option maxRecDepth 20000 in
theorem qC_wanted_31 (t0 : Int) (vw0 vw1 vw2 : xAV) (σ : xS) : X iC_wanted 31 [vw0, vw1, vw2] [(0, t0)] σ =
  some ((0, t0), σ) :=
  xev_eq (E := xE1) (F := xFk) (P := xPg) (inl := [172, 307]) (stop := [31]) 4 iC_wanted 31 [vw0, vw1, vw2] [(0, t0)] σ
set_option maxRecDepth 20000 in
theorem qLedger_isProven_0 (a1 a2 : Int) (σ : xS) : X iLedger_isProven 0 [(2, 243), (0, a1), (0, a2), (9, 0), (9, 0), (9, 0), (9, 0)] [] σ =
  (X iLedger_inForce 0 [(2, 243), (0, a1), (9, 0)] [] σ).bind fun q1 => X iLedger_isProven 5 [(2, 243), (0, a1), (0, a2), (9, 0), (9, 0), (9, 0), (9, 0)] [q1.1] q1.2 :=
  xev_eq (E := xE1) (F := xFk) (P := xPg) (inl := []) (stop := [5, 21, 68]) 5 iLedger_isProven 0 [(2, 243), (0, a1), (0, a2), (9, 0), (9, 0), (9, 0), (9, 0)] [] σ
set_option maxRecDepth 20000 in
theorem qLedger_isProven_5 (v1 v2 t0 : Int) (vw3 vw4 vw5 vw6 : xAV) (σ : xS) : X iLedger_isProven 5 [(2, 243), (0, v1), (0, v2), vw3, vw4, vw5, vw6] [(2, t0)] σ =
  if t0 = 0 then X iLedger_isProven 21 [(2, 243), (0, v1), (0, v2), (2, t0), vw4, vw5, vw6] [(2, 0)] σ
  else bif xisO xE1 σ t0 11 then ((X iTerms_lastOf 0 [(2, t0), (2, 8), (9, 0), (9, 0)] [] σ).bind fun q1 => X iLedger_isProven 21 [(2, 243), (0, v1), (0, v2), (2, t0), vw4, vw5, vw6] [q1.1] q1.2)
  else none :=
  xev_eq (E := xE1) (F := xFk) (P := xPg) (inl := []) (stop := [5, 21, 68]) 8 iLedger_isProven 5 [(2, 243), (0, v1), (0, v2), vw3, vw4, vw5, vw6] [(2, t0)] σ
set_option maxRecDepth 20000 in
theorem qLedger_isProven_21 (v1 v2 t0 : Int) (vw3 vw4 vw5 vw6 : xAV) (σ : xS) : X iLedger_isProven 21 [(2, 243), (0, v1), (0, v2), vw3, vw4, vw5, vw6] [(2, t0)] σ =
  if t0 = 0 then (if t0 = 0 then ((X iEvidence_hasHeat 0 [(2, 229), (0, v1), (0, v2), (0, 0), (0, 0), (9, 0)] [] σ).bind fun q1 => X iLedger_isProven 68 [(2, 243), (0, v1), (0, v2), (xkl vw3), (2, t0), (0, 0), (0, 0)] [q1.1] q1.2)
    else xob (xfld xE1 σ t0 7 2) none fun w2 => (X iEvidence_hasHeat 0 [(2, 229), (0, v1), (0, v2), (0, 0), (0, w2), (9, 0)] [] σ).bind fun q3 => X iLedger_isProven 68 [(2, 243), (0, v1), (0, v2), (xkl vw3), (2, t0), (0, 0), (0, w2)] [q3.1] q3.2)
  else xob (xfld xE1 σ t0 7 1) none fun w4 => if t0 = 0 then ((X iEvidence_hasHeat 0 [(2, 229), (0, v1), (0, v2), (0, w4), (0, 0), (9, 0)] [] σ).bind fun q5 => X iLedger_isProven 68 [(2, 243), (0, v1), (0, v2), (xkl vw3), (2, t0), (0, w4), (0, 0)] [q5.1] q5.2)
  else xob (xfld xE1 σ t0 7 2) none fun w6 => (X iEvidence_hasHeat 0 [(2, 229), (0, v1), (0, v2), (0, w4), (0, w6), (9, 0)] [] σ).bind fun q7 => X iLedger_isProven 68 [(2, 243), (0, v1), (0, v2), (xkl vw3), (2, t0), (0, w4), (0, w6)] [q7.1] q7.2 :=
  xev_eq (E := xE1) (F := xFk) (P := xPg) (inl := []) (stop := [5, 21, 68]) 20 iLedger_isProven 21 [(2, 243), (0, v1), (0, v2), vw3, vw4, vw5, vw6] [(2, t0)] σ
set_option maxRecDepth 20000 in
theorem qLedger_isProven_68 (t0 : Int) (vw0 vw1 vw2 vw3 vw4 vw5 vw6 : xAV) (σ : xS) : X iLedger_isProven 68 [vw0, vw1, vw2, vw3, vw4, vw5, vw6] [(0, t0)] σ =
  if (xna 4 t0) = t0 then some ((0, t0), σ)
  else none :=
  xev_eq (E := xE1) (F := xFk) (P := xPg) (inl := []) (stop := [5, 21, 68]) 3 iLedger_isProven 68 [vw0, vw1, vw2, vw3, vw4, vw5, vw6] [(0, t0)] σ
set_option maxRecDepth 20000 in
theorem qLedger_isUnsafe_0 (a1 a2 : Int) (σ : xS) : X iLedger_isUnsafe 0 [(2, 243), (0, a1), (0, a2), (9, 0), (9, 0)] [] σ =
  (X iBook_placeAt 0 [(2, 216), (0, a1), (0, (σ.1 216 0)), (0, a2), (9, 0)] [] σ).bind fun q1 => X iLedger_isUnsafe 16 [(2, 243), (0, a1), (0, a2), (9, 0), (9, 0)] [q1.1] q1.2 :=
  xev_eq (E := xE1) (F := xFk) (P := xPg) (inl := []) (stop := [16, 46, 69]) 10 iLedger_isUnsafe 0 [(2, 243), (0, a1), (0, a2), (9, 0), (9, 0)] [] σ
set_option maxRecDepth 20000 in
theorem qLedger_isUnsafe_16 (v1 v2 t0 : Int) (vw3 vw4 : xAV) (σ : xS) : X iLedger_isUnsafe 16 [(2, 243), (0, v1), (0, v2), vw3, vw4] [(0, t0)] σ =
  if t0 = 0 then ((X iBook_lastInto 0 [(2, 216), (0, 2), (0, v1), (0, (σ.1 216 0)), (0, v2), (9, 0), (9, 0), (9, 0)] [] σ).bind fun q1 => X iLedger_isUnsafe 46 [(2, 243), (0, v1), (0, v2), (0, t0), vw4] [q1.1] q1.2)
  else if t0 < 10 then some ((0, 0), σ)
  else (X iBook_lastInto 0 [(2, 216), (0, 2), (0, v1), (0, (σ.1 216 0)), (0, v2), (9, 0), (9, 0), (9, 0)] [] σ).bind fun q2 => X iLedger_isUnsafe 46 [(2, 243), (0, v1), (0, v2), (0, t0), vw4] [q2.1] q2.2 :=
  xev_eq (E := xE1) (F := xFk) (P := xPg) (inl := []) (stop := [16, 46, 69]) 17 iLedger_isUnsafe 16 [(2, 243), (0, v1), (0, v2), vw3, vw4] [(0, t0)] σ
set_option maxRecDepth 20000 in
theorem qLedger_isUnsafe_46 (v2 t0 : Int) (vw1 vw3 vw4 : xAV) (σ : xS) : X iLedger_isUnsafe 46 [(2, 243), vw1, (0, v2), vw3, vw4] [(0, t0)] σ =
  if t0 = (-1) then some ((0, 0), σ)
  else if xin t0 600 then ((X iLedger_isProven 0 [(2, 243), (0, (σ.1 223 t0.toNat)), (0, v2), (9, 0), (9, 0), (9, 0), (9, 0)] [] σ).bind fun q1 => X iLedger_isUnsafe 69 [(2, 243), vw1, (0, v2), (xkl vw3), (0, t0)] [q1.1] q1.2)
  else none :=
  xev_eq (E := xE1) (F := xFk) (P := xPg) (inl := []) (stop := [16, 46, 69]) 14 iLedger_isUnsafe 46 [(2, 243), vw1, (0, v2), vw3, vw4] [(0, t0)] σ
set_option maxRecDepth 20000 in
theorem qLedger_isUnsafe_69 (t0 : Int) (vw0 vw1 vw2 vw3 vw4 : xAV) (σ : xS) : X iLedger_isUnsafe 69 [vw0, vw1, vw2, vw3, vw4] [(0, t0)] σ =
  if t0 = 0 then some ((0, 1), σ)
  else some ((0, 0), σ) :=
  xev_eq (E := xE1) (F := xFk) (P := xPg) (inl := []) (stop := [16, 46, 69]) 6 iLedger_isUnsafe 69 [vw0, vw1, vw2, vw3, vw4] [(0, t0)] σ
set_option maxRecDepth 20000 in
theorem qLedger_unsafeSheet_0 (a1 a2 : Int) (σ : xS) : X iLedger_unsafeSheet 0 [(2, 243), (0, a1), (0, a2), (9, 0), (9, 0)] [] σ =
  X iLedger_unsafeSheet 5 [(2, 243), (0, a1), (0, a2), (0, a1), (0, 0)] [] σ :=
  xev_eq (E := xE1) (F := xFk) (P := xPg) (inl := [187]) (stop := [5, 44]) 6 iLedger_unsafeSheet 0 [(2, 243), (0, a1), (0, a2), (9, 0), (9, 0)] [] σ
set_option maxRecDepth 20000 in
theorem qLedger_unsafeSheet_5 (v2 v3 v4 : Int) (vw1 : xAV) (σ : xS) : X iLedger_unsafeSheet 5 [(2, 243), vw1, (0, v2), (0, v3), (0, v4)] [] σ =
  if v4 < (σ.1 216 6) then (if xin v4 150 then (if (σ.1 216 0) < (σ.1 219 v4.toNat) then X iLedger_unsafeSheet 5 [(2, 243), vw1, (0, v2), (0, v3), (0, (xw (v4 + 1)))] [] σ
      else if xin v4 150 then (if v2 < (σ.1 219 v4.toNat) then X iLedger_unsafeSheet 5 [(2, 243), vw1, (0, v2), (0, v3), (0, (xw (v4 + 1)))] [] σ
        else (X iLedger_isUnsafe 0 [(2, 243), (0, v4), (0, v2), (9, 0), (9, 0)] [] σ).bind fun q1 => X iLedger_unsafeSheet 44 [(2, 243), vw1, (0, v2), (0, v3), (0, v4)] [q1.1] q1.2)
      else none)
    else none)
  else some ((0, (-1)), σ) :=
  xev_eq (E := xE1) (F := xFk) (P := xPg) (inl := [187]) (stop := [5, 44]) 35 iLedger_unsafeSheet 5 [(2, 243), vw1, (0, v2), (0, v3), (0, v4)] [] σ
set_option maxRecDepth 20000 in
theorem qLedger_unsafeSheet_44 (v2 v3 v4 t0 : Int) (vw1 : xAV) (σ : xS) : X iLedger_unsafeSheet 44 [(2, 243), vw1, (0, v2), (0, v3), (0, v4)] [(0, t0)] σ =
  if t0 = 0 then X iLedger_unsafeSheet 5 [(2, 243), vw1, (0, v2), (0, v3), (0, (xw (v4 + 1)))] [] σ
  else if v3 = 0 then some ((0, v4), σ)
  else X iLedger_unsafeSheet 5 [(2, 243), vw1, (0, v2), (0, (xw (v3 + (-1)))), (0, (xw (v4 + 1)))] [] σ :=
  xev_eq (E := xE1) (F := xFk) (P := xPg) (inl := [187]) (stop := [5, 44]) 8 iLedger_unsafeSheet 44 [(2, 243), vw1, (0, v2), (0, v3), (0, v4)] [(0, t0)] σ
set_option maxRecDepth 20000 in
theorem qLedger_valueNow_0 (a1 a2 : Int) (σ : xS) : X iLedger_valueNow 0 [(2, 243), (0, a1), (0, a2), (9, 0)] [] σ =
  (X iLedger_inForce 0 [(2, 243), (0, (σ.1 216 0)), (9, 0)] [] σ).bind fun q1 => X iLedger_valueNow 11 [(2, 243), (0, a1), (0, a2), (9, 0)] [q1.1] q1.2 :=
  xev_eq (E := xE1) (F := xFk) (P := xPg) (inl := [172, 326]) (stop := [11, 47, 51, 56]) 7 iLedger_valueNow 0 [(2, 243), (0, a1), (0, a2), (9, 0)] [] σ
set_option maxRecDepth 20000 in
theorem qLedger_valueNow_11 (v1 v2 t0 : Int) (vw3 : xAV) (σ : xS) : X iLedger_valueNow 11 [(2, 243), (0, v1), (0, v2), vw3] [(2, t0)] σ =
  if t0 = 0 then some ((1, (-2000000000000)), σ)
  else bif xisO xE1 σ t0 11 then (xob (xfld xE1 σ t0 11 4) none fun w1 => xob (xlen xE1 σ w1) none fun n2 => if v2 < 0 then some ((1, (-2000000000000)), σ)
    else if (xw (((n2 : Nat) : Int) - 1)) < v2 then some ((1, (-2000000000000)), σ)
    else (X iLedger_holdSheetInPlace 0 [(2, 243), (0, v1), (0, (σ.1 216 0)), (0, (σ.1 216 0)), (9, 0)] [] σ).bind fun q3 => X iLedger_valueNow 47 [(2, 243), (0, v1), (0, v2), (2, t0)] [] q3.2)
  else none :=
  xev_eq (E := xE1) (F := xFk) (P := xPg) (inl := [172, 326]) (stop := [11, 47, 51, 56]) 36 iLedger_valueNow 11 [(2, 243), (0, v1), (0, v2), vw3] [(2, t0)] σ
set_option maxRecDepth 20000 in
theorem qLedger_valueNow_47 (v2 v3 : Int) (vw0 vw1 : xAV) (σ : xS) : X iLedger_valueNow 47 [vw0, vw1, (0, v2), (2, v3)] [] σ =
  bif xisO xE1 σ v3 11 then ((X iTerms_nameAll 0 [(2, v3), (9, 0), (9, 0)] [] σ).bind fun q1 => X iLedger_valueNow 51 [vw0, vw1, (0, v2), (2, v3)] [] q1.2)
  else none :=
  xev_eq (E := xE1) (F := xFk) (P := xPg) (inl := [172, 326]) (stop := [11, 47, 51, 56]) 4 iLedger_valueNow 47 [vw0, vw1, (0, v2), (2, v3)] [] σ
set_option maxRecDepth 20000 in
theorem qLedger_valueNow_51 (v2 v3 : Int) (vw0 vw1 : xAV) (σ : xS) : X iLedger_valueNow 51 [vw0, vw1, (0, v2), (2, v3)] [] σ =
  bif xisO xE1 σ v3 11 then ((X iTerms_nameOf 0 [(2, v3), (0, v2)] [] σ).bind fun q1 => X iLedger_valueNow 56 [vw0, vw1, (0, v2), (2, v3)] [q1.1] q1.2)
  else none :=
  xev_eq (E := xE1) (F := xFk) (P := xPg) (inl := [172, 326]) (stop := [11, 47, 51, 56]) 5 iLedger_valueNow 51 [vw0, vw1, (0, v2), (2, v3)] [] σ
set_option maxRecDepth 20000 in
theorem qLedger_valueNow_56 (t0 : Int) (vw0 vw1 vw2 vw3 : xAV) (σ : xS) : X iLedger_valueNow 56 [vw0, vw1, vw2, vw3] [(1, t0)] σ =
  some ((1, t0), σ) :=
  xev_eq (E := xE1) (F := xFk) (P := xPg) (inl := [172, 326]) (stop := [11, 47, 51, 56]) 3 iLedger_valueNow 56 [vw0, vw1, vw2, vw3] [(1, t0)] σ
set_option maxRecDepth 20000 in
theorem qLedger_priceOn_0 (a1 a2 a3 a4 : Int) (σ : xS) : X iLedger_priceOn 0 [(2, 243), (0, a1), (0, a2), (0, a3), (0, a4), (9, 0), (9, 0), (9, 0)] [] σ =
  if xin a1 150 then ((X iLedger_inForce 0 [(2, 243), (0, a3), (9, 0)] [] σ).bind fun q1 => X iLedger_priceOn 16 [(2, 243), (0, a1), (0, a2), (0, a3), (0, a4), (0, (σ.1 217 a1.toNat)), (9, 0), (9, 0)] [q1.1] q1.2)
  else none :=
  xev_eq (E := xE1) (F := xFk) (P := xPg) (inl := [225]) (stop := [16, 34, 64, 74, 82]) 11 iLedger_priceOn 0 [(2, 243), (0, a1), (0, a2), (0, a3), (0, a4), (9, 0), (9, 0), (9, 0)] [] σ
set_option maxRecDepth 20000 in
theorem qLedger_priceOn_16 (v1 v2 v3 v4 v5 t0 : Int) (vw6 vw7 : xAV) (σ : xS) : X iLedger_priceOn 16 [(2, 243), (0, v1), (0, v2), (0, v3), (0, v4), (0, v5), vw6, vw7] [(2, t0)] σ =
  if t0 = 0 then X iLedger_priceOn 34 [(2, 243), (0, v1), (0, v2), (0, v3), (0, v4), (0, v5), (2, t0), vw7] [(2, 0)] σ
  else bif xisO xE1 σ t0 11 then ((X iTerms_lastPrice 0 [(2, t0), (0, v5), (9, 0), (9, 0), (9, 0)] [] σ).bind fun q1 => X iLedger_priceOn 34 [(2, 243), (0, v1), (0, v2), (0, v3), (0, v4), (0, v5), (2, t0), vw7] [q1.1] q1.2)
  else none :=
  xev_eq (E := xE1) (F := xFk) (P := xPg) (inl := [225]) (stop := [16, 34, 64, 74, 82]) 8 iLedger_priceOn 16 [(2, 243), (0, v1), (0, v2), (0, v3), (0, v4), (0, v5), vw6, vw7] [(2, t0)] σ
set_option maxRecDepth 20000 in
theorem qLedger_priceOn_34 (v1 v2 v3 v4 v5 v6 t0 : Int) (vw7 : xAV) (σ : xS) : X iLedger_priceOn 34 [(2, 243), (0, v1), (0, v2), (0, v3), (0, v4), (0, v5), (2, v6), vw7] [(2, t0)] σ =
  if t0 = 0 then (if xin v5 6 then some ((1, (xw (Int.tdiv (σ.1 206 v5.toNat) 20))), σ)
    else none)
  else (X iLedger_holdSheet 0 [(2, 243), (0, v1), (0, v3), (0, v4)] [] σ).bind fun q1 => X iLedger_priceOn 64 [(2, 243), (0, v1), (0, v2), (0, v3), (0, v4), (0, v5), (2, v6), (2, t0)] [] q1.2 :=
  xev_eq (E := xE1) (F := xFk) (P := xPg) (inl := [225]) (stop := [16, 34, 64, 74, 82]) 14 iLedger_priceOn 34 [(2, 243), (0, v1), (0, v2), (0, v3), (0, v4), (0, v5), (2, v6), vw7] [(2, t0)] σ
set_option maxRecDepth 20000 in
theorem qLedger_priceOn_64 (v2 v6 v7 : Int) (vw1 vw3 vw4 vw5 : xAV) (σ : xS) : X iLedger_priceOn 64 [(2, 243), vw1, (0, v2), vw3, vw4, vw5, (2, v6), (2, v7)] [] σ =
  if xin v2 8 then (bif xisO xE1 (xs σ 254 6 (σ.1 210 v2.toNat)) v6 11 then ((X iTerms_nameAll 0 [(2, v6), (9, 0), (9, 0)] [] (xs σ 254 6 (σ.1 210 v2.toNat))).bind fun q1 => X iLedger_priceOn 74 [(2, 243), vw1, (0, v2), vw3, vw4, vw5, (2, v6), (2, v7)] [] q1.2)
    else none)
  else none :=
  xev_eq (E := xE1) (F := xFk) (P := xPg) (inl := [225]) (stop := [16, 34, 64, 74, 82]) 19 iLedger_priceOn 64 [(2, 243), vw1, (0, v2), vw3, vw4, vw5, (2, v6), (2, v7)] [] σ
set_option maxRecDepth 20000 in
theorem qLedger_priceOn_74 (v6 v7 : Int) (vw0 vw1 vw2 vw3 vw4 vw5 : xAV) (σ : xS) : X iLedger_priceOn 74 [vw0, vw1, vw2, vw3, vw4, vw5, (2, v6), (2, v7)] [] σ =
  bif xisO xE1 σ v6 11 then ((X iTerms_exOfStatement 0 [(2, v6), (2, v7)] [] σ).bind fun q1 => X iLedger_priceOn 82 [vw0, vw1, vw2, vw3, vw4, vw5, (2, v6), (2, v7)] [q1.1, (1, 0)] q1.2)
  else none :=
  xev_eq (E := xE1) (F := xFk) (P := xPg) (inl := [225]) (stop := [16, 34, 64, 74, 82]) 6 iLedger_priceOn 74 [vw0, vw1, vw2, vw3, vw4, vw5, (2, v6), (2, v7)] [] σ
set_option maxRecDepth 20000 in
theorem qLedger_priceOn_82 (t0 t1 : Int) (vw0 vw1 vw2 vw3 vw4 vw5 vw6 vw7 : xAV) (σ : xS) : X iLedger_priceOn 82 [vw0, vw1, vw2, vw3, vw4, vw5, vw6, vw7] [(1, t0), (1, t1)] σ =
  some ((1, (xmm 0 t1 t0)), σ) :=
  xev_eq (E := xE1) (F := xFk) (P := xPg) (inl := [225]) (stop := [16, 34, 64, 74, 82]) 4 iLedger_priceOn 82 [vw0, vw1, vw2, vw3, vw4, vw5, vw6, vw7] [(1, t0), (1, t1)] σ
set_option maxRecDepth 20000 in
theorem qLedger_billOf_0 (a1 a2 a3 a4 : Int) (σ : xS) : X iLedger_billOf 0 [(2, 243), (0, a1), (0, a2), (0, a3), (0, a4), (9, 0), (9, 0), (9, 0), (9, 0)] [] σ =
  X iLedger_billOf 6 [(2, 243), (0, a1), (0, a2), (0, a3), (0, a4), (1, 0), (8, 0), (0, 0), (9, 0)] [] σ :=
  xev_eq (E := xE1) (F := xFk) (P := xPg) (inl := [172, 188]) (stop := [6, 92]) 6 iLedger_billOf 0 [(2, 243), (0, a1), (0, a2), (0, a3), (0, a4), (9, 0), (9, 0), (9, 0), (9, 0)] [] σ
set_option maxRecDepth 20000 in
theorem qLedger_billOf_6 (v1 v2 v3 v4 v5 v7 : Int) (vw8 : xAV) (σ : xS) : X iLedger_billOf 6 [(2, 243), (0, v1), (0, v2), (0, v3), (0, v4), (1, v5), (8, 0), (0, v7), vw8] [] σ =
  if v7 < (σ.1 216 14) then (if xin v7 600 then (if xin v7 600 then (if (σ.1 224 v7.toNat) = (xw (10 + v1)) then (if (σ.1 223 v7.toNat) < v2 then X iLedger_billOf 6 [(2, 243), (0, v1), (0, v2), (0, v3), (0, v4), (1, v5), (8, 0), (0, (xw (v7 + 1))), (0, (σ.1 223 v7.toNat))] [] σ
          else if v3 < (σ.1 223 v7.toNat) then X iLedger_billOf 6 [(2, 243), (0, v1), (0, v2), (0, v3), (0, v4), (1, v5), (8, 0), (0, (xw (v7 + 1))), (0, (σ.1 223 v7.toNat))] [] σ
          else if xin v7 600 then (if v4 < (σ.1 225 v7.toNat) then X iLedger_billOf 6 [(2, 243), (0, v1), (0, v2), (0, v3), (0, v4), (1, v5), (8, 0), (0, (xw (v7 + 1))), (0, (σ.1 223 v7.toNat))] [] σ
            else if xin v7 600 then (if (σ.1 226 v7.toNat) = (-1) then (if xin v7 600 then ((X iLedger_priceOn 0 [(2, 243), (0, (σ.1 222 v7.toNat)), (0, v1), (0, (σ.1 223 v7.toNat)), (0, v4), (9, 0), (9, 0), (9, 0)] [] σ).bind fun q1 => X iLedger_billOf 92 [(2, 243), (0, v1), (0, v2), (0, v3), (0, v4), (1, v5), (8, 0), (0, v7), (0, (σ.1 223 v7.toNat))] [q1.1, (1, v5)] q1.2)
                else none)
              else if xin v7 600 then (if v4 < (σ.1 226 v7.toNat) then (if xin v7 600 then ((X iLedger_priceOn 0 [(2, 243), (0, (σ.1 222 v7.toNat)), (0, v1), (0, (σ.1 223 v7.toNat)), (0, v4), (9, 0), (9, 0), (9, 0)] [] σ).bind fun q2 => X iLedger_billOf 92 [(2, 243), (0, v1), (0, v2), (0, v3), (0, v4), (1, v5), (8, 0), (0, v7), (0, (σ.1 223 v7.toNat))] [q2.1, (1, v5)] q2.2)
                  else none)
                else X iLedger_billOf 6 [(2, 243), (0, v1), (0, v2), (0, v3), (0, v4), (1, v5), (8, 0), (0, (xw (v7 + 1))), (0, (σ.1 223 v7.toNat))] [] σ)
              else none)
            else none)
          else none)
        else X iLedger_billOf 6 [(2, 243), (0, v1), (0, v2), (0, v3), (0, v4), (1, v5), (8, 0), (0, (xw (v7 + 1))), (0, (σ.1 223 v7.toNat))] [] σ)
      else none)
    else none)
  else some ((1, v5), σ) :=
  xev_eq (E := xE1) (F := xFk) (P := xPg) (inl := [172, 188]) (stop := [6, 92]) 74 iLedger_billOf 6 [(2, 243), (0, v1), (0, v2), (0, v3), (0, v4), (1, v5), (8, 0), (0, v7), vw8] [] σ
set_option maxRecDepth 20000 in
theorem qLedger_billOf_92 (v1 v2 v3 v4 v7 t0 t1 : Int) (vw5 vw6 vw8 : xAV) (σ : xS) : X iLedger_billOf 92 [(2, 243), (0, v1), (0, v2), (0, v3), (0, v4), vw5, vw6, (0, v7), vw8] [(1, t0), (1, t1)] σ =
  X iLedger_billOf 6 [(2, 243), (0, v1), (0, v2), (0, v3), (0, v4), (1, (xW (t1 + t0))), (8, 0), (0, (xw (v7 + 1))), vw8] [] σ :=
  xev_eq (E := xE1) (F := xFk) (P := xPg) (inl := [172, 188]) (stop := [6, 92]) 6 iLedger_billOf 92 [(2, 243), (0, v1), (0, v2), (0, v3), (0, v4), vw5, vw6, (0, v7), vw8] [(1, t0), (1, t1)] σ
set_option maxRecDepth 20000 in
theorem qLedger_partOf_0 (a1 a2 a3 a4 : Int) (σ : xS) : X iLedger_partOf 0 [(2, 243), (0, a1), (0, a2), (0, a3), (0, a4), (9, 0), (9, 0), (9, 0), (9, 0)] [] σ =
  (X iLedger_inForce 0 [(2, 243), (0, a3), (9, 0)] [] σ).bind fun q1 => X iLedger_partOf 5 [(2, 243), (0, a1), (0, a2), (0, a3), (0, a4), (9, 0), (9, 0), (9, 0), (9, 0)] [q1.1] q1.2 :=
  xev_eq (E := xE1) (F := xFk) (P := xPg) (inl := []) (stop := [5, 13, 38, 50, 60, 75, 91, 107, 120, 124]) 5 iLedger_partOf 0 [(2, 243), (0, a1), (0, a2), (0, a3), (0, a4), (9, 0), (9, 0), (9, 0), (9, 0)] [] σ
set_option maxRecDepth 20000 in
theorem qLedger_partOf_5 (v1 v2 v3 v4 t0 : Int) (vw5 vw6 vw7 vw8 : xAV) (σ : xS) : X iLedger_partOf 5 [(2, 243), (0, v1), (0, v2), (0, v3), (0, v4), vw5, vw6, vw7, vw8] [(2, t0)] σ =
  X iLedger_partOf 13 [(2, 243), (0, v1), (0, v2), (0, v3), (0, v4), (2, t0), (1, 0), (8, 0), (0, 0)] [] σ :=
  xev_eq (E := xE1) (F := xFk) (P := xPg) (inl := []) (stop := [5, 13, 38, 50, 60, 75, 91, 107, 120, 124]) 7 iLedger_partOf 5 [(2, 243), (0, v1), (0, v2), (0, v3), (0, v4), vw5, vw6, vw7, vw8] [(2, t0)] σ
set_option maxRecDepth 20000 in
theorem qLedger_partOf_13 (v1 v2 v3 v4 v5 v6 v8 : Int) (σ : xS) : X iLedger_partOf 13 [(2, 243), (0, v1), (0, v2), (0, v3), (0, v4), (2, v5), (1, v6), (8, 0), (0, v8)] [] σ =
  if v8 < (σ.1 216 6) then ((X iEvidence_isLostAt 0 [(2, 229), (0, v1), (0, v8), (0, v3), (0, v4)] [] σ).bind fun q1 => X iLedger_partOf 38 [(2, 243), (0, v1), (0, v2), (0, v3), (0, v4), (2, v5), (1, v6), (8, 0), (0, v8)] [q1.1] q1.2)
  else some ((1, v6), σ) :=
  xev_eq (E := xE1) (F := xFk) (P := xPg) (inl := []) (stop := [5, 13, 38, 50, 60, 75, 91, 107, 120, 124]) 14 iLedger_partOf 13 [(2, 243), (0, v1), (0, v2), (0, v3), (0, v4), (2, v5), (1, v6), (8, 0), (0, v8)] [] σ
set_option maxRecDepth 20000 in
theorem qLedger_partOf_38 (v1 v2 v3 v4 v5 v6 v8 t0 : Int) (σ : xS) : X iLedger_partOf 38 [(2, 243), (0, v1), (0, v2), (0, v3), (0, v4), (2, v5), (1, v6), (8, 0), (0, v8)] [(0, t0)] σ =
  if t0 = 0 then X iLedger_partOf 13 [(2, 243), (0, v1), (0, v2), (0, v3), (0, v4), (2, v5), (1, v6), (8, 0), (0, (xw (v8 + 1)))] [] σ
  else (X iLedger_holdSheetInPlace 0 [(2, 243), (0, v8), (0, v3), (0, v4), (9, 0)] [] σ).bind fun q1 => X iLedger_partOf 50 [(2, 243), (0, v1), (0, v2), (0, v3), (0, v4), (2, v5), (1, v6), (8, 0), (0, v8)] [] q1.2 :=
  xev_eq (E := xE1) (F := xFk) (P := xPg) (inl := []) (stop := [5, 13, 38, 50, 60, 75, 91, 107, 120, 124]) 8 iLedger_partOf 38 [(2, 243), (0, v1), (0, v2), (0, v3), (0, v4), (2, v5), (1, v6), (8, 0), (0, v8)] [(0, t0)] σ
set_option maxRecDepth 20000 in
theorem qLedger_partOf_50 (v1 v2 v3 v4 v5 v6 v8 : Int) (σ : xS) : X iLedger_partOf 50 [(2, 243), (0, v1), (0, v2), (0, v3), (0, v4), (2, v5), (1, v6), (8, 0), (0, v8)] [] σ =
  if v5 = 0 then X iLedger_partOf 60 [(2, 243), (0, v1), (0, v2), (0, v3), (0, v4), (2, v5), (1, v6), (8, 0), (0, v8)] [] σ
  else bif xisO xE1 σ v5 11 then ((X iTerms_nameAll 0 [(2, v5), (9, 0), (9, 0)] [] σ).bind fun q1 => X iLedger_partOf 60 [(2, 243), (0, v1), (0, v2), (0, v3), (0, v4), (2, v5), (1, v6), (8, 0), (0, v8)] [] q1.2)
  else none :=
  xev_eq (E := xE1) (F := xFk) (P := xPg) (inl := []) (stop := [5, 13, 38, 50, 60, 75, 91, 107, 120, 124]) 6 iLedger_partOf 50 [(2, 243), (0, v1), (0, v2), (0, v3), (0, v4), (2, v5), (1, v6), (8, 0), (0, v8)] [] σ
set_option maxRecDepth 20000 in
theorem qLedger_partOf_60 (v1 v2 v3 v4 v5 v6 v8 : Int) (σ : xS) : X iLedger_partOf 60 [(2, 243), (0, v1), (0, v2), (0, v3), (0, v4), (2, v5), (1, v6), (8, 0), (0, v8)] [] σ =
  (X iLedger_shareBy 0 [(2, 243), (2, v5), (2, 9), (0, 1), (9, 0)] [] σ).bind fun q1 => X iLedger_partOf 75 [(2, 243), (0, v1), (0, v2), (0, v3), (0, v4), (2, v5), (1, v6), (8, 0), (0, v8)] [q1.1, (0, 0), (2, 255)] q1.2 :=
  xev_eq (E := xE1) (F := xFk) (P := xPg) (inl := []) (stop := [5, 13, 38, 50, 60, 75, 91, 107, 120, 124]) 10 iLedger_partOf 60 [(2, 243), (0, v1), (0, v2), (0, v3), (0, v4), (2, v5), (1, v6), (8, 0), (0, v8)] [] σ
set_option maxRecDepth 20000 in
theorem qLedger_partOf_75 (v1 v2 v3 v4 v5 v6 v8 t0 t1 : Int) (σ : xS) : X iLedger_partOf 75 [(2, 243), (0, v1), (0, v2), (0, v3), (0, v4), (2, v5), (1, v6), (8, 0), (0, v8)] [(1, t0), (0, t1), (2, 255)] σ =
  if xin t1 3 then ((X iLedger_shareBy 0 [(2, 243), (2, v5), (2, 10), (0, 0), (9, 0)] [] (xs σ 255 t1.toNat t0)).bind fun q1 => X iLedger_partOf 91 [(2, 243), (0, v1), (0, v2), (0, v3), (0, v4), (2, v5), (1, v6), (8, 0), (0, v8)] [q1.1, (0, 1), (2, 255)] q1.2)
  else none :=
  xev_eq (E := xE1) (F := xFk) (P := xPg) (inl := []) (stop := [5, 13, 38, 50, 60, 75, 91, 107, 120, 124]) 11 iLedger_partOf 75 [(2, 243), (0, v1), (0, v2), (0, v3), (0, v4), (2, v5), (1, v6), (8, 0), (0, v8)] [(1, t0), (0, t1), (2, 255)] σ
set_option maxRecDepth 20000 in
theorem qLedger_partOf_91 (v1 v2 v3 v4 v5 v6 v8 t0 t1 : Int) (σ : xS) : X iLedger_partOf 91 [(2, 243), (0, v1), (0, v2), (0, v3), (0, v4), (2, v5), (1, v6), (8, 0), (0, v8)] [(1, t0), (0, t1), (2, 255)] σ =
  if xin t1 3 then ((X iLedger_shareBy 0 [(2, 243), (2, v5), (2, 11), (0, 0), (9, 0)] [] (xs σ 255 t1.toNat t0)).bind fun q1 => X iLedger_partOf 107 [(2, 243), (0, v1), (0, v2), (0, v3), (0, v4), (2, v5), (1, v6), (8, 0), (0, v8)] [q1.1, (0, 2), (2, 255)] q1.2)
  else none :=
  xev_eq (E := xE1) (F := xFk) (P := xPg) (inl := []) (stop := [5, 13, 38, 50, 60, 75, 91, 107, 120, 124]) 11 iLedger_partOf 91 [(2, 243), (0, v1), (0, v2), (0, v3), (0, v4), (2, v5), (1, v6), (8, 0), (0, v8)] [(1, t0), (0, t1), (2, 255)] σ
set_option maxRecDepth 20000 in
theorem qLedger_partOf_107 (v1 v2 v3 v4 v5 v6 v8 t0 t1 : Int) (σ : xS) : X iLedger_partOf 107 [(2, 243), (0, v1), (0, v2), (0, v3), (0, v4), (2, v5), (1, v6), (8, 0), (0, v8)] [(1, t0), (0, t1), (2, 255)] σ =
  if xin t1 3 then ((X iLedger_lostValue 0 [(2, 243), (0, v8), (0, v3), (0, v4), (9, 0), (9, 0)] [] (xs σ 255 t1.toNat t0)).bind fun q1 => X iLedger_partOf 120 [(2, 243), (0, v1), (0, v2), (0, v3), (0, v4), (2, v5), (1, v6), (8, 0), (0, v8)] [q1.1, (2, 243), (1, v6)] q1.2)
  else none :=
  xev_eq (E := xE1) (F := xFk) (P := xPg) (inl := []) (stop := [5, 13, 38, 50, 60, 75, 91, 107, 120, 124]) 10 iLedger_partOf 107 [(2, 243), (0, v1), (0, v2), (0, v3), (0, v4), (2, v5), (1, v6), (8, 0), (0, v8)] [(1, t0), (0, t1), (2, 255)] σ
set_option maxRecDepth 20000 in
theorem qLedger_partOf_120 (v1 v2 v3 v4 v5 v8 t0 t2 : Int) (vw6 vw7 : xAV) (σ : xS) : X iLedger_partOf 120 [(2, 243), (0, v1), (0, v2), (0, v3), (0, v4), (2, v5), vw6, vw7, (0, v8)] [(0, t0), (2, 243), (1, t2)] σ =
  (X iLedger_partOfValue 0 [(2, 243), (0, t0), (0, v2), (9, 0), (9, 0), (9, 0), (9, 0), (9, 0), (9, 0)] [] σ).bind fun q1 => X iLedger_partOf 124 [(2, 243), (0, v1), (0, v2), (0, v3), (0, v4), (2, v5), vw6, vw7, (0, v8)] [q1.1, (1, t2)] q1.2 :=
  xev_eq (E := xE1) (F := xFk) (P := xPg) (inl := []) (stop := [5, 13, 38, 50, 60, 75, 91, 107, 120, 124]) 4 iLedger_partOf 120 [(2, 243), (0, v1), (0, v2), (0, v3), (0, v4), (2, v5), vw6, vw7, (0, v8)] [(0, t0), (2, 243), (1, t2)] σ
set_option maxRecDepth 20000 in
theorem qLedger_partOf_124 (v1 v2 v3 v4 v5 v8 t0 t1 : Int) (vw6 vw7 : xAV) (σ : xS) : X iLedger_partOf 124 [(2, 243), (0, v1), (0, v2), (0, v3), (0, v4), (2, v5), vw6, vw7, (0, v8)] [(1, t0), (1, t1)] σ =
  X iLedger_partOf 13 [(2, 243), (0, v1), (0, v2), (0, v3), (0, v4), (2, v5), (1, (xW (t1 + t0))), (8, 0), (0, (xw (v8 + 1)))] [] σ :=
  xev_eq (E := xE1) (F := xFk) (P := xPg) (inl := []) (stop := [5, 13, 38, 50, 60, 75, 91, 107, 120, 124]) 6 iLedger_partOf 124 [(2, 243), (0, v1), (0, v2), (0, v3), (0, v4), (2, v5), vw6, vw7, (0, v8)] [(1, t0), (1, t1)] σ
set_option maxRecDepth 20000 in
theorem qLedger_shareBy_0 (a1 a2 a3 : Int) (σ : xS) : X iLedger_shareBy 0 [(2, 243), (2, a1), (2, a2), (0, a3), (9, 0)] [] σ =
  if a1 = 0 then X iLedger_shareBy 13 [(2, 243), (2, a1), (2, a2), (0, a3), (9, 0)] [(2, 0)] σ
  else bif xisO xE1 σ a1 11 then ((X iTerms_lastLoss 0 [(2, a1), (2, a2), (9, 0), (9, 0)] [] σ).bind fun q1 => X iLedger_shareBy 13 [(2, 243), (2, a1), (2, a2), (0, a3), (9, 0)] [q1.1] q1.2)
  else none :=
  xev_eq (E := xE1) (F := xFk) (P := xPg) (inl := []) (stop := [13, 32]) 7 iLedger_shareBy 0 [(2, 243), (2, a1), (2, a2), (0, a3), (9, 0)] [] σ
set_option maxRecDepth 20000 in
theorem qLedger_shareBy_13 (v1 v3 t0 : Int) (vw0 vw2 vw4 : xAV) (σ : xS) : X iLedger_shareBy 13 [vw0, (2, v1), vw2, (0, v3), vw4] [(2, t0)] σ =
  if t0 = 0 then some ((1, v3), σ)
  else bif xisO xE1 σ v1 11 then ((X iTerms_exOfStatement 0 [(2, v1), (2, t0)] [] σ).bind fun q1 => X iLedger_shareBy 32 [vw0, (2, v1), vw2, (0, v3), (2, t0)] [q1.1, (1, 0)] q1.2)
  else none :=
  xev_eq (E := xE1) (F := xFk) (P := xPg) (inl := []) (stop := [13, 32]) 9 iLedger_shareBy 13 [vw0, (2, v1), vw2, (0, v3), vw4] [(2, t0)] σ
set_option maxRecDepth 20000 in
theorem qLedger_shareBy_32 (t0 t1 : Int) (vw0 vw1 vw2 vw3 vw4 : xAV) (σ : xS) : X iLedger_shareBy 32 [vw0, vw1, vw2, vw3, vw4] [(1, t0), (1, t1)] σ =
  some ((1, (xmm 0 t1 t0)), σ) :=
  xev_eq (E := xE1) (F := xFk) (P := xPg) (inl := []) (stop := [13, 32]) 4 iLedger_shareBy 32 [vw0, vw1, vw2, vw3, vw4] [(1, t0), (1, t1)] σ
set_option maxRecDepth 20000 in
theorem qLedger_lostValue_0 (a1 a2 a3 : Int) (σ : xS) : X iLedger_lostValue 0 [(2, 243), (0, a1), (0, a2), (0, a3), (9, 0), (9, 0)] [] σ =
  if xin a1 150 then (if xin (σ.1 217 a1.toNat) 6 then ((X iBook_washesAt 0 [(2, 216), (0, a1), (0, a2), (0, a3), (9, 0), (9, 0), (9, 0), (9, 0)] [] σ).bind fun q1 => X iLedger_lostValue 32 [(2, 243), (0, a1), (0, a2), (0, a3), (0, (σ.1 217 a1.toNat)), (9, 0)] [q1.1, (0, (σ.1 205 (σ.1 217 a1.toNat).toNat)), (0, 0)] q1.2)
    else none)
  else none :=
  xev_eq (E := xE1) (F := xFk) (P := xPg) (inl := []) (stop := [32]) 20 iLedger_lostValue 0 [(2, 243), (0, a1), (0, a2), (0, a3), (9, 0), (9, 0)] [] σ
set_option maxRecDepth 20000 in
theorem qLedger_lostValue_32 (v4 t0 t1 t2 : Int) (vw1 vw2 vw3 vw5 : xAV) (σ : xS) : X iLedger_lostValue 32 [(2, 243), vw1, vw2, vw3, (0, v4), vw5] [(0, t0), (0, t1), (0, t2)] σ =
  if xin v4 6 then (if (σ.1 205 v4.toNat) = 0 then some ((0, 0), σ)
    else if xin v4 6 then (if xin v4 6 then (if (σ.1 205 v4.toNat) = 0 then none
        else some ((0, (xw (Int.tdiv (xw ((σ.1 206 v4.toNat) * (xmm 0 t2 (xw (t1 - t0))))) (σ.1 205 v4.toNat)))), σ))
      else none)
    else none)
  else none :=
  xev_eq (E := xE1) (F := xFk) (P := xPg) (inl := []) (stop := [32]) 25 iLedger_lostValue 32 [(2, 243), vw1, vw2, vw3, (0, v4), vw5] [(0, t0), (0, t1), (0, t2)] σ
set_option maxRecDepth 20000 in
theorem qLedger_partOfValue_0 (a1 a2 : Int) (σ : xS) : X iLedger_partOfValue 0 [(2, 243), (0, a1), (0, a2), (9, 0), (9, 0), (9, 0), (9, 0), (9, 0), (9, 0)] [] σ =
  if 0 < (xW ((xW ((σ.1 255 0) + (σ.1 255 1))) + (σ.1 255 2))) then X iLedger_partOfValue 46 [(2, 243), (0, a1), (0, a2), (1, (xW ((xW ((σ.1 255 0) + (σ.1 255 1))) + (σ.1 255 2)))), (8, 0), (1, a1), (8, 0), (0, 0), (9, 0)] [] σ
  else if a2 = 2 then some ((1, a1), σ)
  else some ((1, 0), σ) :=
  xev_eq (E := xE1) (F := xFk) (P := xPg) (inl := []) (stop := [46, 111, 130]) 27 iLedger_partOfValue 0 [(2, 243), (0, a1), (0, a2), (9, 0), (9, 0), (9, 0), (9, 0), (9, 0), (9, 0)] [] σ
set_option maxRecDepth 20000 in
theorem qLedger_partOfValue_46 (v1 v2 v3 v5 v7 : Int) (vw8 : xAV) (σ : xS) : X iLedger_partOfValue 46 [(2, 243), (0, v1), (0, v2), (1, v3), (8, 0), (1, v5), (8, 0), (0, v7), vw8] [] σ =
  if v7 < 3 then (if xin v7 3 then (if v3 = 0 then none
      else if xin v7 3 then (if xin v7 3 then (if v3 = 0 then none
          else if xin v7 3 then (if xin v7 3 then X iLedger_partOfValue 46 [(2, 243), (0, v1), (0, v2), (1, v3), (8, 0), (1, (xW (v5 - ((xs σ 256 v7.toNat (xW (Int.tdiv (xW (v1 * (σ.1 255 v7.toNat))) v3))).1 256 v7.toNat)))), (8, 0), (0, (xw (v7 + 1))), vw8] [] (xs (xs σ 256 v7.toNat (xW (Int.tdiv (xW (v1 * (σ.1 255 v7.toNat))) v3))) 257 v7.toNat (Int.tmod (xW (v1 * (σ.1 255 v7.toNat))) v3))
            else none)
          else none)
        else none)
      else none)
    else none)
  else X iLedger_partOfValue 111 [(2, 243), (0, v1), (0, v2), (1, v3), (8, 0), (1, v5), (8, 0), (0, 0), vw8] [] σ :=
  xev_eq (E := xE1) (F := xFk) (P := xPg) (inl := []) (stop := [46, 111, 130]) 40 iLedger_partOfValue 46 [(2, 243), (0, v1), (0, v2), (1, v3), (8, 0), (1, v5), (8, 0), (0, v7), vw8] [] σ
set_option maxRecDepth 20000 in
theorem qLedger_partOfValue_111 (v2 v5 v7 : Int) (vw1 vw3 vw4 vw8 : xAV) (σ : xS) : X iLedger_partOfValue 111 [(2, 243), vw1, (0, v2), vw3, vw4, (1, v5), (8, 0), (0, v7), vw8] [] σ =
  if v7 < 3 then (if v7 < v5 then ((X iLedger_greatestRest 0 [(2, 243), (9, 0), (9, 0)] [] σ).bind fun q1 => X iLedger_partOfValue 130 [(2, 243), vw1, (0, v2), vw3, vw4, (1, v5), (8, 0), (0, v7), vw8] [q1.1] q1.2)
    else if xin v2 3 then some ((1, (σ.1 256 v2.toNat)), σ)
    else none)
  else if xin v2 3 then some ((1, (σ.1 256 v2.toNat)), σ)
  else none :=
  xev_eq (E := xE1) (F := xFk) (P := xPg) (inl := []) (stop := [46, 111, 130]) 14 iLedger_partOfValue 111 [(2, 243), vw1, (0, v2), vw3, vw4, (1, v5), (8, 0), (0, v7), vw8] [] σ
set_option maxRecDepth 20000 in
theorem qLedger_partOfValue_130 (v2 v5 v7 t0 : Int) (vw1 vw3 vw4 vw8 : xAV) (σ : xS) : X iLedger_partOfValue 130 [(2, 243), vw1, (0, v2), vw3, vw4, (1, v5), (8, 0), (0, v7), vw8] [(0, t0)] σ =
  if xin t0 3 then (if xin t0 3 then (if xin t0 3 then X iLedger_partOfValue 111 [(2, 243), vw1, (0, v2), vw3, vw4, (1, v5), (8, 0), (0, (xw (v7 + 1))), (0, t0)] [] (xs (xs σ 256 t0.toNat (xW ((σ.1 256 t0.toNat) + 1))) 257 t0.toNat (-1))
      else none)
    else none)
  else none :=
  xev_eq (E := xE1) (F := xFk) (P := xPg) (inl := []) (stop := [46, 111, 130]) 18 iLedger_partOfValue 130 [(2, 243), vw1, (0, v2), vw3, vw4, (1, v5), (8, 0), (0, v7), vw8] [(0, t0)] σ
set_option maxRecDepth 20000 in
theorem qLedger_greatestRest_0 (σ : xS) : X iLedger_greatestRest 0 [(2, 243), (9, 0), (9, 0)] [] σ =
  X iLedger_greatestRest 4 [(2, 243), (0, 0), (0, 1)] [] σ :=
  xev_eq (E := xE1) (F := xFk) (P := xPg) (inl := []) (stop := [4]) 6 iLedger_greatestRest 0 [(2, 243), (9, 0), (9, 0)] [] σ
set_option maxRecDepth 20000 in
theorem qLedger_greatestRest_4 (v1 v2 : Int) (σ : xS) : X iLedger_greatestRest 4 [(2, 243), (0, v1), (0, v2)] [] σ =
  if v2 < 3 then (if xin v2 3 then (if xin v1 3 then (if (σ.1 257 v1.toNat) < (σ.1 257 v2.toNat) then X iLedger_greatestRest 4 [(2, 243), (0, v2), (0, (xw (v2 + 1)))] [] σ
        else X iLedger_greatestRest 4 [(2, 243), (0, v1), (0, (xw (v2 + 1)))] [] σ)
      else none)
    else none)
  else some ((0, v1), σ) :=
  xev_eq (E := xE1) (F := xFk) (P := xPg) (inl := []) (stop := [4]) 19 iLedger_greatestRest 4 [(2, 243), (0, v1), (0, v2)] [] σ
set_option maxRecDepth 20000 in
theorem qLedger_isDue_0 (a1 : Int) (σ : xS) : X iLedger_isDue 0 [(2, 243), (0, a1), (9, 0), (9, 0), (9, 0)] [] σ =
  (X iBook_placeAt 0 [(2, 216), (0, a1), (0, (σ.1 216 0)), (0, (σ.1 216 0)), (9, 0)] [] σ).bind fun q1 => X iLedger_isDue 18 [(2, 243), (0, a1), (0, (σ.1 216 0)), (9, 0), (9, 0)] [q1.1] q1.2 :=
  xev_eq (E := xE1) (F := xFk) (P := xPg) (inl := []) (stop := [18, 28, 44, 61, 94, 98, 104]) 12 iLedger_isDue 0 [(2, 243), (0, a1), (9, 0), (9, 0), (9, 0)] [] σ
set_option maxRecDepth 20000 in
theorem qLedger_isDue_18 (v1 v2 t0 : Int) (vw3 vw4 : xAV) (σ : xS) : X iLedger_isDue 18 [(2, 243), (0, v1), (0, v2), vw3, vw4] [(0, t0)] σ =
  if t0 = 0 then ((X iLedger_inForce 0 [(2, 243), (0, v2), (9, 0)] [] σ).bind fun q1 => X iLedger_isDue 28 [(2, 243), (0, v1), (0, v2), vw3, vw4] [q1.1] q1.2)
  else some ((0, 0), σ) :=
  xev_eq (E := xE1) (F := xFk) (P := xPg) (inl := []) (stop := [18, 28, 44, 61, 94, 98, 104]) 6 iLedger_isDue 18 [(2, 243), (0, v1), (0, v2), vw3, vw4] [(0, t0)] σ
set_option maxRecDepth 20000 in
theorem qLedger_isDue_28 (v1 v2 t0 : Int) (vw3 vw4 : xAV) (σ : xS) : X iLedger_isDue 28 [(2, 243), (0, v1), (0, v2), vw3, vw4] [(2, t0)] σ =
  if t0 = 0 then X iLedger_isDue 44 [(2, 243), (0, v1), (0, v2), (2, t0), vw4] [(2, 0)] σ
  else bif xisO xE1 σ t0 11 then ((X iTerms_lastOf 0 [(2, t0), (2, 5), (9, 0), (9, 0)] [] σ).bind fun q1 => X iLedger_isDue 44 [(2, 243), (0, v1), (0, v2), (2, t0), vw4] [q1.1] q1.2)
  else none :=
  xev_eq (E := xE1) (F := xFk) (P := xPg) (inl := []) (stop := [18, 28, 44, 61, 94, 98, 104]) 8 iLedger_isDue 28 [(2, 243), (0, v1), (0, v2), vw3, vw4] [(2, t0)] σ
set_option maxRecDepth 20000 in
theorem qLedger_isDue_44 (v1 v2 v3 t0 : Int) (vw4 : xAV) (σ : xS) : X iLedger_isDue 44 [(2, 243), (0, v1), (0, v2), (2, v3), vw4] [(2, t0)] σ =
  if t0 = 0 then ((X iBook_washesAt 0 [(2, 216), (0, v1), (0, v2), (0, v2), (9, 0), (9, 0), (9, 0), (9, 0)] [] σ).bind fun q1 => X iLedger_isDue 61 [(2, 243), (0, v1), (0, v2), (2, v3), (2, t0)] [q1.1] q1.2)
  else (X iLedger_holdSheetInPlace 0 [(2, 243), (0, v1), (0, v2), (0, v2), (9, 0)] [] σ).bind fun q2 => X iLedger_isDue 94 [(2, 243), (0, v1), (0, v2), (2, v3), (2, t0)] [] q2.2 :=
  xev_eq (E := xE1) (F := xFk) (P := xPg) (inl := []) (stop := [18, 28, 44, 61, 94, 98, 104]) 11 iLedger_isDue 44 [(2, 243), (0, v1), (0, v2), (2, v3), vw4] [(2, t0)] σ
set_option maxRecDepth 20000 in
theorem qLedger_isDue_61 (v1 t0 : Int) (vw2 vw3 vw4 : xAV) (σ : xS) : X iLedger_isDue 61 [(2, 243), (0, v1), vw2, vw3, vw4] [(0, t0)] σ =
  if xin v1 150 then (if xin (σ.1 217 v1.toNat) 6 then (if t0 < (σ.1 205 (σ.1 217 v1.toNat).toNat) then some ((0, 0), σ)
      else some ((0, 1), σ))
    else none)
  else none :=
  xev_eq (E := xE1) (F := xFk) (P := xPg) (inl := []) (stop := [18, 28, 44, 61, 94, 98, 104]) 15 iLedger_isDue 61 [(2, 243), (0, v1), vw2, vw3, vw4] [(0, t0)] σ
set_option maxRecDepth 20000 in
theorem qLedger_isDue_94 (v3 v4 : Int) (vw0 vw1 vw2 : xAV) (σ : xS) : X iLedger_isDue 94 [vw0, vw1, vw2, (2, v3), (2, v4)] [] σ =
  bif xisO xE1 σ v3 11 then ((X iTerms_nameAll 0 [(2, v3), (9, 0), (9, 0)] [] σ).bind fun q1 => X iLedger_isDue 98 [vw0, vw1, vw2, (2, v3), (2, v4)] [] q1.2)
  else none :=
  xev_eq (E := xE1) (F := xFk) (P := xPg) (inl := []) (stop := [18, 28, 44, 61, 94, 98, 104]) 4 iLedger_isDue 94 [vw0, vw1, vw2, (2, v3), (2, v4)] [] σ
set_option maxRecDepth 20000 in
theorem qLedger_isDue_98 (v3 v4 : Int) (vw0 vw1 vw2 : xAV) (σ : xS) : X iLedger_isDue 98 [vw0, vw1, vw2, (2, v3), (2, v4)] [] σ =
  bif xisO xE1 σ v3 11 then ((X iTerms_exOfStatement 0 [(2, v3), (2, v4)] [] σ).bind fun q1 => X iLedger_isDue 104 [vw0, vw1, vw2, (2, v3), (2, v4)] [q1.1] q1.2)
  else none :=
  xev_eq (E := xE1) (F := xFk) (P := xPg) (inl := []) (stop := [18, 28, 44, 61, 94, 98, 104]) 5 iLedger_isDue 98 [vw0, vw1, vw2, (2, v3), (2, v4)] [] σ
set_option maxRecDepth 20000 in
theorem qLedger_isDue_104 (t0 : Int) (vw0 vw1 vw2 vw3 vw4 : xAV) (σ : xS) : X iLedger_isDue 104 [vw0, vw1, vw2, vw3, vw4] [(1, t0)] σ =
  if 0 < t0 then some ((0, 1), σ)
  else some ((0, 0), σ) :=
  xev_eq (E := xE1) (F := xFk) (P := xPg) (inl := []) (stop := [18, 28, 44, 61, 94, 98, 104]) 7 iLedger_isDue 104 [vw0, vw1, vw2, vw3, vw4] [(1, t0)] σ
set_option maxRecDepth 20000 in
theorem qLedger_dueSheet_0 (a1 : Int) (σ : xS) : X iLedger_dueSheet 0 [(2, 243), (0, a1), (9, 0), (9, 0)] [] σ =
  X iLedger_dueSheet 4 [(2, 243), (0, a1), (0, a1), (0, 0)] [] σ :=
  xev_eq (E := xE1) (F := xFk) (P := xPg) (inl := []) (stop := [4, 20]) 6 iLedger_dueSheet 0 [(2, 243), (0, a1), (9, 0), (9, 0)] [] σ
set_option maxRecDepth 20000 in
theorem qLedger_dueSheet_4 (v2 v3 : Int) (vw1 : xAV) (σ : xS) : X iLedger_dueSheet 4 [(2, 243), vw1, (0, v2), (0, v3)] [] σ =
  if v3 < (σ.1 216 6) then ((X iLedger_isDue 0 [(2, 243), (0, v3), (9, 0), (9, 0), (9, 0)] [] σ).bind fun q1 => X iLedger_dueSheet 20 [(2, 243), vw1, (0, v2), (0, v3)] [q1.1] q1.2)
  else some ((0, (-1)), σ) :=
  xev_eq (E := xE1) (F := xFk) (P := xPg) (inl := []) (stop := [4, 20]) 10 iLedger_dueSheet 4 [(2, 243), vw1, (0, v2), (0, v3)] [] σ
set_option maxRecDepth 20000 in
theorem qLedger_dueSheet_20 (v2 v3 t0 : Int) (vw1 : xAV) (σ : xS) : X iLedger_dueSheet 20 [(2, 243), vw1, (0, v2), (0, v3)] [(0, t0)] σ =
  if t0 = 0 then X iLedger_dueSheet 4 [(2, 243), vw1, (0, v2), (0, (xw (v3 + 1)))] [] σ
  else if v2 = 0 then some ((0, v3), σ)
  else X iLedger_dueSheet 4 [(2, 243), vw1, (0, (xw (v2 + (-1)))), (0, (xw (v3 + 1)))] [] σ :=
  xev_eq (E := xE1) (F := xFk) (P := xPg) (inl := []) (stop := [4, 20]) 8 iLedger_dueSheet 20 [(2, 243), vw1, (0, v2), (0, v3)] [(0, t0)] σ
set_option maxRecDepth 20000 in
theorem qLedger_wantedOn_0 (a1 a2 : Int) (σ : xS) : X iLedger_wantedOn 0 [(2, 243), (0, a1), (0, a2), (9, 0), (9, 0), (9, 0), (9, 0), (9, 0), (9, 0), (9, 0)] [] σ =
  (X iLedger_inForce 0 [(2, 243), (0, a2), (9, 0)] [] σ).bind fun q1 => X iLedger_wantedOn 5 [(2, 243), (0, a1), (0, a2), (9, 0), (9, 0), (9, 0), (9, 0), (9, 0), (9, 0), (9, 0)] [q1.1] q1.2 :=
  xev_eq (E := xE1) (F := xFk) (P := xPg) (inl := [225]) (stop := [5, 19, 27, 69, 74, 84, 92]) 5 iLedger_wantedOn 0 [(2, 243), (0, a1), (0, a2), (9, 0), (9, 0), (9, 0), (9, 0), (9, 0), (9, 0), (9, 0)] [] σ
set_option maxRecDepth 20000 in
theorem qLedger_wantedOn_5 (v1 v2 t0 : Int) (vw3 vw4 vw5 vw6 vw7 vw8 vw9 : xAV) (σ : xS) : X iLedger_wantedOn 5 [(2, 243), (0, v1), (0, v2), vw3, vw4, vw5, vw6, vw7, vw8, vw9] [(2, t0)] σ =
  if t0 = 0 then X iLedger_wantedOn 19 [(2, 243), (0, v1), (0, v2), (2, t0), vw4, vw5, vw6, vw7, vw8, vw9] [(2, 0)] σ
  else bif xisO xE1 σ t0 11 then ((X iTerms_firstFeast 0 [(2, t0), (0, v2), (9, 0)] [] σ).bind fun q1 => X iLedger_wantedOn 19 [(2, 243), (0, v1), (0, v2), (2, t0), vw4, vw5, vw6, vw7, vw8, vw9] [q1.1] q1.2)
  else none :=
  xev_eq (E := xE1) (F := xFk) (P := xPg) (inl := [225]) (stop := [5, 19, 27, 69, 74, 84, 92]) 8 iLedger_wantedOn 5 [(2, 243), (0, v1), (0, v2), vw3, vw4, vw5, vw6, vw7, vw8, vw9] [(2, t0)] σ
set_option maxRecDepth 20000 in
theorem qLedger_wantedOn_19 (v1 v2 v3 t0 : Int) (vw4 vw5 vw6 vw7 vw8 vw9 : xAV) (σ : xS) : X iLedger_wantedOn 19 [(2, 243), (0, v1), (0, v2), (2, v3), vw4, vw5, vw6, vw7, vw8, vw9] [(2, t0)] σ =
  X iLedger_wantedOn 27 [(2, 243), (0, v1), (0, v2), (2, v3), (2, t0), (1, 0), (8, 0), (0, 0), vw8, vw9] [] σ :=
  xev_eq (E := xE1) (F := xFk) (P := xPg) (inl := [225]) (stop := [5, 19, 27, 69, 74, 84, 92]) 7 iLedger_wantedOn 19 [(2, 243), (0, v1), (0, v2), (2, v3), vw4, vw5, vw6, vw7, vw8, vw9] [(2, t0)] σ
set_option maxRecDepth 20000 in
theorem qLedger_wantedOn_27 (v1 v2 v3 v4 v5 v7 : Int) (vw8 vw9 : xAV) (σ : xS) : X iLedger_wantedOn 27 [(2, 243), (0, v1), (0, v2), (2, v3), (2, v4), (1, v5), (8, 0), (0, v7), vw8, vw9] [] σ =
  if v7 < (σ.1 209 4) then (if xin v7 8 then (xob (xarr xE1 σ (xag xE1 σ 245 v7.toNat) 0) none fun n1 => if xin (xw ((xw (v1 * 7)) + (Int.tmod v2 7))) n1 then (if v4 = 0 then X iLedger_wantedOn 27 [(2, 243), (0, v1), (0, v2), (2, v3), (2, v4), (1, (xW (v5 + (xag xE1 σ (xag xE1 σ 245 v7.toNat) (xw ((xw (v1 * 7)) + (Int.tmod v2 7))).toNat)))), (8, 0), (0, (xw (v7 + 1))), (1, (xag xE1 σ (xag xE1 σ 245 v7.toNat) (xw ((xw (v1 * 7)) + (Int.tmod v2 7))).toNat)), (8, 0)] [] σ
        else (X iLedger_holdDay 0 [(2, 243), (0, v2)] [] σ).bind fun q2 => X iLedger_wantedOn 69 [(2, 243), (0, v1), (0, v2), (2, v3), (2, v4), (1, v5), (8, 0), (0, v7), (1, (xag xE1 σ (xag xE1 σ 245 v7.toNat) (xw ((xw (v1 * 7)) + (Int.tmod v2 7))).toNat)), (8, 0)] [] q2.2)
      else none)
    else none)
  else some ((0, (xw v5)), σ) :=
  xev_eq (E := xE1) (F := xFk) (P := xPg) (inl := [225]) (stop := [5, 19, 27, 69, 74, 84, 92]) 29 iLedger_wantedOn 27 [(2, 243), (0, v1), (0, v2), (2, v3), (2, v4), (1, v5), (8, 0), (0, v7), vw8, vw9] [] σ
set_option maxRecDepth 20000 in
theorem qLedger_wantedOn_69 (v1 v2 v3 v4 v5 v7 v8 : Int) (σ : xS) : X iLedger_wantedOn 69 [(2, 243), (0, v1), (0, v2), (2, v3), (2, v4), (1, v5), (8, 0), (0, v7), (1, v8), (8, 0)] [] σ =
  (X iLedger_holdSort 0 [(2, 243), (0, v1)] [] σ).bind fun q1 => X iLedger_wantedOn 74 [(2, 243), (0, v1), (0, v2), (2, v3), (2, v4), (1, v5), (8, 0), (0, v7), (1, v8), (8, 0)] [] q1.2 :=
  xev_eq (E := xE1) (F := xFk) (P := xPg) (inl := [225]) (stop := [5, 19, 27, 69, 74, 84, 92]) 5 iLedger_wantedOn 69 [(2, 243), (0, v1), (0, v2), (2, v3), (2, v4), (1, v5), (8, 0), (0, v7), (1, v8), (8, 0)] [] σ
set_option maxRecDepth 20000 in
theorem qLedger_wantedOn_74 (v1 v2 v3 v4 v5 v7 v8 : Int) (σ : xS) : X iLedger_wantedOn 74 [(2, 243), (0, v1), (0, v2), (2, v3), (2, v4), (1, v5), (8, 0), (0, v7), (1, v8), (8, 0)] [] σ =
  if xin v7 8 then (bif xisO xE1 (xs σ 254 6 (σ.1 210 v7.toNat)) v3 11 then ((X iTerms_nameAll 0 [(2, v3), (9, 0), (9, 0)] [] (xs σ 254 6 (σ.1 210 v7.toNat))).bind fun q1 => X iLedger_wantedOn 84 [(2, 243), (0, v1), (0, v2), (2, v3), (2, v4), (1, v5), (8, 0), (0, v7), (1, v8), (8, 0)] [] q1.2)
    else none)
  else none :=
  xev_eq (E := xE1) (F := xFk) (P := xPg) (inl := [225]) (stop := [5, 19, 27, 69, 74, 84, 92]) 19 iLedger_wantedOn 74 [(2, 243), (0, v1), (0, v2), (2, v3), (2, v4), (1, v5), (8, 0), (0, v7), (1, v8), (8, 0)] [] σ
set_option maxRecDepth 20000 in
theorem qLedger_wantedOn_84 (v1 v2 v3 v4 v5 v7 v8 : Int) (σ : xS) : X iLedger_wantedOn 84 [(2, 243), (0, v1), (0, v2), (2, v3), (2, v4), (1, v5), (8, 0), (0, v7), (1, v8), (8, 0)] [] σ =
  bif xisO xE1 σ v3 11 then ((X iTerms_exOfStatement 0 [(2, v3), (2, v4)] [] σ).bind fun q1 => X iLedger_wantedOn 92 [(2, 243), (0, v1), (0, v2), (2, v3), (2, v4), (1, v5), (8, 0), (0, v7), (1, v8), (8, 0)] [q1.1, (1, v8)] q1.2)
  else none :=
  xev_eq (E := xE1) (F := xFk) (P := xPg) (inl := [225]) (stop := [5, 19, 27, 69, 74, 84, 92]) 6 iLedger_wantedOn 84 [(2, 243), (0, v1), (0, v2), (2, v3), (2, v4), (1, v5), (8, 0), (0, v7), (1, v8), (8, 0)] [] σ
set_option maxRecDepth 20000 in
theorem qLedger_wantedOn_92 (v1 v2 v3 v4 v5 v7 t0 t1 : Int) (vw8 vw9 : xAV) (σ : xS) : X iLedger_wantedOn 92 [(2, 243), (0, v1), (0, v2), (2, v3), (2, v4), (1, v5), (8, 0), (0, v7), vw8, vw9] [(1, t0), (1, t1)] σ =
  X iLedger_wantedOn 27 [(2, 243), (0, v1), (0, v2), (2, v3), (2, v4), (1, (xW (v5 + (xmm 0 0 (xmm 1 1000 (xW (Int.tdiv (xW (t1 * t0)) 100))))))), (8, 0), (0, (xw (v7 + 1))), (1, (xmm 0 0 (xmm 1 1000 (xW (Int.tdiv (xW (t1 * t0)) 100))))), (8, 0)] [] σ :=
  xev_eq (E := xE1) (F := xFk) (P := xPg) (inl := [225]) (stop := [5, 19, 27, 69, 74, 84, 92]) 18 iLedger_wantedOn 92 [(2, 243), (0, v1), (0, v2), (2, v3), (2, v4), (1, v5), (8, 0), (0, v7), vw8, vw9] [(1, t0), (1, t1)] σ
set_option maxRecDepth 20000 in
theorem qLedger_mixes_0 (σ : xS) : X iLedger_mixes 0 [(2, 243), (9, 0), (9, 0), (9, 0)] [] σ =
  (X iLedger_inForce 0 [(2, 243), (0, (σ.1 216 0)), (9, 0)] [] σ).bind fun q1 => X iLedger_mixes 13 [(2, 243), (0, 0), (9, 0), (9, 0)] [q1.1] q1.2 :=
  xev_eq (E := xE1) (F := xFk) (P := xPg) (inl := []) (stop := [13, 27]) 9 iLedger_mixes 0 [(2, 243), (9, 0), (9, 0), (9, 0)] [] σ
set_option maxRecDepth 20000 in
theorem qLedger_mixes_13 (v1 t0 : Int) (vw0 vw2 vw3 : xAV) (σ : xS) : X iLedger_mixes 13 [vw0, (0, v1), vw2, vw3] [(2, t0)] σ =
  if t0 = 0 then X iLedger_mixes 27 [vw0, (0, v1), (2, t0), (2, 0)] [] σ
  else xob (xfld xE1 σ t0 11 2) none fun w1 => X iLedger_mixes 27 [vw0, (0, v1), (2, t0), (2, w1)] [] σ :=
  xev_eq (E := xE1) (F := xFk) (P := xPg) (inl := []) (stop := [13, 27]) 8 iLedger_mixes 13 [vw0, (0, v1), vw2, vw3] [(2, t0)] σ
set_option maxRecDepth 20000 in
theorem qLedger_mixes_27 (v1 v3 : Int) (vw0 vw2 : xAV) (σ : xS) : X iLedger_mixes 27 [vw0, (0, v1), vw2, (2, v3)] [] σ =
  if v3 = 0 then some ((0, v1), σ)
  else xob (xfld xE1 σ v3 7 0) none fun w1 => bif (xcm w1 && xcm 7) then (if w1 = 7 then (xob (xfld xE1 σ v3 7 1) none fun w2 => if w2 < 4 then (xob (xfld xE1 σ v3 7 2) none fun w3 => if w3 < 4 then (xob (xfld xE1 σ v3 7 1) none fun w4 => xob (xfld xE1 σ v3 7 2) none fun w5 => xob (xfld xE1 σ v3 7 2) none fun w6 => xob (xfld xE1 σ v3 7 1) none fun w7 => xob (xfld xE1 σ v3 7 7) none fun w8 => X iLedger_mixes 27 [(xkl (xkl vw0)), (0, (xior (xior v1 (xshl 1 (xw ((xw (w4 * 4)) + w5)))) (xshl 1 (xw ((xw (w6 * 4)) + w7))))), (xkl vw2), (2, w8)] [] σ)
        else xob (xfld xE1 σ v3 7 7) none fun w9 => X iLedger_mixes 27 [vw0, (0, v1), (xkl vw2), (2, w9)] [] σ)
      else xob (xfld xE1 σ v3 7 7) none fun w10 => X iLedger_mixes 27 [vw0, (0, v1), (xkl vw2), (2, w10)] [] σ)
    else xob (xfld xE1 σ v3 7 7) none fun w11 => X iLedger_mixes 27 [vw0, (0, v1), (xkl vw2), (2, w11)] [] σ)
  else none :=
  xev_eq (E := xE1) (F := xFk) (P := xPg) (inl := []) (stop := [13, 27]) 44 iLedger_mixes 27 [vw0, (0, v1), vw2, (2, v3)] [] σ

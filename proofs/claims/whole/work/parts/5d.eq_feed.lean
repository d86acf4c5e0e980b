/-! equations, written by a program (wip/whole/gen) -/
set_option maxRecDepth 20000 in
theorem qM_feed_0 (a1 a2 a3 a4 a5 : Int) (σ : xS) : X iM_feed 0 [(2, 305), (0, a1), (0, a2), (0, a3), (0, a4), (0, a5), (9, 0), (9, 0)] [] σ =
  if 400 < (xw ((σ.1 305 66) + 20)) then some ((0, (-1)), σ)
  else X iM_feed 18 [(2, 305), (0, a1), (0, a2), (0, a3), (0, a4), (0, a5), (0, 0), (9, 0)] [] σ :=
  xev_eq (E := xE1) (F := xFk) (P := xPg) (inl := []) (stop := [18]) 10 iM_feed 0 [(2, 305), (0, a1), (0, a2), (0, a3), (0, a4), (0, a5), (9, 0), (9, 0)] [] σ
set_option maxRecDepth 20000 in
theorem qM_feed_18 (v1 v2 v3 v4 v5 v6 : Int) (vw7 : xAV) (σ : xS) : X iM_feed 18 [(2, 305), (0, v1), (0, v2), (0, v3), (0, v4), (0, v5), (0, v6), vw7] [] σ =
  if v6 < 20 then (if v6 < 4 then (if xin (σ.1 305 66) 400 then X iM_feed 18 [(2, 305), (0, v1), (0, v2), (0, v3), (0, v4), (0, v5), (0, (xw (v6 + 1))), (0, v1)] [] (xs (xs σ 357 (σ.1 305 66).toNat (xna 2 (xna 2 (xshr v1 (xw (24 - (xw (8 * (Int.tmod v6 4))))))))) 305 66 (xw ((σ.1 305 66) + 1)))
      else none)
    else if v6 < 8 then (if xin (σ.1 305 66) 400 then X iM_feed 18 [(2, 305), (0, v1), (0, v2), (0, v3), (0, v4), (0, v5), (0, (xw (v6 + 1))), (0, v2)] [] (xs (xs σ 357 (σ.1 305 66).toNat (xna 2 (xna 2 (xshr v2 (xw (24 - (xw (8 * (Int.tmod v6 4))))))))) 305 66 (xw ((σ.1 305 66) + 1)))
      else none)
    else if v6 < 12 then (if xin (σ.1 305 66) 400 then X iM_feed 18 [(2, 305), (0, v1), (0, v2), (0, v3), (0, v4), (0, v5), (0, (xw (v6 + 1))), (0, v3)] [] (xs (xs σ 357 (σ.1 305 66).toNat (xna 2 (xna 2 (xshr v3 (xw (24 - (xw (8 * (Int.tmod v6 4))))))))) 305 66 (xw ((σ.1 305 66) + 1)))
      else none)
    else if v6 < 16 then (if xin (σ.1 305 66) 400 then X iM_feed 18 [(2, 305), (0, v1), (0, v2), (0, v3), (0, v4), (0, v5), (0, (xw (v6 + 1))), (0, v4)] [] (xs (xs σ 357 (σ.1 305 66).toNat (xna 2 (xna 2 (xshr v4 (xw (24 - (xw (8 * (Int.tmod v6 4))))))))) 305 66 (xw ((σ.1 305 66) + 1)))
      else none)
    else if xin (σ.1 305 66) 400 then X iM_feed 18 [(2, 305), (0, v1), (0, v2), (0, v3), (0, v4), (0, v5), (0, (xw (v6 + 1))), (0, v5)] [] (xs (xs σ 357 (σ.1 305 66).toNat (xna 2 (xna 2 (xshr v5 (xw (24 - (xw (8 * (Int.tmod v6 4))))))))) 305 66 (xw ((σ.1 305 66) + 1)))
    else none)
  else some ((0, (σ.1 305 66)), σ) :=
  xev_eq (E := xE1) (F := xFk) (P := xPg) (inl := []) (stop := [18]) 43 iM_feed 18 [(2, 305), (0, v1), (0, v2), (0, v3), (0, v4), (0, v5), (0, v6), vw7] [] σ
set_option maxRecDepth 20000 in
theorem qC_feed_0 (a1 a2 a3 a4 a5 : Int) (σ : xS) : X iC_feed 0 [(2, 200), (0, a1), (0, a2), (0, a3), (0, a4), (0, a5)] [] σ =
  if 400 < (xw ((σ.1 200 9) + 20)) then some ((0, (-1)), σ)
  else (X iC_feedNumber 0 [(2, 200), (0, a1), (9, 0)] [] σ).bind fun q1 => X iC_feed 20 [(2, 200), (0, a1), (0, a2), (0, a3), (0, a4), (0, a5)] [] q1.2 :=
  xev_eq (E := xE1) (F := xFk) (P := xPg) (inl := []) (stop := [20, 25, 30, 36, 42]) 11 iC_feed 0 [(2, 200), (0, a1), (0, a2), (0, a3), (0, a4), (0, a5)] [] σ
set_option maxRecDepth 20000 in
theorem qC_feed_20 (v2 v3 v4 v5 : Int) (vw1 : xAV) (σ : xS) : X iC_feed 20 [(2, 200), vw1, (0, v2), (0, v3), (0, v4), (0, v5)] [] σ =
  (X iC_feedNumber 0 [(2, 200), (0, v2), (9, 0)] [] σ).bind fun q1 => X iC_feed 25 [(2, 200), vw1, (0, v2), (0, v3), (0, v4), (0, v5)] [] q1.2 :=
  xev_eq (E := xE1) (F := xFk) (P := xPg) (inl := []) (stop := [20, 25, 30, 36, 42]) 5 iC_feed 20 [(2, 200), vw1, (0, v2), (0, v3), (0, v4), (0, v5)] [] σ
set_option maxRecDepth 20000 in
theorem qC_feed_25 (v3 v4 v5 : Int) (vw1 vw2 : xAV) (σ : xS) : X iC_feed 25 [(2, 200), vw1, vw2, (0, v3), (0, v4), (0, v5)] [] σ =
  (X iC_feedNumber 0 [(2, 200), (0, v3), (9, 0)] [] σ).bind fun q1 => X iC_feed 30 [(2, 200), vw1, vw2, (0, v3), (0, v4), (0, v5)] [] q1.2 :=
  xev_eq (E := xE1) (F := xFk) (P := xPg) (inl := []) (stop := [20, 25, 30, 36, 42]) 5 iC_feed 25 [(2, 200), vw1, vw2, (0, v3), (0, v4), (0, v5)] [] σ
set_option maxRecDepth 20000 in
theorem qC_feed_30 (v4 v5 : Int) (vw1 vw2 vw3 : xAV) (σ : xS) : X iC_feed 30 [(2, 200), vw1, vw2, vw3, (0, v4), (0, v5)] [] σ =
  (X iC_feedNumber 0 [(2, 200), (0, v4), (9, 0)] [] σ).bind fun q1 => X iC_feed 36 [(2, 200), vw1, vw2, vw3, (0, v4), (0, v5)] [] q1.2 :=
  xev_eq (E := xE1) (F := xFk) (P := xPg) (inl := []) (stop := [20, 25, 30, 36, 42]) 5 iC_feed 30 [(2, 200), vw1, vw2, vw3, (0, v4), (0, v5)] [] σ
set_option maxRecDepth 20000 in
theorem qC_feed_36 (v5 : Int) (vw1 vw2 vw3 vw4 : xAV) (σ : xS) : X iC_feed 36 [(2, 200), vw1, vw2, vw3, vw4, (0, v5)] [] σ =
  (X iC_feedNumber 0 [(2, 200), (0, v5), (9, 0)] [] σ).bind fun q1 => X iC_feed 42 [(2, 200), vw1, vw2, vw3, vw4, (0, v5)] [] q1.2 :=
  xev_eq (E := xE1) (F := xFk) (P := xPg) (inl := []) (stop := [20, 25, 30, 36, 42]) 5 iC_feed 36 [(2, 200), vw1, vw2, vw3, vw4, (0, v5)] [] σ
set_option maxRecDepth 20000 in
theorem qC_feed_42 (vw1 vw2 vw3 vw4 vw5 : xAV) (σ : xS) : X iC_feed 42 [(2, 200), vw1, vw2, vw3, vw4, vw5] [] σ =
  some ((0, (σ.1 200 9)), σ) :=
  xev_eq (E := xE1) (F := xFk) (P := xPg) (inl := []) (stop := [20, 25, 30, 36, 42]) 5 iC_feed 42 [(2, 200), vw1, vw2, vw3, vw4, vw5] [] σ
set_option maxRecDepth 20000 in
theorem qC_feedNumber_0 (a1 : Int) (σ : xS) : X iC_feedNumber 0 [(2, 200), (0, a1), (9, 0)] [] σ =
  X iC_feedNumber 3 [(2, 200), (0, a1), (0, 24)] [] σ :=
  xev_eq (E := xE1) (F := xFk) (P := xPg) (inl := []) (stop := [3]) 4 iC_feedNumber 0 [(2, 200), (0, a1), (9, 0)] [] σ
set_option maxRecDepth 20000 in
theorem qC_feedNumber_3 (v1 v2 : Int) (σ : xS) : X iC_feedNumber 3 [(2, 200), (0, v1), (0, v2)] [] σ =
  if v2 < 0 then some ((9, 0), σ)
  else if xin (σ.1 200 9) 400 then X iC_feedNumber 3 [(2, 200), (0, v1), (0, (xw (v2 + (-8))))] [] (xs (xs σ 304 (σ.1 200 9).toNat (xna 3 (xna 3 (xiand (xshr v1 v2) 255)))) 200 9 (xw ((σ.1 200 9) + 1)))
  else none :=
  xev_eq (E := xE1) (F := xFk) (P := xPg) (inl := []) (stop := [3]) 23 iC_feedNumber 3 [(2, 200), (0, v1), (0, v2)] [] σ

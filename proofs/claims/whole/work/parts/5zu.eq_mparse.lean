/-! equations, written by a program (wip/whole/gen) -/
set_option maxRecDepth 20000 in
theorem qM_here_0 (σ : xS) : X iM_here 0 [(2, 305)] [] σ =
  if (σ.1 305 69) < (σ.1 305 68) then (if xin (σ.1 305 69) 400 then some ((0, (xiand (xna 2 (σ.1 357 (σ.1 305 69).toNat)) 255)), σ)
    else none)
  else some ((0, (-1)), σ) :=
  xev_eq (E := xE1) (F := xFk) (P := xPg) (inl := []) (stop := []) 16 iM_here 0 [(2, 305)] [] σ
set_option maxRecDepth 20000 in
theorem qM_next_0 (vw1 : xAV) (σ : xS) : X iM_next 0 [(2, 305), vw1] [] σ =
  (X iM_here 0 [(2, 305)] [] σ).bind fun q1 => X iM_next 4 [(2, 305), vw1] [q1.1] q1.2 :=
  xev_eq (E := xE1) (F := xFk) (P := xPg) (inl := [1]) (stop := [0, 4, 13, 43, 82, 86, 123, 158, 161, 165, 187, 196, 328]) 4 iM_next 0 [(2, 305), vw1] [] σ
set_option maxRecDepth 20000 in
theorem qM_next_4 (t0 : Int) (vw1 : xAV) (σ : xS) : X iM_next 4 [(2, 305), vw1] [(0, t0)] σ =
  if t0 = 32 then X iM_next 0 [(2, 305), vw1] [] (xs σ 305 69 (xw ((σ.1 305 69) + 1)))
  else (X iM_here 0 [(2, 305)] [] σ).bind fun q1 => X iM_next 13 [(2, 305), vw1] [q1.1] q1.2 :=
  xev_eq (E := xE1) (F := xFk) (P := xPg) (inl := [1]) (stop := [0, 4, 13, 43, 82, 86, 123, 158, 161, 165, 187, 196, 328]) 11 iM_next 4 [(2, 305), vw1] [(0, t0)] σ
set_option maxRecDepth 20000 in
theorem qM_next_13 (t0 : Int) (vw1 : xAV) (σ : xS) : X iM_next 13 [(2, 305), vw1] [(0, t0)] σ =
  if t0 = 10 then X iM_next 0 [(2, 305), vw1] [] (xs σ 305 69 (xw ((σ.1 305 69) + 1)))
  else (X iM_here 0 [(2, 305)] [] (xs σ 305 70 (σ.1 305 69))).bind fun q1 => X iM_next 43 [(2, 305), vw1] [q1.1] q1.2 :=
  xev_eq (E := xE1) (F := xFk) (P := xPg) (inl := [1]) (stop := [0, 4, 13, 43, 82, 86, 123, 158, 161, 165, 187, 196, 328]) 11 iM_next 13 [(2, 305), vw1] [(0, t0)] σ
set_option maxRecDepth 20000 in
theorem qM_next_43 (t0 : Int) (vw1 : xAV) (σ : xS) : X iM_next 43 [(2, 305), vw1] [(0, t0)] σ =
  if t0 < 0 then some ((9, 0), (xs (xs (xs σ 305 73 0) 305 72 0) 305 71 0))
  else if t0 < 97 then (if t0 < 48 then X iM_next 158 [(2, 305), (0, t0)] [(0, 0)] (xs (xs σ 305 73 0) 305 72 0)
    else if 57 < t0 then X iM_next 158 [(2, 305), (0, t0)] [(0, 0)] (xs (xs σ 305 73 0) 305 72 0)
    else X iM_next 158 [(2, 305), (0, t0)] [(0, 1)] (xs (xs σ 305 73 0) 305 72 0))
  else if 122 < t0 then (if t0 < 48 then X iM_next 158 [(2, 305), (0, t0)] [(0, 0)] (xs (xs σ 305 73 0) 305 72 0)
    else if 57 < t0 then X iM_next 158 [(2, 305), (0, t0)] [(0, 0)] (xs (xs σ 305 73 0) 305 72 0)
    else X iM_next 158 [(2, 305), (0, t0)] [(0, 1)] (xs (xs σ 305 73 0) 305 72 0))
  else X iM_next 82 [(2, 305), (0, t0)] [] (xs (xs (xs σ 305 73 0) 305 72 0) 305 71 1) :=
  xev_eq (E := xE1) (F := xFk) (P := xPg) (inl := [1]) (stop := [0, 4, 13, 43, 82, 86, 123, 158, 161, 165, 187, 196, 328]) 37 iM_next 43 [(2, 305), vw1] [(0, t0)] σ
set_option maxRecDepth 20000 in
theorem qM_next_82 (vw1 : xAV) (σ : xS) : X iM_next 82 [(2, 305), vw1] [] σ =
  (X iM_here 0 [(2, 305)] [] σ).bind fun q1 => X iM_next 86 [(2, 305), vw1] [q1.1] q1.2 :=
  xev_eq (E := xE1) (F := xFk) (P := xPg) (inl := [1]) (stop := [0, 4, 13, 43, 82, 86, 123, 158, 161, 165, 187, 196, 328]) 4 iM_next 82 [(2, 305), vw1] [] σ
set_option maxRecDepth 20000 in
theorem qM_next_86 (t0 : Int) (vw1 : xAV) (σ : xS) : X iM_next 86 [(2, 305), vw1] [(0, t0)] σ =
  if t0 < 97 then some ((9, 0), σ)
  else if 122 < t0 then some ((9, 0), σ)
  else if (xw ((σ.1 305 69) - (σ.1 305 70))) < 8 then ((X iM_here 0 [(2, 305)] [] σ).bind fun q1 => X iM_next 123 [(2, 305), vw1] [q1.1, (1, (xW ((σ.1 305 73) * 27))), (2, 305)] q1.2)
  else X iM_next 82 [(2, 305), vw1] [] (xs (xs σ 305 73 (-1)) 305 69 (xw ((σ.1 305 69) + 1))) :=
  xev_eq (E := xE1) (F := xFk) (P := xPg) (inl := [1]) (stop := [0, 4, 13, 43, 82, 86, 123, 158, 161, 165, 187, 196, 328]) 32 iM_next 86 [(2, 305), vw1] [(0, t0)] σ
set_option maxRecDepth 20000 in
theorem qM_next_123 (t0 t1 : Int) (vw1 : xAV) (σ : xS) : X iM_next 123 [(2, 305), vw1] [(0, t0), (1, t1), (2, 305)] σ =
  X iM_next 82 [(2, 305), vw1] [] (xs (xs σ 305 73 (xW (t1 + (xw (t0 - 96))))) 305 69 (xw ((σ.1 305 69) + 1))) :=
  xev_eq (E := xE1) (F := xFk) (P := xPg) (inl := [1]) (stop := [0, 4, 13, 43, 82, 86, 123, 158, 161, 165, 187, 196, 328]) 15 iM_next 123 [(2, 305), vw1] [(0, t0), (1, t1), (2, 305)] σ
set_option maxRecDepth 20000 in
theorem qM_next_158 (v1 t0 : Int) (σ : xS) : X iM_next 158 [(2, 305), (0, v1)] [(0, t0)] σ =
  if t0 = 0 then (if v1 = 59 then X iM_next 328 [(2, 305), (0, v1)] [(2, 305)] σ
    else if v1 = 61 then X iM_next 328 [(2, 305), (0, v1)] [(2, 305)] σ
    else if v1 = 43 then X iM_next 328 [(2, 305), (0, v1)] [(2, 305)] σ
    else if v1 = 45 then X iM_next 328 [(2, 305), (0, v1)] [(2, 305)] σ
    else if v1 = 42 then X iM_next 328 [(2, 305), (0, v1)] [(2, 305)] σ
    else if v1 = 47 then X iM_next 328 [(2, 305), (0, v1)] [(2, 305)] σ
    else if v1 = 37 then X iM_next 328 [(2, 305), (0, v1)] [(2, 305)] σ
    else if v1 = 40 then X iM_next 328 [(2, 305), (0, v1)] [(2, 305)] σ
    else if v1 = 41 then X iM_next 328 [(2, 305), (0, v1)] [(2, 305)] σ
    else if v1 = 44 then X iM_next 328 [(2, 305), (0, v1)] [(2, 305)] σ
    else if v1 = 91 then X iM_next 328 [(2, 305), (0, v1)] [(2, 305)] σ
    else if v1 = 93 then X iM_next 328 [(2, 305), (0, v1)] [(2, 305)] σ
    else if v1 = 60 then X iM_next 328 [(2, 305), (0, v1)] [(2, 305)] σ
    else if v1 = 62 then X iM_next 328 [(2, 305), (0, v1)] [(2, 305)] σ
    else some ((9, 0), (xs (xs (xs σ 305 71 4) 305 72 v1) 305 69 (xw ((σ.1 305 69) + 1)))))
  else X iM_next 161 [(2, 305), (0, v1)] [] σ :=
  xev_eq (E := xE1) (F := xFk) (P := xPg) (inl := [1]) (stop := [0, 4, 13, 43, 82, 86, 123, 158, 161, 165, 187, 196, 328]) 58 iM_next 158 [(2, 305), (0, v1)] [(0, t0)] σ
set_option maxRecDepth 20000 in
theorem qM_next_161 (vw1 : xAV) (σ : xS) : X iM_next 161 [(2, 305), vw1] [] σ =
  (X iM_here 0 [(2, 305)] [] σ).bind fun q1 => X iM_next 165 [(2, 305), vw1] [q1.1] q1.2 :=
  xev_eq (E := xE1) (F := xFk) (P := xPg) (inl := [1]) (stop := [0, 4, 13, 43, 82, 86, 123, 158, 161, 165, 187, 196, 328]) 4 iM_next 161 [(2, 305), vw1] [] σ
set_option maxRecDepth 20000 in
theorem qM_next_165 (t0 : Int) (vw1 : xAV) (σ : xS) : X iM_next 165 [(2, 305), vw1] [(0, t0)] σ =
  if t0 < 48 then (if 9 < (xw ((σ.1 305 69) - (σ.1 305 70))) then some ((9, 0), (xs σ 305 71 4))
    else some ((9, 0), (xs σ 305 71 2)))
  else if 57 < t0 then (if 9 < (xw ((σ.1 305 69) - (σ.1 305 70))) then some ((9, 0), (xs σ 305 71 4))
    else some ((9, 0), (xs σ 305 71 2)))
  else (X iM_min 0 [(0, (xw (σ.1 305 73))), (0, 100000000)] [] σ).bind fun q1 => X iM_next 187 [(2, 305), vw1] [q1.1, (2, 305)] q1.2 :=
  xev_eq (E := xE1) (F := xFk) (P := xPg) (inl := [1]) (stop := [0, 4, 13, 43, 82, 86, 123, 158, 161, 165, 187, 196, 328]) 27 iM_next 165 [(2, 305), vw1] [(0, t0)] σ
set_option maxRecDepth 20000 in
theorem qM_next_187 (t0 : Int) (vw1 : xAV) (σ : xS) : X iM_next 187 [(2, 305), vw1] [(0, t0), (2, 305)] σ =
  (X iM_here 0 [(2, 305)] [] σ).bind fun q1 => X iM_next 196 [(2, 305), vw1] [q1.1, (1, (xW (t0 * 10))), (2, 305)] q1.2 :=
  xev_eq (E := xE1) (F := xFk) (P := xPg) (inl := [1]) (stop := [0, 4, 13, 43, 82, 86, 123, 158, 161, 165, 187, 196, 328]) 7 iM_next 187 [(2, 305), vw1] [(0, t0), (2, 305)] σ
set_option maxRecDepth 20000 in
theorem qM_next_196 (t0 t1 : Int) (vw1 : xAV) (σ : xS) : X iM_next 196 [(2, 305), vw1] [(0, t0), (1, t1), (2, 305)] σ =
  X iM_next 161 [(2, 305), vw1] [] (xs (xs σ 305 73 (xW (t1 + (xw (t0 - 48))))) 305 69 (xw ((σ.1 305 69) + 1))) :=
  xev_eq (E := xE1) (F := xFk) (P := xPg) (inl := [1]) (stop := [0, 4, 13, 43, 82, 86, 123, 158, 161, 165, 187, 196, 328]) 14 iM_next 196 [(2, 305), vw1] [(0, t0), (1, t1), (2, 305)] σ
set_option maxRecDepth 20000 in
theorem qM_next_328 (v1 : Int) (σ : xS) : X iM_next 328 [(2, 305), (0, v1)] [(2, 305)] σ =
  some ((9, 0), (xs (xs (xs σ 305 71 3) 305 72 v1) 305 69 (xw ((σ.1 305 69) + 1)))) :=
  xev_eq (E := xE1) (F := xFk) (P := xPg) (inl := [1]) (stop := [0, 4, 13, 43, 82, 86, 123, 158, 161, 165, 187, 196, 328]) 15 iM_next 328 [(2, 305), (0, v1)] [(2, 305)] σ
set_option maxRecDepth 20000 in
theorem qM_word_0 (a1 : Int) (σ : xS) : X iM_word 0 [(2, 305), (1, a1), (8, 0)] [] σ =
  if (σ.1 305 71) = 1 then (if (σ.1 305 73) = a1 then ((X iM_next 0 [(2, 305), (9, 0)] [] σ).bind fun q1 => X iM_word 12 [(2, 305), (1, a1), (8, 0)] [] q1.2)
    else if (xna 4 (σ.1 305 74)) = 0 then some ((9, 0), (xs (xs σ 305 74 1) 305 67 (σ.1 305 70)))
    else some ((9, 0), σ))
  else if (xna 4 (σ.1 305 74)) = 0 then some ((9, 0), (xs (xs σ 305 74 1) 305 67 (σ.1 305 70)))
  else some ((9, 0), σ) :=
  xev_eq (E := xE1) (F := xFk) (P := xPg) (inl := [53, 54]) (stop := [12]) 30 iM_word 0 [(2, 305), (1, a1), (8, 0)] [] σ
set_option maxRecDepth 20000 in
theorem qM_word_12 (vw0 vw1 vw2 : xAV) (σ : xS) : X iM_word 12 [vw0, vw1, vw2] [] σ =
  some ((9, 0), σ) :=
  xev_eq (E := xE1) (F := xFk) (P := xPg) (inl := [53, 54]) (stop := [12]) 4 iM_word 12 [vw0, vw1, vw2] [] σ
set_option maxRecDepth 20000 in
theorem qM_sign_0 (a1 : Int) (σ : xS) : X iM_sign 0 [(2, 305), (0, a1)] [] σ =
  if (σ.1 305 71) = 3 then (if (σ.1 305 72) = a1 then ((X iM_next 0 [(2, 305), (9, 0)] [] σ).bind fun q1 => X iM_sign 12 [(2, 305), (0, a1)] [] q1.2)
    else if (xna 4 (σ.1 305 74)) = 0 then some ((9, 0), (xs (xs σ 305 74 1) 305 67 (σ.1 305 70)))
    else some ((9, 0), σ))
  else if (xna 4 (σ.1 305 74)) = 0 then some ((9, 0), (xs (xs σ 305 74 1) 305 67 (σ.1 305 70)))
  else some ((9, 0), σ) :=
  xev_eq (E := xE1) (F := xFk) (P := xPg) (inl := [53, 55]) (stop := [12]) 30 iM_sign 0 [(2, 305), (0, a1)] [] σ
set_option maxRecDepth 20000 in
theorem qM_sign_12 (vw0 vw1 : xAV) (σ : xS) : X iM_sign 12 [vw0, vw1] [] σ =
  some ((9, 0), σ) :=
  xev_eq (E := xE1) (F := xFk) (P := xPg) (inl := [53, 55]) (stop := [12]) 4 iM_sign 12 [vw0, vw1] [] σ
set_option maxRecDepth 20000 in
theorem qM_number_0 (σ : xS) : X iM_number 0 [(2, 305), (9, 0)] [] σ =
  if (σ.1 305 71) = 2 then ((X iM_next 0 [(2, 305), (9, 0)] [] σ).bind fun q1 => X iM_number 18 [(2, 305), (0, (xw (σ.1 305 73)))] [] q1.2)
  else if (xna 4 (σ.1 305 74)) = 0 then some ((0, (xw (σ.1 305 73))), (xs (xs σ 305 74 1) 305 67 (σ.1 305 70)))
  else some ((0, (xw (σ.1 305 73))), σ) :=
  xev_eq (E := xE1) (F := xFk) (P := xPg) (inl := [53]) (stop := [18]) 25 iM_number 0 [(2, 305), (9, 0)] [] σ
set_option maxRecDepth 20000 in
theorem qM_number_18 (v1 : Int) (vw0 : xAV) (σ : xS) : X iM_number 18 [vw0, (0, v1)] [] σ =
  some ((0, v1), σ) :=
  xev_eq (E := xE1) (F := xFk) (P := xPg) (inl := [53]) (stop := [18]) 5 iM_number 18 [vw0, (0, v1)] [] σ
set_option maxRecDepth 20000 in
theorem qM_node_0 (a1 a2 a3 a4 a5 : Int) (σ : xS) : X iM_node 0 [(2, 305), (0, a1), (0, a2), (0, a3), (0, a4), (1, a5), (8, 0)] [] σ =
  if xin (σ.1 305 64) 3300 then (if xin (σ.1 305 64) 3300 then (if xin (σ.1 305 64) 3300 then (if xin (σ.1 305 64) 3300 then (if xin (σ.1 305 64) 3300 then (if xin (σ.1 305 64) 3300 then some ((0, (xw ((xw ((σ.1 305 64) + 1)) - 1))), (xs (xs (xs (xs (xs (xs (xs σ 351 (σ.1 305 64).toNat a1) 352 (σ.1 305 64).toNat a2) 353 (σ.1 305 64).toNat a3) 354 (σ.1 305 64).toNat a4) 355 (σ.1 305 64).toNat (-1)) 356 (σ.1 305 64).toNat a5) 305 64 (xw ((σ.1 305 64) + 1))))
            else none)
          else none)
        else none)
      else none)
    else none)
  else none :=
  xev_eq (E := xE1) (F := xFk) (P := xPg) (inl := []) (stop := []) 49 iM_node 0 [(2, 305), (0, a1), (0, a2), (0, a3), (0, a4), (1, a5), (8, 0)] [] σ
set_option maxRecDepth 20000 in
theorem qM_wordOf_0 (a1 : Int) (σ : xS) : X iM_wordOf 0 [(2, 305), (1, a1), (8, 0), (9, 0)] [] σ =
  if a1 = 330936265 then some ((0, 0), σ)
  else if a1 = 923 then some ((0, 1), σ)
  else if a1 = 242924 then some ((0, 2), σ)
  else if a1 = 12532058 then some ((0, 3), σ)
  else if a1 = 4075480 then some ((0, 4), σ)
  else if a1 = 385418 then some ((0, 5), σ)
  else if a1 = 223456 then some ((0, 6), σ)
  else if a1 = 80155 then some ((0, 7), σ)
  else if a1 = 191706742 then some ((0, 8), σ)
  else if a1 = 2968 then some ((0, 9), σ)
  else X iM_wordOf 109 [(2, 305), (1, a1), (8, 0), (0, (σ.1 305 76))] [] σ :=
  xev_eq (E := xE1) (F := xFk) (P := xPg) (inl := []) (stop := [109]) 35 iM_wordOf 0 [(2, 305), (1, a1), (8, 0), (9, 0)] [] σ
set_option maxRecDepth 20000 in
theorem qM_wordOf_109 (v1 v3 : Int) (σ : xS) : X iM_wordOf 109 [(2, 305), (1, v1), (8, 0), (0, v3)] [] σ =
  if v3 < (σ.1 305 57) then (if xin v3 200 then (if (σ.1 344 v3.toNat) = 0 then (if xin v3 200 then (if (σ.1 350 v3.toNat) = v1 then some ((0, (xw ((xw (10 + v3)) - (σ.1 305 76)))), σ)
          else X iM_wordOf 109 [(2, 305), (1, v1), (8, 0), (0, (xw (v3 + 1)))] [] σ)
        else none)
      else X iM_wordOf 109 [(2, 305), (1, v1), (8, 0), (0, (xw (v3 + 1)))] [] σ)
    else none)
  else some ((0, (-1)), σ) :=
  xev_eq (E := xE1) (F := xFk) (P := xPg) (inl := []) (stop := [109]) 24 iM_wordOf 109 [(2, 305), (1, v1), (8, 0), (0, v3)] [] σ
set_option maxRecDepth 20000 in
theorem qM_isName_0 (a1 : Int) (σ : xS) : X iM_isName 0 [(2, 305), (1, a1), (8, 0)] [] σ =
  if a1 < 0 then some ((0, 0), σ)
  else (X iM_wordOf 0 [(2, 305), (1, a1), (8, 0), (9, 0)] [] σ).bind fun q1 => X iM_isName 11 [(2, 305), (1, a1), (8, 0)] [q1.1] q1.2 :=
  xev_eq (E := xE1) (F := xFk) (P := xPg) (inl := []) (stop := [11]) 8 iM_isName 0 [(2, 305), (1, a1), (8, 0)] [] σ
set_option maxRecDepth 20000 in
theorem qM_isName_11 (v1 t0 : Int) (vw0 : xAV) (σ : xS) : X iM_isName 11 [vw0, (1, v1), (8, 0)] [(0, t0)] σ =
  if t0 < 0 then (if v1 = 8903 then some ((0, 0), σ)
    else if v1 = 8863997 then some ((0, 0), σ)
    else if v1 = 247663 then some ((0, 0), σ)
    else if v1 = 4562600 then some ((0, 0), σ)
    else if v1 = 12531826 then some ((0, 0), σ)
    else if v1 = 326280 then some ((0, 0), σ)
    else if v1 = 261338243 then some ((0, 0), σ)
    else if v1 = 3288323 then some ((0, 0), σ)
    else if v1 = 555 then some ((0, 0), σ)
    else if v1 = 79 then some ((0, 0), σ)
    else if v1 = 9744 then some ((0, 0), σ)
    else if v1 = 459818 then some ((0, 0), σ)
    else if v1 = 161156 then some ((0, 0), σ)
    else if v1 = 4797 then some ((0, 0), σ)
    else if v1 = 249 then some ((0, 0), σ)
    else if v1 = 399641 then some ((0, 0), σ)
    else if v1 = 107681 then some ((0, 0), σ)
    else if v1 = 9734 then some ((0, 0), σ)
    else if v1 = 9528 then some ((0, 0), σ)
    else if v1 = 423 then some ((0, 0), σ)
    else if v1 = 1111 then some ((0, 0), σ)
    else if v1 = 10631 then some ((0, 0), σ)
    else some ((0, 1), σ))
  else some ((0, 0), σ) :=
  xev_eq (E := xE1) (F := xFk) (P := xPg) (inl := []) (stop := [11]) 72 iM_isName 11 [vw0, (1, v1), (8, 0)] [(0, t0)] σ
set_option maxRecDepth 20000 in
theorem qM_begin_0 (a1 : Int) (σ : xS) : X iM_begin 0 [(2, 305), (0, a1)] [] σ =
  if xin (σ.1 305 82) 500 then (if xin (σ.1 305 82) 500 then (if xin (σ.1 305 82) 500 then (if xin (σ.1 305 82) 500 then (if xin (σ.1 305 82) 500 then some ((9, 0), (xs (xs (xs (xs (xs (xs σ 358 (σ.1 305 82).toNat a1) 359 (σ.1 305 82).toNat 0) 360 (σ.1 305 82).toNat (-1)) 361 (σ.1 305 82).toNat (-1)) 362 (σ.1 305 82).toNat 0) 305 82 (xw ((σ.1 305 82) + 1))))
          else none)
        else none)
      else none)
    else none)
  else none :=
  xev_eq (E := xE1) (F := xFk) (P := xPg) (inl := []) (stop := []) 39 iM_begin 0 [(2, 305), (0, a1)] [] σ
set_option maxRecDepth 20000 in
theorem qM_expression_0 (σ : xS) : X iM_expression 0 [(2, 305), (9, 0)] [] σ =
  (X iM_begin 0 [(2, 305), (0, 0)] [] (xs (xs σ 305 82 0) 305 75 0)).bind fun q1 => X iM_expression 15 [(2, 305), (9, 0)] [] q1.2 :=
  xev_eq (E := xE1) (F := xFk) (P := xPg) (inl := []) (stop := [15, 55, 73, 91, 109, 127, 145, 158]) 11 iM_expression 0 [(2, 305), (9, 0)] [] σ
set_option maxRecDepth 20000 in
theorem qM_expression_15 (vw1 : xAV) (σ : xS) : X iM_expression 15 [(2, 305), vw1] [] σ =
  if 0 < (σ.1 305 82) then (if (xna 4 (σ.1 305 74)) = 0 then (if xin (xw ((σ.1 305 82) - 1)) 500 then (if (σ.1 358 (xw ((σ.1 305 82) - 1)).toNat) = 0 then ((X iM_ex 0 [(2, 305), (0, (xw ((σ.1 305 82) - 1)))] [] σ).bind fun q1 => X iM_expression 55 [(2, 305), (0, (σ.1 358 (xw ((σ.1 305 82) - 1)).toNat))] [] q1.2)
        else if (σ.1 358 (xw ((σ.1 305 82) - 1)).toNat) = 1 then ((X iM_sum 0 [(2, 305), (0, (xw ((σ.1 305 82) - 1)))] [] σ).bind fun q2 => X iM_expression 73 [(2, 305), (0, (σ.1 358 (xw ((σ.1 305 82) - 1)).toNat))] [] q2.2)
        else if (σ.1 358 (xw ((σ.1 305 82) - 1)).toNat) = 2 then ((X iM_prod 0 [(2, 305), (0, (xw ((σ.1 305 82) - 1)))] [] σ).bind fun q3 => X iM_expression 91 [(2, 305), (0, (σ.1 358 (xw ((σ.1 305 82) - 1)).toNat))] [] q3.2)
        else if (σ.1 358 (xw ((σ.1 305 82) - 1)).toNat) = 3 then ((X iM_atom 0 [(2, 305), (0, (xw ((σ.1 305 82) - 1))), (9, 0), (9, 0)] [] σ).bind fun q4 => X iM_expression 109 [(2, 305), (0, (σ.1 358 (xw ((σ.1 305 82) - 1)).toNat))] [] q4.2)
        else if (σ.1 358 (xw ((σ.1 305 82) - 1)).toNat) = 4 then ((X iM_cond 0 [(2, 305), (0, (xw ((σ.1 305 82) - 1)))] [] σ).bind fun q5 => X iM_expression 127 [(2, 305), (0, (σ.1 358 (xw ((σ.1 305 82) - 1)).toNat))] [] q5.2)
        else if (σ.1 358 (xw ((σ.1 305 82) - 1)).toNat) = 5 then ((X iM_all 0 [(2, 305), (0, (xw ((σ.1 305 82) - 1)))] [] σ).bind fun q6 => X iM_expression 145 [(2, 305), (0, (σ.1 358 (xw ((σ.1 305 82) - 1)).toNat))] [] q6.2)
        else (X iM_test 0 [(2, 305), (0, (xw ((σ.1 305 82) - 1)))] [] σ).bind fun q7 => X iM_expression 158 [(2, 305), (0, (σ.1 358 (xw ((σ.1 305 82) - 1)).toNat))] [] q7.2)
      else none)
    else some ((0, (σ.1 305 83)), σ))
  else some ((0, (σ.1 305 83)), σ) :=
  xev_eq (E := xE1) (F := xFk) (P := xPg) (inl := []) (stop := [15, 55, 73, 91, 109, 127, 145, 158]) 39 iM_expression 15 [(2, 305), vw1] [] σ
set_option maxRecDepth 20000 in
theorem qM_expression_55 (vw1 : xAV) (σ : xS) : X iM_expression 55 [(2, 305), vw1] [] σ =
  X iM_expression 158 [(2, 305), vw1] [] σ :=
  xev_eq (E := xE1) (F := xFk) (P := xPg) (inl := []) (stop := [15, 55, 73, 91, 109, 127, 145, 158]) 3 iM_expression 55 [(2, 305), vw1] [] σ
set_option maxRecDepth 20000 in
theorem qM_expression_73 (vw1 : xAV) (σ : xS) : X iM_expression 73 [(2, 305), vw1] [] σ =
  X iM_expression 158 [(2, 305), vw1] [] σ :=
  xev_eq (E := xE1) (F := xFk) (P := xPg) (inl := []) (stop := [15, 55, 73, 91, 109, 127, 145, 158]) 3 iM_expression 73 [(2, 305), vw1] [] σ
set_option maxRecDepth 20000 in
theorem qM_expression_91 (vw1 : xAV) (σ : xS) : X iM_expression 91 [(2, 305), vw1] [] σ =
  X iM_expression 158 [(2, 305), vw1] [] σ :=
  xev_eq (E := xE1) (F := xFk) (P := xPg) (inl := []) (stop := [15, 55, 73, 91, 109, 127, 145, 158]) 3 iM_expression 91 [(2, 305), vw1] [] σ
set_option maxRecDepth 20000 in
theorem qM_expression_109 (vw1 : xAV) (σ : xS) : X iM_expression 109 [(2, 305), vw1] [] σ =
  X iM_expression 158 [(2, 305), vw1] [] σ :=
  xev_eq (E := xE1) (F := xFk) (P := xPg) (inl := []) (stop := [15, 55, 73, 91, 109, 127, 145, 158]) 3 iM_expression 109 [(2, 305), vw1] [] σ
set_option maxRecDepth 20000 in
theorem qM_expression_127 (vw1 : xAV) (σ : xS) : X iM_expression 127 [(2, 305), vw1] [] σ =
  X iM_expression 158 [(2, 305), vw1] [] σ :=
  xev_eq (E := xE1) (F := xFk) (P := xPg) (inl := []) (stop := [15, 55, 73, 91, 109, 127, 145, 158]) 3 iM_expression 127 [(2, 305), vw1] [] σ
set_option maxRecDepth 20000 in
theorem qM_expression_145 (vw1 : xAV) (σ : xS) : X iM_expression 145 [(2, 305), vw1] [] σ =
  X iM_expression 158 [(2, 305), vw1] [] σ :=
  xev_eq (E := xE1) (F := xFk) (P := xPg) (inl := []) (stop := [15, 55, 73, 91, 109, 127, 145, 158]) 3 iM_expression 145 [(2, 305), vw1] [] σ
set_option maxRecDepth 20000 in
theorem qM_expression_158 (vw1 : xAV) (σ : xS) : X iM_expression 158 [(2, 305), vw1] [] σ =
  X iM_expression 15 [(2, 305), vw1] [] σ :=
  xev_eq (E := xE1) (F := xFk) (P := xPg) (inl := []) (stop := [15, 55, 73, 91, 109, 127, 145, 158]) 3 iM_expression 158 [(2, 305), vw1] [] σ
set_option maxRecDepth 20000 in
theorem qM_ex_0 (a1 : Int) (σ : xS) : X iM_ex 0 [(2, 305), (0, a1)] [] σ =
  if xin a1 500 then (if (σ.1 359 a1.toNat) = 0 then (if (σ.1 305 71) = 1 then (if (σ.1 305 73) = 249 then (if (σ.1 305 75) = 10 then (if (xna 4 (σ.1 305 74)) = 0 then ((X iM_next 0 [(2, 305), (9, 0)] [] (xs (xs (xs σ 305 74 1) 305 67 (σ.1 305 70)) 305 75 (xw ((σ.1 305 75) + 1)))).bind fun q1 => X iM_ex 27 [(2, 305), (0, a1)] [] q1.2)
            else (X iM_next 0 [(2, 305), (9, 0)] [] (xs σ 305 75 (xw ((σ.1 305 75) + 1)))).bind fun q2 => X iM_ex 27 [(2, 305), (0, a1)] [] q2.2)
          else (X iM_next 0 [(2, 305), (9, 0)] [] (xs σ 305 75 (xw ((σ.1 305 75) + 1)))).bind fun q3 => X iM_ex 27 [(2, 305), (0, a1)] [] q3.2)
        else if xin a1 500 then ((X iM_begin 0 [(2, 305), (0, 1)] [] (xs σ 359 a1.toNat 4)).bind fun q4 => X iM_ex 54 [(2, 305), (0, a1)] [] q4.2)
        else none)
      else if xin a1 500 then ((X iM_begin 0 [(2, 305), (0, 1)] [] (xs σ 359 a1.toNat 4)).bind fun q5 => X iM_ex 54 [(2, 305), (0, a1)] [] q5.2)
      else none)
    else if xin a1 500 then (if (σ.1 359 a1.toNat) = 1 then (if xin a1 500 then ((X iM_word 0 [(2, 305), (1, 399641), (8, 0)] [] (xs σ 360 a1.toNat (σ.1 305 83))).bind fun q6 => X iM_ex 84 [(2, 305), (0, a1)] [] q6.2)
        else none)
      else if xin a1 500 then (if (σ.1 359 a1.toNat) = 2 then (if xin a1 500 then ((X iM_word 0 [(2, 305), (1, 107681), (8, 0)] [] (xs σ 361 a1.toNat (σ.1 305 83))).bind fun q7 => X iM_ex 126 [(2, 305), (0, a1)] [] q7.2)
          else none)
        else if xin a1 500 then (if (σ.1 359 a1.toNat) = 3 then (if xin a1 500 then (if xin a1 500 then ((X iM_node 0 [(2, 305), (0, 10), (0, (σ.1 360 a1.toNat)), (0, (σ.1 361 a1.toNat)), (0, (σ.1 305 83)), (1, 0), (8, 0)] [] (xs σ 305 75 (xw ((σ.1 305 75) - 1)))).bind fun q8 => X iM_ex 185 [(2, 305), (0, a1)] [q8.1, (2, 305)] q8.2)
              else none)
            else none)
          else some ((9, 0), (xs (xs σ 305 83 (σ.1 305 83)) 305 82 (xw ((σ.1 305 82) - 1)))))
        else none)
      else none)
    else none)
  else none :=
  xev_eq (E := xE1) (F := xFk) (P := xPg) (inl := [53, 54, 60, 65]) (stop := [27, 39, 54, 84, 96, 126, 138, 185]) 50 iM_ex 0 [(2, 305), (0, a1)] [] σ
set_option maxRecDepth 20000 in
theorem qM_ex_27 (v1 : Int) (σ : xS) : X iM_ex 27 [(2, 305), (0, v1)] [] σ =
  if xin v1 500 then ((X iM_begin 0 [(2, 305), (0, 4)] [] (xs σ 359 v1.toNat 1)).bind fun q1 => X iM_ex 39 [(2, 305), (0, v1)] [] q1.2)
  else none :=
  xev_eq (E := xE1) (F := xFk) (P := xPg) (inl := [53, 54, 60, 65]) (stop := [27, 39, 54, 84, 96, 126, 138, 185]) 10 iM_ex 27 [(2, 305), (0, v1)] [] σ
set_option maxRecDepth 20000 in
theorem qM_ex_39 (vw0 vw1 : xAV) (σ : xS) : X iM_ex 39 [vw0, vw1] [] σ =
  some ((9, 0), σ) :=
  xev_eq (E := xE1) (F := xFk) (P := xPg) (inl := [53, 54, 60, 65]) (stop := [27, 39, 54, 84, 96, 126, 138, 185]) 4 iM_ex 39 [vw0, vw1] [] σ
set_option maxRecDepth 20000 in
theorem qM_ex_54 (vw0 vw1 : xAV) (σ : xS) : X iM_ex 54 [vw0, vw1] [] σ =
  some ((9, 0), σ) :=
  xev_eq (E := xE1) (F := xFk) (P := xPg) (inl := [53, 54, 60, 65]) (stop := [27, 39, 54, 84, 96, 126, 138, 185]) 4 iM_ex 54 [vw0, vw1] [] σ
set_option maxRecDepth 20000 in
theorem qM_ex_84 (v1 : Int) (σ : xS) : X iM_ex 84 [(2, 305), (0, v1)] [] σ =
  if xin v1 500 then ((X iM_begin 0 [(2, 305), (0, 0)] [] (xs σ 359 v1.toNat 2)).bind fun q1 => X iM_ex 96 [(2, 305), (0, v1)] [] q1.2)
  else none :=
  xev_eq (E := xE1) (F := xFk) (P := xPg) (inl := [53, 54, 60, 65]) (stop := [27, 39, 54, 84, 96, 126, 138, 185]) 10 iM_ex 84 [(2, 305), (0, v1)] [] σ
set_option maxRecDepth 20000 in
theorem qM_ex_96 (vw0 vw1 : xAV) (σ : xS) : X iM_ex 96 [vw0, vw1] [] σ =
  some ((9, 0), σ) :=
  xev_eq (E := xE1) (F := xFk) (P := xPg) (inl := [53, 54, 60, 65]) (stop := [27, 39, 54, 84, 96, 126, 138, 185]) 4 iM_ex 96 [vw0, vw1] [] σ
set_option maxRecDepth 20000 in
theorem qM_ex_126 (v1 : Int) (σ : xS) : X iM_ex 126 [(2, 305), (0, v1)] [] σ =
  if xin v1 500 then ((X iM_begin 0 [(2, 305), (0, 0)] [] (xs σ 359 v1.toNat 3)).bind fun q1 => X iM_ex 138 [(2, 305), (0, v1)] [] q1.2)
  else none :=
  xev_eq (E := xE1) (F := xFk) (P := xPg) (inl := [53, 54, 60, 65]) (stop := [27, 39, 54, 84, 96, 126, 138, 185]) 10 iM_ex 126 [(2, 305), (0, v1)] [] σ
set_option maxRecDepth 20000 in
theorem qM_ex_138 (vw0 vw1 : xAV) (σ : xS) : X iM_ex 138 [vw0, vw1] [] σ =
  some ((9, 0), σ) :=
  xev_eq (E := xE1) (F := xFk) (P := xPg) (inl := [53, 54, 60, 65]) (stop := [27, 39, 54, 84, 96, 126, 138, 185]) 4 iM_ex 138 [vw0, vw1] [] σ
set_option maxRecDepth 20000 in
theorem qM_ex_185 (t0 : Int) (vw0 vw1 : xAV) (σ : xS) : X iM_ex 185 [vw0, vw1] [(0, t0), (2, 305)] σ =
  some ((9, 0), (xs (xs σ 305 83 t0) 305 82 (xw ((σ.1 305 82) - 1)))) :=
  xev_eq (E := xE1) (F := xFk) (P := xPg) (inl := [53, 54, 60, 65]) (stop := [27, 39, 54, 84, 96, 126, 138, 185]) 15 iM_ex 185 [vw0, vw1] [(0, t0), (2, 305)] σ
set_option maxRecDepth 20000 in
theorem qM_sum_0 (a1 : Int) (σ : xS) : X iM_sum 0 [(2, 305), (0, a1)] [] σ =
  if xin a1 500 then (if (σ.1 359 a1.toNat) = 0 then (if xin a1 500 then ((X iM_begin 0 [(2, 305), (0, 2)] [] (xs σ 359 a1.toNat 1)).bind fun q1 => X iM_sum 21 [(2, 305), (0, a1)] [] q1.2)
      else none)
    else if xin a1 500 then (if (σ.1 360 a1.toNat) < 0 then X iM_sum 65 [(2, 305), (0, a1)] [(0, (σ.1 305 83)), (0, a1), (2, 360)] σ
      else if xin a1 500 then (if xin a1 500 then ((X iM_node 0 [(2, 305), (0, (σ.1 362 a1.toNat)), (0, (σ.1 360 a1.toNat)), (0, (σ.1 305 83)), (0, 0), (1, 0), (8, 0)] [] σ).bind fun q2 => X iM_sum 65 [(2, 305), (0, a1)] [q2.1, (0, a1), (2, 360)] q2.2)
        else none)
      else none)
    else none)
  else none :=
  xev_eq (E := xE1) (F := xFk) (P := xPg) (inl := [55, 65]) (stop := [21, 65, 81, 108, 113]) 29 iM_sum 0 [(2, 305), (0, a1)] [] σ
set_option maxRecDepth 20000 in
theorem qM_sum_21 (vw0 vw1 : xAV) (σ : xS) : X iM_sum 21 [vw0, vw1] [] σ =
  some ((9, 0), σ) :=
  xev_eq (E := xE1) (F := xFk) (P := xPg) (inl := [55, 65]) (stop := [21, 65, 81, 108, 113]) 3 iM_sum 21 [vw0, vw1] [] σ
set_option maxRecDepth 20000 in
theorem qM_sum_65 (v1 t0 t1 : Int) (σ : xS) : X iM_sum 65 [(2, 305), (0, v1)] [(0, t0), (0, t1), (2, 360)] σ =
  if xin t1 500 then (if (σ.1 305 71) = 3 then (if (σ.1 305 72) = 43 then (if (σ.1 305 71) = 3 then (if (σ.1 305 72) = 43 then (if xin v1 500 then ((X iM_next 0 [(2, 305), (9, 0)] [] (xs (xs σ 360 t1.toNat t0) 362 v1.toNat 2)).bind fun q1 => X iM_sum 108 [(2, 305), (0, v1)] [] q1.2)
            else none)
          else if xin v1 500 then ((X iM_next 0 [(2, 305), (9, 0)] [] (xs (xs σ 360 t1.toNat t0) 362 v1.toNat 3)).bind fun q2 => X iM_sum 108 [(2, 305), (0, v1)] [] q2.2)
          else none)
        else if xin v1 500 then ((X iM_next 0 [(2, 305), (9, 0)] [] (xs (xs σ 360 t1.toNat t0) 362 v1.toNat 3)).bind fun q3 => X iM_sum 108 [(2, 305), (0, v1)] [] q3.2)
        else none)
      else if (σ.1 305 71) = 3 then (if (σ.1 305 72) = 45 then X iM_sum 81 [(2, 305), (0, v1)] [(0, 1)] (xs σ 360 t1.toNat t0)
        else X iM_sum 81 [(2, 305), (0, v1)] [(0, 0)] (xs σ 360 t1.toNat t0))
      else X iM_sum 81 [(2, 305), (0, v1)] [(0, 0)] (xs σ 360 t1.toNat t0))
    else if (σ.1 305 71) = 3 then (if (σ.1 305 72) = 45 then X iM_sum 81 [(2, 305), (0, v1)] [(0, 1)] (xs σ 360 t1.toNat t0)
      else X iM_sum 81 [(2, 305), (0, v1)] [(0, 0)] (xs σ 360 t1.toNat t0))
    else X iM_sum 81 [(2, 305), (0, v1)] [(0, 0)] (xs σ 360 t1.toNat t0))
  else none :=
  xev_eq (E := xE1) (F := xFk) (P := xPg) (inl := [55, 65]) (stop := [21, 65, 81, 108, 113]) 41 iM_sum 65 [(2, 305), (0, v1)] [(0, t0), (0, t1), (2, 360)] σ
set_option maxRecDepth 20000 in
theorem qM_sum_81 (v1 t0 : Int) (σ : xS) : X iM_sum 81 [(2, 305), (0, v1)] [(0, t0)] σ =
  if t0 = 0 then (if xin v1 500 then some ((9, 0), (xs (xs σ 305 83 (σ.1 360 v1.toNat)) 305 82 (xw ((σ.1 305 82) - 1))))
    else none)
  else if (σ.1 305 71) = 3 then (if (σ.1 305 72) = 43 then (if xin v1 500 then ((X iM_next 0 [(2, 305), (9, 0)] [] (xs σ 362 v1.toNat 2)).bind fun q1 => X iM_sum 108 [(2, 305), (0, v1)] [] q1.2)
      else none)
    else if xin v1 500 then ((X iM_next 0 [(2, 305), (9, 0)] [] (xs σ 362 v1.toNat 3)).bind fun q2 => X iM_sum 108 [(2, 305), (0, v1)] [] q2.2)
    else none)
  else if xin v1 500 then ((X iM_next 0 [(2, 305), (9, 0)] [] (xs σ 362 v1.toNat 3)).bind fun q3 => X iM_sum 108 [(2, 305), (0, v1)] [] q3.2)
  else none :=
  xev_eq (E := xE1) (F := xFk) (P := xPg) (inl := [55, 65]) (stop := [21, 65, 81, 108, 113]) 26 iM_sum 81 [(2, 305), (0, v1)] [(0, t0)] σ
set_option maxRecDepth 20000 in
theorem qM_sum_108 (vw1 : xAV) (σ : xS) : X iM_sum 108 [(2, 305), vw1] [] σ =
  (X iM_begin 0 [(2, 305), (0, 2)] [] σ).bind fun q1 => X iM_sum 113 [(2, 305), vw1] [] q1.2 :=
  xev_eq (E := xE1) (F := xFk) (P := xPg) (inl := [55, 65]) (stop := [21, 65, 81, 108, 113]) 5 iM_sum 108 [(2, 305), vw1] [] σ
set_option maxRecDepth 20000 in
theorem qM_sum_113 (vw0 vw1 : xAV) (σ : xS) : X iM_sum 113 [vw0, vw1] [] σ =
  some ((9, 0), σ) :=
  xev_eq (E := xE1) (F := xFk) (P := xPg) (inl := [55, 65]) (stop := [21, 65, 81, 108, 113]) 4 iM_sum 113 [vw0, vw1] [] σ
set_option maxRecDepth 20000 in
theorem qM_prod_0 (a1 : Int) (σ : xS) : X iM_prod 0 [(2, 305), (0, a1)] [] σ =
  if xin a1 500 then (if (σ.1 359 a1.toNat) = 0 then (if xin a1 500 then ((X iM_begin 0 [(2, 305), (0, 3)] [] (xs σ 359 a1.toNat 1)).bind fun q1 => X iM_prod 21 [(2, 305), (0, a1)] [] q1.2)
      else none)
    else if xin a1 500 then (if (σ.1 360 a1.toNat) < 0 then X iM_prod 65 [(2, 305), (0, a1)] [(0, (σ.1 305 83)), (0, a1), (2, 360)] σ
      else if xin a1 500 then (if xin a1 500 then ((X iM_node 0 [(2, 305), (0, (σ.1 362 a1.toNat)), (0, (σ.1 360 a1.toNat)), (0, (σ.1 305 83)), (0, 0), (1, 0), (8, 0)] [] σ).bind fun q2 => X iM_prod 65 [(2, 305), (0, a1)] [q2.1, (0, a1), (2, 360)] q2.2)
        else none)
      else none)
    else none)
  else none :=
  xev_eq (E := xE1) (F := xFk) (P := xPg) (inl := [55, 65]) (stop := [21, 65, 81, 90, 117, 131, 136]) 29 iM_prod 0 [(2, 305), (0, a1)] [] σ
set_option maxRecDepth 20000 in
theorem qM_prod_21 (vw0 vw1 : xAV) (σ : xS) : X iM_prod 21 [vw0, vw1] [] σ =
  some ((9, 0), σ) :=
  xev_eq (E := xE1) (F := xFk) (P := xPg) (inl := [55, 65]) (stop := [21, 65, 81, 90, 117, 131, 136]) 3 iM_prod 21 [vw0, vw1] [] σ
set_option maxRecDepth 20000 in
theorem qM_prod_65 (v1 t0 t1 : Int) (σ : xS) : X iM_prod 65 [(2, 305), (0, v1)] [(0, t0), (0, t1), (2, 360)] σ =
  if xin t1 500 then (if (σ.1 305 71) = 3 then (if (σ.1 305 72) = 42 then (if (σ.1 305 71) = 3 then (if (σ.1 305 72) = 42 then (if xin v1 500 then ((X iM_next 0 [(2, 305), (9, 0)] [] (xs (xs σ 360 t1.toNat t0) 362 v1.toNat 4)).bind fun q1 => X iM_prod 131 [(2, 305), (0, v1)] [] q1.2)
            else none)
          else if (σ.1 305 71) = 3 then (if (σ.1 305 72) = 47 then X iM_prod 117 [(2, 305), (0, v1)] [(0, 1), (0, v1), (2, 362)] (xs σ 360 t1.toNat t0)
            else X iM_prod 117 [(2, 305), (0, v1)] [(0, 0), (0, v1), (2, 362)] (xs σ 360 t1.toNat t0))
          else X iM_prod 117 [(2, 305), (0, v1)] [(0, 0), (0, v1), (2, 362)] (xs σ 360 t1.toNat t0))
        else if (σ.1 305 71) = 3 then (if (σ.1 305 72) = 47 then X iM_prod 117 [(2, 305), (0, v1)] [(0, 1), (0, v1), (2, 362)] (xs σ 360 t1.toNat t0)
          else X iM_prod 117 [(2, 305), (0, v1)] [(0, 0), (0, v1), (2, 362)] (xs σ 360 t1.toNat t0))
        else X iM_prod 117 [(2, 305), (0, v1)] [(0, 0), (0, v1), (2, 362)] (xs σ 360 t1.toNat t0))
      else if (σ.1 305 71) = 3 then (if (σ.1 305 72) = 47 then X iM_prod 81 [(2, 305), (0, v1)] [(0, 1)] (xs σ 360 t1.toNat t0)
        else X iM_prod 81 [(2, 305), (0, v1)] [(0, 0)] (xs σ 360 t1.toNat t0))
      else X iM_prod 81 [(2, 305), (0, v1)] [(0, 0)] (xs σ 360 t1.toNat t0))
    else if (σ.1 305 71) = 3 then (if (σ.1 305 72) = 47 then X iM_prod 81 [(2, 305), (0, v1)] [(0, 1)] (xs σ 360 t1.toNat t0)
      else X iM_prod 81 [(2, 305), (0, v1)] [(0, 0)] (xs σ 360 t1.toNat t0))
    else X iM_prod 81 [(2, 305), (0, v1)] [(0, 0)] (xs σ 360 t1.toNat t0))
  else none :=
  xev_eq (E := xE1) (F := xFk) (P := xPg) (inl := [55, 65]) (stop := [21, 65, 81, 90, 117, 131, 136]) 49 iM_prod 65 [(2, 305), (0, v1)] [(0, t0), (0, t1), (2, 360)] σ
set_option maxRecDepth 20000 in
theorem qM_prod_81 (v1 t0 : Int) (σ : xS) : X iM_prod 81 [(2, 305), (0, v1)] [(0, t0)] σ =
  if t0 = 0 then (if (σ.1 305 71) = 3 then (if (σ.1 305 72) = 37 then X iM_prod 90 [(2, 305), (0, v1)] [(0, 1)] σ
      else X iM_prod 90 [(2, 305), (0, v1)] [(0, 0)] σ)
    else X iM_prod 90 [(2, 305), (0, v1)] [(0, 0)] σ)
  else if (σ.1 305 71) = 3 then (if (σ.1 305 72) = 42 then (if xin v1 500 then ((X iM_next 0 [(2, 305), (9, 0)] [] (xs σ 362 v1.toNat 4)).bind fun q1 => X iM_prod 131 [(2, 305), (0, v1)] [] q1.2)
      else none)
    else if (σ.1 305 71) = 3 then (if (σ.1 305 72) = 47 then X iM_prod 117 [(2, 305), (0, v1)] [(0, 1), (0, v1), (2, 362)] σ
      else X iM_prod 117 [(2, 305), (0, v1)] [(0, 0), (0, v1), (2, 362)] σ)
    else X iM_prod 117 [(2, 305), (0, v1)] [(0, 0), (0, v1), (2, 362)] σ)
  else if (σ.1 305 71) = 3 then (if (σ.1 305 72) = 47 then X iM_prod 117 [(2, 305), (0, v1)] [(0, 1), (0, v1), (2, 362)] σ
    else X iM_prod 117 [(2, 305), (0, v1)] [(0, 0), (0, v1), (2, 362)] σ)
  else X iM_prod 117 [(2, 305), (0, v1)] [(0, 0), (0, v1), (2, 362)] σ :=
  xev_eq (E := xE1) (F := xFk) (P := xPg) (inl := [55, 65]) (stop := [21, 65, 81, 90, 117, 131, 136]) 34 iM_prod 81 [(2, 305), (0, v1)] [(0, t0)] σ
set_option maxRecDepth 20000 in
theorem qM_prod_90 (v1 t0 : Int) (σ : xS) : X iM_prod 90 [(2, 305), (0, v1)] [(0, t0)] σ =
  if t0 = 0 then (if xin v1 500 then some ((9, 0), (xs (xs σ 305 83 (σ.1 360 v1.toNat)) 305 82 (xw ((σ.1 305 82) - 1))))
    else none)
  else if (σ.1 305 71) = 3 then (if (σ.1 305 72) = 42 then (if xin v1 500 then ((X iM_next 0 [(2, 305), (9, 0)] [] (xs σ 362 v1.toNat 4)).bind fun q1 => X iM_prod 131 [(2, 305), (0, v1)] [] q1.2)
      else none)
    else if (σ.1 305 71) = 3 then (if (σ.1 305 72) = 47 then X iM_prod 117 [(2, 305), (0, v1)] [(0, 1), (0, v1), (2, 362)] σ
      else X iM_prod 117 [(2, 305), (0, v1)] [(0, 0), (0, v1), (2, 362)] σ)
    else X iM_prod 117 [(2, 305), (0, v1)] [(0, 0), (0, v1), (2, 362)] σ)
  else if (σ.1 305 71) = 3 then (if (σ.1 305 72) = 47 then X iM_prod 117 [(2, 305), (0, v1)] [(0, 1), (0, v1), (2, 362)] σ
    else X iM_prod 117 [(2, 305), (0, v1)] [(0, 0), (0, v1), (2, 362)] σ)
  else X iM_prod 117 [(2, 305), (0, v1)] [(0, 0), (0, v1), (2, 362)] σ :=
  xev_eq (E := xE1) (F := xFk) (P := xPg) (inl := [55, 65]) (stop := [21, 65, 81, 90, 117, 131, 136]) 34 iM_prod 90 [(2, 305), (0, v1)] [(0, t0)] σ
set_option maxRecDepth 20000 in
theorem qM_prod_117 (t0 t1 : Int) (vw1 : xAV) (σ : xS) : X iM_prod 117 [(2, 305), vw1] [(0, t0), (0, t1), (2, 362)] σ =
  if t0 = 0 then (if xin t1 500 then ((X iM_next 0 [(2, 305), (9, 0)] [] (xs σ 362 t1.toNat 6)).bind fun q1 => X iM_prod 131 [(2, 305), vw1] [] q1.2)
    else none)
  else if xin t1 500 then ((X iM_next 0 [(2, 305), (9, 0)] [] (xs σ 362 t1.toNat 5)).bind fun q2 => X iM_prod 131 [(2, 305), vw1] [] q2.2)
  else none :=
  xev_eq (E := xE1) (F := xFk) (P := xPg) (inl := [55, 65]) (stop := [21, 65, 81, 90, 117, 131, 136]) 8 iM_prod 117 [(2, 305), vw1] [(0, t0), (0, t1), (2, 362)] σ
set_option maxRecDepth 20000 in
theorem qM_prod_131 (vw1 : xAV) (σ : xS) : X iM_prod 131 [(2, 305), vw1] [] σ =
  (X iM_begin 0 [(2, 305), (0, 3)] [] σ).bind fun q1 => X iM_prod 136 [(2, 305), vw1] [] q1.2 :=
  xev_eq (E := xE1) (F := xFk) (P := xPg) (inl := [55, 65]) (stop := [21, 65, 81, 90, 117, 131, 136]) 5 iM_prod 131 [(2, 305), vw1] [] σ
set_option maxRecDepth 20000 in
theorem qM_prod_136 (vw0 vw1 : xAV) (σ : xS) : X iM_prod 136 [vw0, vw1] [] σ =
  some ((9, 0), σ) :=
  xev_eq (E := xE1) (F := xFk) (P := xPg) (inl := [55, 65]) (stop := [21, 65, 81, 90, 117, 131, 136]) 4 iM_prod 136 [vw0, vw1] [] σ
set_option maxRecDepth 20000 in
theorem qM_atom_0 (a1 : Int) (σ : xS) : X iM_atom 0 [(2, 305), (0, a1), (9, 0), (9, 0)] [] σ =
  if xin a1 500 then (if (σ.1 359 a1.toNat) = 0 then (if (σ.1 305 71) = 2 then ((X iM_next 0 [(2, 305), (9, 0)] [] σ).bind fun q1 => X iM_atom 26 [(2, 305), (0, a1), (1, (σ.1 305 73)), (8, 0)] [] q1.2)
      else if (σ.1 305 71) = 1 then (if (σ.1 305 73) = 9734 then X iM_atom 49 [(2, 305), (0, a1), (9, 0), (9, 0)] [(0, 1)] σ
        else X iM_atom 49 [(2, 305), (0, a1), (9, 0), (9, 0)] [(0, 0)] σ)
      else X iM_atom 49 [(2, 305), (0, a1), (9, 0), (9, 0)] [(0, 0)] σ)
    else if xin a1 500 then (if (σ.1 359 a1.toNat) = 1 then (if xin a1 500 then (if (σ.1 360 a1.toNat) < 0 then (if xin a1 500 then (if xin a1 500 then (if (σ.1 305 71) = 3 then (if (σ.1 305 72) = 44 then ((X iM_next 0 [(2, 305), (9, 0)] [] (xs (xs σ 360 a1.toNat (σ.1 305 83)) 361 a1.toNat (σ.1 305 83))).bind fun q2 => X iM_atom 303 [(2, 305), (0, a1), (9, 0), (9, 0)] [] q2.2)
                  else (X iM_sign 0 [(2, 305), (0, 41)] [] (xs (xs σ 360 a1.toNat (σ.1 305 83)) 361 a1.toNat (σ.1 305 83))).bind fun q3 => X iM_atom 317 [(2, 305), (0, a1), (9, 0), (9, 0)] [] q3.2)
                else (X iM_sign 0 [(2, 305), (0, 41)] [] (xs (xs σ 360 a1.toNat (σ.1 305 83)) 361 a1.toNat (σ.1 305 83))).bind fun q4 => X iM_atom 317 [(2, 305), (0, a1), (9, 0), (9, 0)] [] q4.2)
              else none)
            else none)
          else if xin a1 500 then (if xin (σ.1 361 a1.toNat) 3300 then (if xin a1 500 then (if (σ.1 305 71) = 3 then (if (σ.1 305 72) = 44 then ((X iM_next 0 [(2, 305), (9, 0)] [] (xs (xs σ 355 (σ.1 361 a1.toNat).toNat (σ.1 305 83)) 361 a1.toNat (σ.1 305 83))).bind fun q5 => X iM_atom 303 [(2, 305), (0, a1), (9, 0), (9, 0)] [] q5.2)
                  else (X iM_sign 0 [(2, 305), (0, 41)] [] (xs (xs σ 355 (σ.1 361 a1.toNat).toNat (σ.1 305 83)) 361 a1.toNat (σ.1 305 83))).bind fun q6 => X iM_atom 317 [(2, 305), (0, a1), (9, 0), (9, 0)] [] q6.2)
                else (X iM_sign 0 [(2, 305), (0, 41)] [] (xs (xs σ 355 (σ.1 361 a1.toNat).toNat (σ.1 305 83)) 361 a1.toNat (σ.1 305 83))).bind fun q7 => X iM_atom 317 [(2, 305), (0, a1), (9, 0), (9, 0)] [] q7.2)
              else none)
            else none)
          else none)
        else none)
      else if xin a1 500 then (if (σ.1 359 a1.toNat) = 2 then ((X iM_sign 0 [(2, 305), (0, 41)] [] σ).bind fun q8 => X iM_atom 369 [(2, 305), (0, a1), (9, 0), (9, 0)] [] q8.2)
        else (X iM_node 0 [(2, 305), (0, 7), (0, (σ.1 305 83)), (0, 0), (0, 0), (1, 0), (8, 0)] [] (xs σ 305 75 (xw ((σ.1 305 75) - 1)))).bind fun q9 => X iM_atom 414 [(2, 305), (0, a1), (9, 0), (9, 0)] [q9.1, (2, 305)] q9.2)
      else none)
    else none)
  else none :=
  xev_eq (E := xE1) (F := xFk) (P := xPg) (inl := [53, 54, 55, 60, 65]) (stop := [26, 36, 49, 59, 93, 99, 111, 130, 141, 146, 156, 179, 191, 200, 211, 223, 303, 308, 317, 347, 369, 414]) 50 iM_atom 0 [(2, 305), (0, a1), (9, 0), (9, 0)] [] σ
set_option maxRecDepth 20000 in
theorem qM_atom_26 (v2 : Int) (vw1 : xAV) (σ : xS) : X iM_atom 26 [(2, 305), vw1, (1, v2), (8, 0)] [] σ =
  (X iM_node 0 [(2, 305), (0, 0), (0, 0), (0, 0), (0, 0), (1, v2), (8, 0)] [] σ).bind fun q1 => X iM_atom 36 [(2, 305), vw1, (1, v2), (8, 0)] [q1.1, (2, 305)] q1.2 :=
  xev_eq (E := xE1) (F := xFk) (P := xPg) (inl := [53, 54, 55, 60, 65]) (stop := [26, 36, 49, 59, 93, 99, 111, 130, 141, 146, 156, 179, 191, 200, 211, 223, 303, 308, 317, 347, 369, 414]) 10 iM_atom 26 [(2, 305), vw1, (1, v2), (8, 0)] [] σ
set_option maxRecDepth 20000 in
theorem qM_atom_36 (t0 : Int) (vw0 vw1 vw2 vw3 : xAV) (σ : xS) : X iM_atom 36 [vw0, vw1, vw2, vw3] [(0, t0), (2, 305)] σ =
  some ((9, 0), (xs (xs σ 305 83 t0) 305 82 (xw ((σ.1 305 82) - 1)))) :=
  xev_eq (E := xE1) (F := xFk) (P := xPg) (inl := [53, 54, 55, 60, 65]) (stop := [26, 36, 49, 59, 93, 99, 111, 130, 141, 146, 156, 179, 191, 200, 211, 223, 303, 308, 317, 347, 369, 414]) 15 iM_atom 36 [vw0, vw1, vw2, vw3] [(0, t0), (2, 305)] σ
set_option maxRecDepth 20000 in
theorem qM_atom_49 (v1 t0 : Int) (vw2 vw3 : xAV) (σ : xS) : X iM_atom 49 [(2, 305), (0, v1), vw2, vw3] [(0, t0)] σ =
  if t0 = 0 then (if (σ.1 305 71) = 1 then (if (σ.1 305 73) = 9528 then X iM_atom 59 [(2, 305), (0, v1), vw2, vw3] [(0, 1)] σ
      else X iM_atom 59 [(2, 305), (0, v1), vw2, vw3] [(0, 0)] σ)
    else X iM_atom 59 [(2, 305), (0, v1), vw2, vw3] [(0, 0)] σ)
  else if (σ.1 305 71) = 1 then (if (σ.1 305 73) = 9734 then (if xin v1 500 then (if (σ.1 305 75) = 10 then (if (xna 4 (σ.1 305 74)) = 0 then ((X iM_next 0 [(2, 305), (9, 0)] [] (xs (xs (xs (xs σ 362 v1.toNat 8) 305 74 1) 305 67 (σ.1 305 70)) 305 75 (xw ((σ.1 305 75) + 1)))).bind fun q1 => X iM_atom 93 [(2, 305), (0, v1), vw2, vw3] [] q1.2)
          else (X iM_next 0 [(2, 305), (9, 0)] [] (xs (xs σ 362 v1.toNat 8) 305 75 (xw ((σ.1 305 75) + 1)))).bind fun q2 => X iM_atom 93 [(2, 305), (0, v1), vw2, vw3] [] q2.2)
        else (X iM_next 0 [(2, 305), (9, 0)] [] (xs (xs σ 362 v1.toNat 8) 305 75 (xw ((σ.1 305 75) + 1)))).bind fun q3 => X iM_atom 93 [(2, 305), (0, v1), vw2, vw3] [] q3.2)
      else none)
    else if xin v1 500 then (if (σ.1 305 75) = 10 then (if (xna 4 (σ.1 305 74)) = 0 then ((X iM_next 0 [(2, 305), (9, 0)] [] (xs (xs (xs (xs σ 362 v1.toNat 9) 305 74 1) 305 67 (σ.1 305 70)) 305 75 (xw ((σ.1 305 75) + 1)))).bind fun q4 => X iM_atom 93 [(2, 305), (0, v1), vw2, vw3] [] q4.2)
        else (X iM_next 0 [(2, 305), (9, 0)] [] (xs (xs σ 362 v1.toNat 9) 305 75 (xw ((σ.1 305 75) + 1)))).bind fun q5 => X iM_atom 93 [(2, 305), (0, v1), vw2, vw3] [] q5.2)
      else (X iM_next 0 [(2, 305), (9, 0)] [] (xs (xs σ 362 v1.toNat 9) 305 75 (xw ((σ.1 305 75) + 1)))).bind fun q6 => X iM_atom 93 [(2, 305), (0, v1), vw2, vw3] [] q6.2)
    else none)
  else if xin v1 500 then (if (σ.1 305 75) = 10 then (if (xna 4 (σ.1 305 74)) = 0 then ((X iM_next 0 [(2, 305), (9, 0)] [] (xs (xs (xs (xs σ 362 v1.toNat 9) 305 74 1) 305 67 (σ.1 305 70)) 305 75 (xw ((σ.1 305 75) + 1)))).bind fun q7 => X iM_atom 93 [(2, 305), (0, v1), vw2, vw3] [] q7.2)
      else (X iM_next 0 [(2, 305), (9, 0)] [] (xs (xs σ 362 v1.toNat 9) 305 75 (xw ((σ.1 305 75) + 1)))).bind fun q8 => X iM_atom 93 [(2, 305), (0, v1), vw2, vw3] [] q8.2)
    else (X iM_next 0 [(2, 305), (9, 0)] [] (xs (xs σ 362 v1.toNat 9) 305 75 (xw ((σ.1 305 75) + 1)))).bind fun q9 => X iM_atom 93 [(2, 305), (0, v1), vw2, vw3] [] q9.2)
  else none :=
  xev_eq (E := xE1) (F := xFk) (P := xPg) (inl := [53, 54, 55, 60, 65]) (stop := [26, 36, 49, 59, 93, 99, 111, 130, 141, 146, 156, 179, 191, 200, 211, 223, 303, 308, 317, 347, 369, 414]) 52 iM_atom 49 [(2, 305), (0, v1), vw2, vw3] [(0, t0)] σ
set_option maxRecDepth 20000 in
theorem qM_atom_59 (v1 t0 : Int) (vw2 vw3 : xAV) (σ : xS) : X iM_atom 59 [(2, 305), (0, v1), vw2, vw3] [(0, t0)] σ =
  if t0 = 0 then (if (σ.1 305 71) = 1 then ((X iM_wordOf 0 [(2, 305), (1, (σ.1 305 73)), (8, 0), (9, 0)] [] σ).bind fun q1 => X iM_atom 130 [(2, 305), (0, v1), vw2, vw3] [q1.1] q1.2)
    else if (σ.1 305 71) = 3 then (if (σ.1 305 72) = 40 then (if (σ.1 305 75) = 10 then (if (xna 4 (σ.1 305 74)) = 0 then ((X iM_next 0 [(2, 305), (9, 0)] [] (xs (xs (xs σ 305 74 1) 305 67 (σ.1 305 70)) 305 75 (xw ((σ.1 305 75) + 1)))).bind fun q2 => X iM_atom 179 [(2, 305), (0, v1), vw2, vw3] [] q2.2)
          else (X iM_next 0 [(2, 305), (9, 0)] [] (xs σ 305 75 (xw ((σ.1 305 75) + 1)))).bind fun q3 => X iM_atom 179 [(2, 305), (0, v1), vw2, vw3] [] q3.2)
        else (X iM_next 0 [(2, 305), (9, 0)] [] (xs σ 305 75 (xw ((σ.1 305 75) + 1)))).bind fun q4 => X iM_atom 179 [(2, 305), (0, v1), vw2, vw3] [] q4.2)
      else if (σ.1 305 71) = 3 then (if (σ.1 305 72) = 45 then X iM_atom 200 [(2, 305), (0, v1), vw2, vw3] [(0, 1)] σ
        else X iM_atom 200 [(2, 305), (0, v1), vw2, vw3] [(0, 0)] σ)
      else X iM_atom 200 [(2, 305), (0, v1), vw2, vw3] [(0, 0)] σ)
    else if (σ.1 305 71) = 3 then (if (σ.1 305 72) = 45 then X iM_atom 200 [(2, 305), (0, v1), vw2, vw3] [(0, 1)] σ
      else X iM_atom 200 [(2, 305), (0, v1), vw2, vw3] [(0, 0)] σ)
    else X iM_atom 200 [(2, 305), (0, v1), vw2, vw3] [(0, 0)] σ)
  else if (σ.1 305 71) = 1 then (if (σ.1 305 73) = 9734 then (if xin v1 500 then (if (σ.1 305 75) = 10 then (if (xna 4 (σ.1 305 74)) = 0 then ((X iM_next 0 [(2, 305), (9, 0)] [] (xs (xs (xs (xs σ 362 v1.toNat 8) 305 74 1) 305 67 (σ.1 305 70)) 305 75 (xw ((σ.1 305 75) + 1)))).bind fun q5 => X iM_atom 93 [(2, 305), (0, v1), vw2, vw3] [] q5.2)
          else (X iM_next 0 [(2, 305), (9, 0)] [] (xs (xs σ 362 v1.toNat 8) 305 75 (xw ((σ.1 305 75) + 1)))).bind fun q6 => X iM_atom 93 [(2, 305), (0, v1), vw2, vw3] [] q6.2)
        else (X iM_next 0 [(2, 305), (9, 0)] [] (xs (xs σ 362 v1.toNat 8) 305 75 (xw ((σ.1 305 75) + 1)))).bind fun q7 => X iM_atom 93 [(2, 305), (0, v1), vw2, vw3] [] q7.2)
      else none)
    else if xin v1 500 then (if (σ.1 305 75) = 10 then (if (xna 4 (σ.1 305 74)) = 0 then ((X iM_next 0 [(2, 305), (9, 0)] [] (xs (xs (xs (xs σ 362 v1.toNat 9) 305 74 1) 305 67 (σ.1 305 70)) 305 75 (xw ((σ.1 305 75) + 1)))).bind fun q8 => X iM_atom 93 [(2, 305), (0, v1), vw2, vw3] [] q8.2)
        else (X iM_next 0 [(2, 305), (9, 0)] [] (xs (xs σ 362 v1.toNat 9) 305 75 (xw ((σ.1 305 75) + 1)))).bind fun q9 => X iM_atom 93 [(2, 305), (0, v1), vw2, vw3] [] q9.2)
      else (X iM_next 0 [(2, 305), (9, 0)] [] (xs (xs σ 362 v1.toNat 9) 305 75 (xw ((σ.1 305 75) + 1)))).bind fun q10 => X iM_atom 93 [(2, 305), (0, v1), vw2, vw3] [] q10.2)
    else none)
  else if xin v1 500 then (if (σ.1 305 75) = 10 then (if (xna 4 (σ.1 305 74)) = 0 then ((X iM_next 0 [(2, 305), (9, 0)] [] (xs (xs (xs (xs σ 362 v1.toNat 9) 305 74 1) 305 67 (σ.1 305 70)) 305 75 (xw ((σ.1 305 75) + 1)))).bind fun q11 => X iM_atom 93 [(2, 305), (0, v1), vw2, vw3] [] q11.2)
      else (X iM_next 0 [(2, 305), (9, 0)] [] (xs (xs σ 362 v1.toNat 9) 305 75 (xw ((σ.1 305 75) + 1)))).bind fun q12 => X iM_atom 93 [(2, 305), (0, v1), vw2, vw3] [] q12.2)
    else (X iM_next 0 [(2, 305), (9, 0)] [] (xs (xs σ 362 v1.toNat 9) 305 75 (xw ((σ.1 305 75) + 1)))).bind fun q13 => X iM_atom 93 [(2, 305), (0, v1), vw2, vw3] [] q13.2)
  else none :=
  xev_eq (E := xE1) (F := xFk) (P := xPg) (inl := [53, 54, 55, 60, 65]) (stop := [26, 36, 49, 59, 93, 99, 111, 130, 141, 146, 156, 179, 191, 200, 211, 223, 303, 308, 317, 347, 369, 414]) 52 iM_atom 59 [(2, 305), (0, v1), vw2, vw3] [(0, t0)] σ
set_option maxRecDepth 20000 in
theorem qM_atom_93 (v1 : Int) (vw2 vw3 : xAV) (σ : xS) : X iM_atom 93 [(2, 305), (0, v1), vw2, vw3] [] σ =
  (X iM_sign 0 [(2, 305), (0, 40)] [] σ).bind fun q1 => X iM_atom 99 [(2, 305), (0, v1), vw2, vw3] [] q1.2 :=
  xev_eq (E := xE1) (F := xFk) (P := xPg) (inl := [53, 54, 55, 60, 65]) (stop := [26, 36, 49, 59, 93, 99, 111, 130, 141, 146, 156, 179, 191, 200, 211, 223, 303, 308, 317, 347, 369, 414]) 5 iM_atom 93 [(2, 305), (0, v1), vw2, vw3] [] σ
set_option maxRecDepth 20000 in
theorem qM_atom_99 (v1 : Int) (vw2 vw3 : xAV) (σ : xS) : X iM_atom 99 [(2, 305), (0, v1), vw2, vw3] [] σ =
  if xin v1 500 then ((X iM_begin 0 [(2, 305), (0, 0)] [] (xs σ 359 v1.toNat 1)).bind fun q1 => X iM_atom 111 [(2, 305), (0, v1), vw2, vw3] [] q1.2)
  else none :=
  xev_eq (E := xE1) (F := xFk) (P := xPg) (inl := [53, 54, 55, 60, 65]) (stop := [26, 36, 49, 59, 93, 99, 111, 130, 141, 146, 156, 179, 191, 200, 211, 223, 303, 308, 317, 347, 369, 414]) 10 iM_atom 99 [(2, 305), (0, v1), vw2, vw3] [] σ
set_option maxRecDepth 20000 in
theorem qM_atom_111 (vw0 vw1 vw2 vw3 : xAV) (σ : xS) : X iM_atom 111 [vw0, vw1, vw2, vw3] [] σ =
  some ((9, 0), σ) :=
  xev_eq (E := xE1) (F := xFk) (P := xPg) (inl := [53, 54, 55, 60, 65]) (stop := [26, 36, 49, 59, 93, 99, 111, 130, 141, 146, 156, 179, 191, 200, 211, 223, 303, 308, 317, 347, 369, 414]) 4 iM_atom 111 [vw0, vw1, vw2, vw3] [] σ
set_option maxRecDepth 20000 in
theorem qM_atom_130 (v1 t0 : Int) (vw2 vw3 : xAV) (σ : xS) : X iM_atom 130 [(2, 305), (0, v1), vw2, vw3] [(0, t0)] σ =
  if t0 < 0 then (if (σ.1 305 71) = 3 then (if (σ.1 305 72) = 40 then (if (σ.1 305 75) = 10 then (if (xna 4 (σ.1 305 74)) = 0 then ((X iM_next 0 [(2, 305), (9, 0)] [] (xs (xs (xs σ 305 74 1) 305 67 (σ.1 305 70)) 305 75 (xw ((σ.1 305 75) + 1)))).bind fun q1 => X iM_atom 179 [(2, 305), (0, v1), vw2, vw3] [] q1.2)
          else (X iM_next 0 [(2, 305), (9, 0)] [] (xs σ 305 75 (xw ((σ.1 305 75) + 1)))).bind fun q2 => X iM_atom 179 [(2, 305), (0, v1), vw2, vw3] [] q2.2)
        else (X iM_next 0 [(2, 305), (9, 0)] [] (xs σ 305 75 (xw ((σ.1 305 75) + 1)))).bind fun q3 => X iM_atom 179 [(2, 305), (0, v1), vw2, vw3] [] q3.2)
      else if (σ.1 305 71) = 3 then (if (σ.1 305 72) = 45 then X iM_atom 200 [(2, 305), (0, v1), vw2, vw3] [(0, 1)] σ
        else X iM_atom 200 [(2, 305), (0, v1), vw2, vw3] [(0, 0)] σ)
      else X iM_atom 200 [(2, 305), (0, v1), vw2, vw3] [(0, 0)] σ)
    else if (σ.1 305 71) = 3 then (if (σ.1 305 72) = 45 then X iM_atom 200 [(2, 305), (0, v1), vw2, vw3] [(0, 1)] σ
      else X iM_atom 200 [(2, 305), (0, v1), vw2, vw3] [(0, 0)] σ)
    else X iM_atom 200 [(2, 305), (0, v1), vw2, vw3] [(0, 0)] σ)
  else (X iM_wordOf 0 [(2, 305), (1, (σ.1 305 73)), (8, 0), (9, 0)] [] σ).bind fun q4 => X iM_atom 141 [(2, 305), (0, v1), vw2, vw3] [q4.1] q4.2 :=
  xev_eq (E := xE1) (F := xFk) (P := xPg) (inl := [53, 54, 55, 60, 65]) (stop := [26, 36, 49, 59, 93, 99, 111, 130, 141, 146, 156, 179, 191, 200, 211, 223, 303, 308, 317, 347, 369, 414]) 46 iM_atom 130 [(2, 305), (0, v1), vw2, vw3] [(0, t0)] σ
set_option maxRecDepth 20000 in
theorem qM_atom_141 (t0 : Int) (vw1 vw2 vw3 : xAV) (σ : xS) : X iM_atom 141 [(2, 305), vw1, vw2, vw3] [(0, t0)] σ =
  (X iM_next 0 [(2, 305), (9, 0)] [] σ).bind fun q1 => X iM_atom 146 [(2, 305), (xkl vw1), (0, t0), vw3] [] q1.2 :=
  xev_eq (E := xE1) (F := xFk) (P := xPg) (inl := [53, 54, 55, 60, 65]) (stop := [26, 36, 49, 59, 93, 99, 111, 130, 141, 146, 156, 179, 191, 200, 211, 223, 303, 308, 317, 347, 369, 414]) 5 iM_atom 141 [(2, 305), vw1, vw2, vw3] [(0, t0)] σ
set_option maxRecDepth 20000 in
theorem qM_atom_146 (v2 : Int) (vw1 vw3 : xAV) (σ : xS) : X iM_atom 146 [(2, 305), vw1, (0, v2), vw3] [] σ =
  (X iM_node 0 [(2, 305), (0, 1), (0, v2), (0, 0), (0, 0), (1, 0), (8, 0)] [] σ).bind fun q1 => X iM_atom 156 [(2, 305), vw1, (0, v2), vw3] [q1.1, (2, 305)] q1.2 :=
  xev_eq (E := xE1) (F := xFk) (P := xPg) (inl := [53, 54, 55, 60, 65]) (stop := [26, 36, 49, 59, 93, 99, 111, 130, 141, 146, 156, 179, 191, 200, 211, 223, 303, 308, 317, 347, 369, 414]) 10 iM_atom 146 [(2, 305), vw1, (0, v2), vw3] [] σ
set_option maxRecDepth 20000 in
theorem qM_atom_156 (t0 : Int) (vw0 vw1 vw2 vw3 : xAV) (σ : xS) : X iM_atom 156 [vw0, vw1, vw2, vw3] [(0, t0), (2, 305)] σ =
  some ((9, 0), (xs (xs σ 305 83 t0) 305 82 (xw ((σ.1 305 82) - 1)))) :=
  xev_eq (E := xE1) (F := xFk) (P := xPg) (inl := [53, 54, 55, 60, 65]) (stop := [26, 36, 49, 59, 93, 99, 111, 130, 141, 146, 156, 179, 191, 200, 211, 223, 303, 308, 317, 347, 369, 414]) 15 iM_atom 156 [vw0, vw1, vw2, vw3] [(0, t0), (2, 305)] σ
set_option maxRecDepth 20000 in
theorem qM_atom_179 (v1 : Int) (vw2 vw3 : xAV) (σ : xS) : X iM_atom 179 [(2, 305), (0, v1), vw2, vw3] [] σ =
  if xin v1 500 then ((X iM_begin 0 [(2, 305), (0, 0)] [] (xs σ 359 v1.toNat 2)).bind fun q1 => X iM_atom 191 [(2, 305), (0, v1), vw2, vw3] [] q1.2)
  else none :=
  xev_eq (E := xE1) (F := xFk) (P := xPg) (inl := [53, 54, 55, 60, 65]) (stop := [26, 36, 49, 59, 93, 99, 111, 130, 141, 146, 156, 179, 191, 200, 211, 223, 303, 308, 317, 347, 369, 414]) 10 iM_atom 179 [(2, 305), (0, v1), vw2, vw3] [] σ
set_option maxRecDepth 20000 in
theorem qM_atom_191 (vw0 vw1 vw2 vw3 : xAV) (σ : xS) : X iM_atom 191 [vw0, vw1, vw2, vw3] [] σ =
  some ((9, 0), σ) :=
  xev_eq (E := xE1) (F := xFk) (P := xPg) (inl := [53, 54, 55, 60, 65]) (stop := [26, 36, 49, 59, 93, 99, 111, 130, 141, 146, 156, 179, 191, 200, 211, 223, 303, 308, 317, 347, 369, 414]) 4 iM_atom 191 [vw0, vw1, vw2, vw3] [] σ
set_option maxRecDepth 20000 in
theorem qM_atom_200 (v1 t0 : Int) (vw2 vw3 : xAV) (σ : xS) : X iM_atom 200 [(2, 305), (0, v1), vw2, vw3] [(0, t0)] σ =
  if t0 = 0 then (if (xna 4 (σ.1 305 74)) = 0 then some ((9, 0), (xs (xs σ 305 74 1) 305 67 (σ.1 305 70)))
    else some ((9, 0), σ))
  else if (σ.1 305 75) = 10 then (if (xna 4 (σ.1 305 74)) = 0 then ((X iM_next 0 [(2, 305), (9, 0)] [] (xs (xs (xs σ 305 74 1) 305 67 (σ.1 305 70)) 305 75 (xw ((σ.1 305 75) + 1)))).bind fun q1 => X iM_atom 211 [(2, 305), (0, v1), vw2, vw3] [] q1.2)
    else (X iM_next 0 [(2, 305), (9, 0)] [] (xs σ 305 75 (xw ((σ.1 305 75) + 1)))).bind fun q2 => X iM_atom 211 [(2, 305), (0, v1), vw2, vw3] [] q2.2)
  else (X iM_next 0 [(2, 305), (9, 0)] [] (xs σ 305 75 (xw ((σ.1 305 75) + 1)))).bind fun q3 => X iM_atom 211 [(2, 305), (0, v1), vw2, vw3] [] q3.2 :=
  xev_eq (E := xE1) (F := xFk) (P := xPg) (inl := [53, 54, 55, 60, 65]) (stop := [26, 36, 49, 59, 93, 99, 111, 130, 141, 146, 156, 179, 191, 200, 211, 223, 303, 308, 317, 347, 369, 414]) 31 iM_atom 200 [(2, 305), (0, v1), vw2, vw3] [(0, t0)] σ
set_option maxRecDepth 20000 in
theorem qM_atom_211 (v1 : Int) (vw2 vw3 : xAV) (σ : xS) : X iM_atom 211 [(2, 305), (0, v1), vw2, vw3] [] σ =
  if xin v1 500 then ((X iM_begin 0 [(2, 305), (0, 3)] [] (xs σ 359 v1.toNat 3)).bind fun q1 => X iM_atom 223 [(2, 305), (0, v1), vw2, vw3] [] q1.2)
  else none :=
  xev_eq (E := xE1) (F := xFk) (P := xPg) (inl := [53, 54, 55, 60, 65]) (stop := [26, 36, 49, 59, 93, 99, 111, 130, 141, 146, 156, 179, 191, 200, 211, 223, 303, 308, 317, 347, 369, 414]) 10 iM_atom 211 [(2, 305), (0, v1), vw2, vw3] [] σ
set_option maxRecDepth 20000 in
theorem qM_atom_223 (vw0 vw1 vw2 vw3 : xAV) (σ : xS) : X iM_atom 223 [vw0, vw1, vw2, vw3] [] σ =
  some ((9, 0), σ) :=
  xev_eq (E := xE1) (F := xFk) (P := xPg) (inl := [53, 54, 55, 60, 65]) (stop := [26, 36, 49, 59, 93, 99, 111, 130, 141, 146, 156, 179, 191, 200, 211, 223, 303, 308, 317, 347, 369, 414]) 4 iM_atom 223 [vw0, vw1, vw2, vw3] [] σ
set_option maxRecDepth 20000 in
theorem qM_atom_303 (vw1 vw2 vw3 : xAV) (σ : xS) : X iM_atom 303 [(2, 305), vw1, vw2, vw3] [] σ =
  (X iM_begin 0 [(2, 305), (0, 0)] [] σ).bind fun q1 => X iM_atom 308 [(2, 305), vw1, vw2, vw3] [] q1.2 :=
  xev_eq (E := xE1) (F := xFk) (P := xPg) (inl := [53, 54, 55, 60, 65]) (stop := [26, 36, 49, 59, 93, 99, 111, 130, 141, 146, 156, 179, 191, 200, 211, 223, 303, 308, 317, 347, 369, 414]) 5 iM_atom 303 [(2, 305), vw1, vw2, vw3] [] σ
set_option maxRecDepth 20000 in
theorem qM_atom_308 (vw0 vw1 vw2 vw3 : xAV) (σ : xS) : X iM_atom 308 [vw0, vw1, vw2, vw3] [] σ =
  some ((9, 0), σ) :=
  xev_eq (E := xE1) (F := xFk) (P := xPg) (inl := [53, 54, 55, 60, 65]) (stop := [26, 36, 49, 59, 93, 99, 111, 130, 141, 146, 156, 179, 191, 200, 211, 223, 303, 308, 317, 347, 369, 414]) 4 iM_atom 308 [vw0, vw1, vw2, vw3] [] σ
set_option maxRecDepth 20000 in
theorem qM_atom_317 (v1 : Int) (vw2 vw3 : xAV) (σ : xS) : X iM_atom 317 [(2, 305), (0, v1), vw2, vw3] [] σ =
  if xin v1 500 then (if xin v1 500 then ((X iM_node 0 [(2, 305), (0, (σ.1 362 v1.toNat)), (0, (σ.1 360 v1.toNat)), (0, 0), (0, 0), (1, 0), (8, 0)] [] (xs σ 305 75 (xw ((σ.1 305 75) - 1)))).bind fun q1 => X iM_atom 347 [(2, 305), (0, v1), vw2, vw3] [q1.1, (2, 305)] q1.2)
    else none)
  else none :=
  xev_eq (E := xE1) (F := xFk) (P := xPg) (inl := [53, 54, 55, 60, 65]) (stop := [26, 36, 49, 59, 93, 99, 111, 130, 141, 146, 156, 179, 191, 200, 211, 223, 303, 308, 317, 347, 369, 414]) 22 iM_atom 317 [(2, 305), (0, v1), vw2, vw3] [] σ
set_option maxRecDepth 20000 in
theorem qM_atom_347 (t0 : Int) (vw0 vw1 vw2 vw3 : xAV) (σ : xS) : X iM_atom 347 [vw0, vw1, vw2, vw3] [(0, t0), (2, 305)] σ =
  some ((9, 0), (xs (xs σ 305 83 t0) 305 82 (xw ((σ.1 305 82) - 1)))) :=
  xev_eq (E := xE1) (F := xFk) (P := xPg) (inl := [53, 54, 55, 60, 65]) (stop := [26, 36, 49, 59, 93, 99, 111, 130, 141, 146, 156, 179, 191, 200, 211, 223, 303, 308, 317, 347, 369, 414]) 15 iM_atom 347 [vw0, vw1, vw2, vw3] [(0, t0), (2, 305)] σ
set_option maxRecDepth 20000 in
theorem qM_atom_369 (vw1 vw2 vw3 : xAV) (σ : xS) : X iM_atom 369 [(2, 305), vw1, vw2, vw3] [] σ =
  some ((9, 0), (xs (xs (xs σ 305 75 (xw ((σ.1 305 75) - 1))) 305 83 (σ.1 305 83)) 305 82 (xw ((σ.1 305 82) - 1)))) :=
  xev_eq (E := xE1) (F := xFk) (P := xPg) (inl := [53, 54, 55, 60, 65]) (stop := [26, 36, 49, 59, 93, 99, 111, 130, 141, 146, 156, 179, 191, 200, 211, 223, 303, 308, 317, 347, 369, 414]) 24 iM_atom 369 [(2, 305), vw1, vw2, vw3] [] σ
set_option maxRecDepth 20000 in
theorem qM_atom_414 (t0 : Int) (vw0 vw1 vw2 vw3 : xAV) (σ : xS) : X iM_atom 414 [vw0, vw1, vw2, vw3] [(0, t0), (2, 305)] σ =
  some ((9, 0), (xs (xs σ 305 83 t0) 305 82 (xw ((σ.1 305 82) - 1)))) :=
  xev_eq (E := xE1) (F := xFk) (P := xPg) (inl := [53, 54, 55, 60, 65]) (stop := [26, 36, 49, 59, 93, 99, 111, 130, 141, 146, 156, 179, 191, 200, 211, 223, 303, 308, 317, 347, 369, 414]) 14 iM_atom 414 [vw0, vw1, vw2, vw3] [(0, t0), (2, 305)] σ
set_option maxRecDepth 20000 in
theorem qM_cond_0 (a1 : Int) (σ : xS) : X iM_cond 0 [(2, 305), (0, a1)] [] σ =
  if xin a1 500 then (if (σ.1 359 a1.toNat) = 0 then (if xin a1 500 then ((X iM_begin 0 [(2, 305), (0, 5)] [] (xs σ 359 a1.toNat 1)).bind fun q1 => X iM_cond 21 [(2, 305), (0, a1)] [] q1.2)
      else none)
    else if xin a1 500 then (if (σ.1 360 a1.toNat) < 0 then X iM_cond 61 [(2, 305), (0, a1)] [(0, (σ.1 305 83)), (0, a1), (2, 360)] σ
      else if xin a1 500 then ((X iM_node 0 [(2, 305), (0, 16), (0, (σ.1 360 a1.toNat)), (0, (σ.1 305 83)), (0, 0), (1, 0), (8, 0)] [] σ).bind fun q2 => X iM_cond 61 [(2, 305), (0, a1)] [q2.1, (0, a1), (2, 360)] q2.2)
      else none)
    else none)
  else none :=
  xev_eq (E := xE1) (F := xFk) (P := xPg) (inl := [54, 65]) (stop := [21, 61, 76, 81]) 26 iM_cond 0 [(2, 305), (0, a1)] [] σ
set_option maxRecDepth 20000 in
theorem qM_cond_21 (vw0 vw1 : xAV) (σ : xS) : X iM_cond 21 [vw0, vw1] [] σ =
  some ((9, 0), σ) :=
  xev_eq (E := xE1) (F := xFk) (P := xPg) (inl := [54, 65]) (stop := [21, 61, 76, 81]) 3 iM_cond 21 [vw0, vw1] [] σ
set_option maxRecDepth 20000 in
theorem qM_cond_61 (v1 t0 t1 : Int) (σ : xS) : X iM_cond 61 [(2, 305), (0, v1)] [(0, t0), (0, t1), (2, 360)] σ =
  if xin t1 500 then (if (σ.1 305 71) = 1 then (if (σ.1 305 73) = 423 then ((X iM_next 0 [(2, 305), (9, 0)] [] (xs σ 360 t1.toNat t0)).bind fun q1 => X iM_cond 76 [(2, 305), (0, v1)] [] q1.2)
      else if xin v1 500 then some ((9, 0), (xs (xs (xs σ 360 t1.toNat t0) 305 83 ((xs σ 360 t1.toNat t0).1 360 v1.toNat)) 305 82 (xw ((σ.1 305 82) - 1))))
      else none)
    else if xin v1 500 then some ((9, 0), (xs (xs (xs σ 360 t1.toNat t0) 305 83 ((xs σ 360 t1.toNat t0).1 360 v1.toNat)) 305 82 (xw ((σ.1 305 82) - 1))))
    else none)
  else none :=
  xev_eq (E := xE1) (F := xFk) (P := xPg) (inl := [54, 65]) (stop := [21, 61, 76, 81]) 34 iM_cond 61 [(2, 305), (0, v1)] [(0, t0), (0, t1), (2, 360)] σ
set_option maxRecDepth 20000 in
theorem qM_cond_76 (vw1 : xAV) (σ : xS) : X iM_cond 76 [(2, 305), vw1] [] σ =
  (X iM_begin 0 [(2, 305), (0, 5)] [] σ).bind fun q1 => X iM_cond 81 [(2, 305), vw1] [] q1.2 :=
  xev_eq (E := xE1) (F := xFk) (P := xPg) (inl := [54, 65]) (stop := [21, 61, 76, 81]) 5 iM_cond 76 [(2, 305), vw1] [] σ
set_option maxRecDepth 20000 in
theorem qM_cond_81 (vw0 vw1 : xAV) (σ : xS) : X iM_cond 81 [vw0, vw1] [] σ =
  some ((9, 0), σ) :=
  xev_eq (E := xE1) (F := xFk) (P := xPg) (inl := [54, 65]) (stop := [21, 61, 76, 81]) 4 iM_cond 81 [vw0, vw1] [] σ
set_option maxRecDepth 20000 in
theorem qM_all_0 (a1 : Int) (σ : xS) : X iM_all 0 [(2, 305), (0, a1)] [] σ =
  if xin a1 500 then (if (σ.1 359 a1.toNat) = 0 then (if xin a1 500 then ((X iM_begin 0 [(2, 305), (0, 6)] [] (xs σ 359 a1.toNat 1)).bind fun q1 => X iM_all 22 [(2, 305), (0, a1)] [] q1.2)
      else none)
    else if xin a1 500 then (if (σ.1 360 a1.toNat) < 0 then X iM_all 62 [(2, 305), (0, a1)] [(0, (σ.1 305 83)), (0, a1), (2, 360)] σ
      else if xin a1 500 then ((X iM_node 0 [(2, 305), (0, 15), (0, (σ.1 360 a1.toNat)), (0, (σ.1 305 83)), (0, 0), (1, 0), (8, 0)] [] σ).bind fun q2 => X iM_all 62 [(2, 305), (0, a1)] [q2.1, (0, a1), (2, 360)] q2.2)
      else none)
    else none)
  else none :=
  xev_eq (E := xE1) (F := xFk) (P := xPg) (inl := [54, 65]) (stop := [22, 62, 77, 83]) 26 iM_all 0 [(2, 305), (0, a1)] [] σ
set_option maxRecDepth 20000 in
theorem qM_all_22 (vw0 vw1 : xAV) (σ : xS) : X iM_all 22 [vw0, vw1] [] σ =
  some ((9, 0), σ) :=
  xev_eq (E := xE1) (F := xFk) (P := xPg) (inl := [54, 65]) (stop := [22, 62, 77, 83]) 3 iM_all 22 [vw0, vw1] [] σ
set_option maxRecDepth 20000 in
theorem qM_all_62 (v1 t0 t1 : Int) (σ : xS) : X iM_all 62 [(2, 305), (0, v1)] [(0, t0), (0, t1), (2, 360)] σ =
  if xin t1 500 then (if (σ.1 305 71) = 1 then (if (σ.1 305 73) = 1111 then ((X iM_next 0 [(2, 305), (9, 0)] [] (xs σ 360 t1.toNat t0)).bind fun q1 => X iM_all 77 [(2, 305), (0, v1)] [] q1.2)
      else if xin v1 500 then some ((9, 0), (xs (xs (xs σ 360 t1.toNat t0) 305 83 ((xs σ 360 t1.toNat t0).1 360 v1.toNat)) 305 82 (xw ((σ.1 305 82) - 1))))
      else none)
    else if xin v1 500 then some ((9, 0), (xs (xs (xs σ 360 t1.toNat t0) 305 83 ((xs σ 360 t1.toNat t0).1 360 v1.toNat)) 305 82 (xw ((σ.1 305 82) - 1))))
    else none)
  else none :=
  xev_eq (E := xE1) (F := xFk) (P := xPg) (inl := [54, 65]) (stop := [22, 62, 77, 83]) 34 iM_all 62 [(2, 305), (0, v1)] [(0, t0), (0, t1), (2, 360)] σ
set_option maxRecDepth 20000 in
theorem qM_all_77 (vw1 : xAV) (σ : xS) : X iM_all 77 [(2, 305), vw1] [] σ =
  (X iM_begin 0 [(2, 305), (0, 6)] [] σ).bind fun q1 => X iM_all 83 [(2, 305), vw1] [] q1.2 :=
  xev_eq (E := xE1) (F := xFk) (P := xPg) (inl := [54, 65]) (stop := [22, 62, 77, 83]) 5 iM_all 77 [(2, 305), vw1] [] σ
set_option maxRecDepth 20000 in
theorem qM_all_83 (vw0 vw1 : xAV) (σ : xS) : X iM_all 83 [vw0, vw1] [] σ =
  some ((9, 0), σ) :=
  xev_eq (E := xE1) (F := xFk) (P := xPg) (inl := [54, 65]) (stop := [22, 62, 77, 83]) 4 iM_all 83 [vw0, vw1] [] σ
set_option maxRecDepth 20000 in
theorem qM_test_0 (a1 : Int) (σ : xS) : X iM_test 0 [(2, 305), (0, a1)] [] σ =
  if xin a1 500 then (if (σ.1 359 a1.toNat) = 0 then (if (σ.1 305 71) = 1 then (if (σ.1 305 73) = 10631 then (if (σ.1 305 75) = 10 then (if (xna 4 (σ.1 305 74)) = 0 then ((X iM_next 0 [(2, 305), (9, 0)] [] (xs (xs (xs σ 305 74 1) 305 67 (σ.1 305 70)) 305 75 (xw ((σ.1 305 75) + 1)))).bind fun q1 => X iM_test 27 [(2, 305), (0, a1)] [] q1.2)
            else (X iM_next 0 [(2, 305), (9, 0)] [] (xs σ 305 75 (xw ((σ.1 305 75) + 1)))).bind fun q2 => X iM_test 27 [(2, 305), (0, a1)] [] q2.2)
          else (X iM_next 0 [(2, 305), (9, 0)] [] (xs σ 305 75 (xw ((σ.1 305 75) + 1)))).bind fun q3 => X iM_test 27 [(2, 305), (0, a1)] [] q3.2)
        else if (σ.1 305 71) = 3 then (if (σ.1 305 72) = 91 then X iM_test 49 [(2, 305), (0, a1)] [(0, 1)] σ
          else X iM_test 49 [(2, 305), (0, a1)] [(0, 0)] σ)
        else X iM_test 49 [(2, 305), (0, a1)] [(0, 0)] σ)
      else if (σ.1 305 71) = 3 then (if (σ.1 305 72) = 91 then X iM_test 49 [(2, 305), (0, a1)] [(0, 1)] σ
        else X iM_test 49 [(2, 305), (0, a1)] [(0, 0)] σ)
      else X iM_test 49 [(2, 305), (0, a1)] [(0, 0)] σ)
    else if xin a1 500 then (if (σ.1 359 a1.toNat) = 1 then ((X iM_node 0 [(2, 305), (0, 14), (0, (σ.1 305 83)), (0, 0), (0, 0), (1, 0), (8, 0)] [] (xs σ 305 75 (xw ((σ.1 305 75) - 1)))).bind fun q4 => X iM_test 124 [(2, 305), (0, a1)] [q4.1, (2, 305)] q4.2)
      else if xin a1 500 then (if (σ.1 359 a1.toNat) = 2 then ((X iM_sign 0 [(2, 305), (0, 93)] [] σ).bind fun q5 => X iM_test 146 [(2, 305), (0, a1)] [] q5.2)
        else if xin a1 500 then (if (σ.1 359 a1.toNat) = 3 then (if xin a1 500 then (if (σ.1 305 71) = 3 then (if (σ.1 305 72) = 60 then X iM_test 198 [(2, 305), (0, a1)] [(0, 1), (0, a1), (2, 362)] (xs σ 360 a1.toNat (σ.1 305 83))
                else X iM_test 198 [(2, 305), (0, a1)] [(0, 0), (0, a1), (2, 362)] (xs σ 360 a1.toNat (σ.1 305 83)))
              else X iM_test 198 [(2, 305), (0, a1)] [(0, 0), (0, a1), (2, 362)] (xs σ 360 a1.toNat (σ.1 305 83)))
            else none)
          else if xin a1 500 then (if xin a1 500 then ((X iM_node 0 [(2, 305), (0, (σ.1 362 a1.toNat)), (0, (σ.1 360 a1.toNat)), (0, (σ.1 305 83)), (0, 0), (1, 0), (8, 0)] [] σ).bind fun q6 => X iM_test 299 [(2, 305), (0, a1)] [q6.1, (2, 305)] q6.2)
            else none)
          else none)
        else none)
      else none)
    else none)
  else none :=
  xev_eq (E := xE1) (F := xFk) (P := xPg) (inl := [53, 54, 55, 60, 65]) (stop := [27, 40, 49, 60, 72, 87, 124, 146, 198, 212, 229, 238, 247, 261, 273, 299]) 50 iM_test 0 [(2, 305), (0, a1)] [] σ
set_option maxRecDepth 20000 in
theorem qM_test_27 (v1 : Int) (σ : xS) : X iM_test 27 [(2, 305), (0, v1)] [] σ =
  if xin v1 500 then ((X iM_begin 0 [(2, 305), (0, 6)] [] (xs σ 359 v1.toNat 1)).bind fun q1 => X iM_test 40 [(2, 305), (0, v1)] [] q1.2)
  else none :=
  xev_eq (E := xE1) (F := xFk) (P := xPg) (inl := [53, 54, 55, 60, 65]) (stop := [27, 40, 49, 60, 72, 87, 124, 146, 198, 212, 229, 238, 247, 261, 273, 299]) 10 iM_test 27 [(2, 305), (0, v1)] [] σ
set_option maxRecDepth 20000 in
theorem qM_test_40 (vw0 vw1 : xAV) (σ : xS) : X iM_test 40 [vw0, vw1] [] σ =
  some ((9, 0), σ) :=
  xev_eq (E := xE1) (F := xFk) (P := xPg) (inl := [53, 54, 55, 60, 65]) (stop := [27, 40, 49, 60, 72, 87, 124, 146, 198, 212, 229, 238, 247, 261, 273, 299]) 4 iM_test 40 [vw0, vw1] [] σ
set_option maxRecDepth 20000 in
theorem qM_test_49 (v1 t0 : Int) (σ : xS) : X iM_test 49 [(2, 305), (0, v1)] [(0, t0)] σ =
  if t0 = 0 then (if xin v1 500 then ((X iM_begin 0 [(2, 305), (0, 1)] [] (xs σ 359 v1.toNat 3)).bind fun q1 => X iM_test 87 [(2, 305), (0, v1)] [] q1.2)
    else none)
  else if (σ.1 305 75) = 10 then (if (xna 4 (σ.1 305 74)) = 0 then ((X iM_next 0 [(2, 305), (9, 0)] [] (xs (xs (xs σ 305 74 1) 305 67 (σ.1 305 70)) 305 75 (xw ((σ.1 305 75) + 1)))).bind fun q2 => X iM_test 60 [(2, 305), (0, v1)] [] q2.2)
    else (X iM_next 0 [(2, 305), (9, 0)] [] (xs σ 305 75 (xw ((σ.1 305 75) + 1)))).bind fun q3 => X iM_test 60 [(2, 305), (0, v1)] [] q3.2)
  else (X iM_next 0 [(2, 305), (9, 0)] [] (xs σ 305 75 (xw ((σ.1 305 75) + 1)))).bind fun q4 => X iM_test 60 [(2, 305), (0, v1)] [] q4.2 :=
  xev_eq (E := xE1) (F := xFk) (P := xPg) (inl := [53, 54, 55, 60, 65]) (stop := [27, 40, 49, 60, 72, 87, 124, 146, 198, 212, 229, 238, 247, 261, 273, 299]) 31 iM_test 49 [(2, 305), (0, v1)] [(0, t0)] σ
set_option maxRecDepth 20000 in
theorem qM_test_60 (v1 : Int) (σ : xS) : X iM_test 60 [(2, 305), (0, v1)] [] σ =
  if xin v1 500 then ((X iM_begin 0 [(2, 305), (0, 4)] [] (xs σ 359 v1.toNat 2)).bind fun q1 => X iM_test 72 [(2, 305), (0, v1)] [] q1.2)
  else none :=
  xev_eq (E := xE1) (F := xFk) (P := xPg) (inl := [53, 54, 55, 60, 65]) (stop := [27, 40, 49, 60, 72, 87, 124, 146, 198, 212, 229, 238, 247, 261, 273, 299]) 10 iM_test 60 [(2, 305), (0, v1)] [] σ
set_option maxRecDepth 20000 in
theorem qM_test_72 (vw0 vw1 : xAV) (σ : xS) : X iM_test 72 [vw0, vw1] [] σ =
  some ((9, 0), σ) :=
  xev_eq (E := xE1) (F := xFk) (P := xPg) (inl := [53, 54, 55, 60, 65]) (stop := [27, 40, 49, 60, 72, 87, 124, 146, 198, 212, 229, 238, 247, 261, 273, 299]) 4 iM_test 72 [vw0, vw1] [] σ
set_option maxRecDepth 20000 in
theorem qM_test_87 (vw0 vw1 : xAV) (σ : xS) : X iM_test 87 [vw0, vw1] [] σ =
  some ((9, 0), σ) :=
  xev_eq (E := xE1) (F := xFk) (P := xPg) (inl := [53, 54, 55, 60, 65]) (stop := [27, 40, 49, 60, 72, 87, 124, 146, 198, 212, 229, 238, 247, 261, 273, 299]) 4 iM_test 87 [vw0, vw1] [] σ
set_option maxRecDepth 20000 in
theorem qM_test_124 (t0 : Int) (vw0 vw1 : xAV) (σ : xS) : X iM_test 124 [vw0, vw1] [(0, t0), (2, 305)] σ =
  some ((9, 0), (xs (xs σ 305 83 t0) 305 82 (xw ((σ.1 305 82) - 1)))) :=
  xev_eq (E := xE1) (F := xFk) (P := xPg) (inl := [53, 54, 55, 60, 65]) (stop := [27, 40, 49, 60, 72, 87, 124, 146, 198, 212, 229, 238, 247, 261, 273, 299]) 15 iM_test 124 [vw0, vw1] [(0, t0), (2, 305)] σ
set_option maxRecDepth 20000 in
theorem qM_test_146 (vw1 : xAV) (σ : xS) : X iM_test 146 [(2, 305), vw1] [] σ =
  some ((9, 0), (xs (xs (xs σ 305 75 (xw ((σ.1 305 75) - 1))) 305 83 (σ.1 305 83)) 305 82 (xw ((σ.1 305 82) - 1)))) :=
  xev_eq (E := xE1) (F := xFk) (P := xPg) (inl := [53, 54, 55, 60, 65]) (stop := [27, 40, 49, 60, 72, 87, 124, 146, 198, 212, 229, 238, 247, 261, 273, 299]) 24 iM_test 146 [(2, 305), vw1] [] σ
set_option maxRecDepth 20000 in
theorem qM_test_198 (v1 t0 t1 : Int) (σ : xS) : X iM_test 198 [(2, 305), (0, v1)] [(0, t0), (0, t1), (2, 362)] σ =
  if t0 = 0 then (if (σ.1 305 71) = 3 then (if (σ.1 305 72) = 62 then X iM_test 212 [(2, 305), (0, v1)] [(0, 1), (0, t1), (2, 362)] σ
      else X iM_test 212 [(2, 305), (0, v1)] [(0, 0), (0, t1), (2, 362)] σ)
    else X iM_test 212 [(2, 305), (0, v1)] [(0, 0), (0, t1), (2, 362)] σ)
  else if xin t1 500 then (if (σ.1 305 71) = 3 then (if (σ.1 305 72) = 60 then X iM_test 229 [(2, 305), (0, v1)] [(0, 1)] (xs σ 362 t1.toNat 11)
      else X iM_test 229 [(2, 305), (0, v1)] [(0, 0)] (xs σ 362 t1.toNat 11))
    else X iM_test 229 [(2, 305), (0, v1)] [(0, 0)] (xs σ 362 t1.toNat 11))
  else none :=
  xev_eq (E := xE1) (F := xFk) (P := xPg) (inl := [53, 54, 55, 60, 65]) (stop := [27, 40, 49, 60, 72, 87, 124, 146, 198, 212, 229, 238, 247, 261, 273, 299]) 20 iM_test 198 [(2, 305), (0, v1)] [(0, t0), (0, t1), (2, 362)] σ
set_option maxRecDepth 20000 in
theorem qM_test_212 (v1 t0 t1 : Int) (σ : xS) : X iM_test 212 [(2, 305), (0, v1)] [(0, t0), (0, t1), (2, 362)] σ =
  if t0 = 0 then (if xin t1 500 then (if (σ.1 305 71) = 3 then (if (σ.1 305 72) = 60 then X iM_test 229 [(2, 305), (0, v1)] [(0, 1)] (xs σ 362 t1.toNat 13)
        else X iM_test 229 [(2, 305), (0, v1)] [(0, 0)] (xs σ 362 t1.toNat 13))
      else X iM_test 229 [(2, 305), (0, v1)] [(0, 0)] (xs σ 362 t1.toNat 13))
    else none)
  else if xin t1 500 then (if (σ.1 305 71) = 3 then (if (σ.1 305 72) = 60 then X iM_test 229 [(2, 305), (0, v1)] [(0, 1)] (xs σ 362 t1.toNat 12)
      else X iM_test 229 [(2, 305), (0, v1)] [(0, 0)] (xs σ 362 t1.toNat 12))
    else X iM_test 229 [(2, 305), (0, v1)] [(0, 0)] (xs σ 362 t1.toNat 12))
  else none :=
  xev_eq (E := xE1) (F := xFk) (P := xPg) (inl := [53, 54, 55, 60, 65]) (stop := [27, 40, 49, 60, 72, 87, 124, 146, 198, 212, 229, 238, 247, 261, 273, 299]) 20 iM_test 212 [(2, 305), (0, v1)] [(0, t0), (0, t1), (2, 362)] σ
set_option maxRecDepth 20000 in
theorem qM_test_229 (v1 t0 : Int) (σ : xS) : X iM_test 229 [(2, 305), (0, v1)] [(0, t0)] σ =
  if t0 = 0 then (if (σ.1 305 71) = 3 then (if (σ.1 305 72) = 62 then X iM_test 238 [(2, 305), (0, v1)] [(0, 1)] σ
      else X iM_test 238 [(2, 305), (0, v1)] [(0, 0)] σ)
    else X iM_test 238 [(2, 305), (0, v1)] [(0, 0)] σ)
  else (X iM_next 0 [(2, 305), (9, 0)] [] σ).bind fun q1 => X iM_test 261 [(2, 305), (0, v1)] [] q1.2 :=
  xev_eq (E := xE1) (F := xFk) (P := xPg) (inl := [53, 54, 55, 60, 65]) (stop := [27, 40, 49, 60, 72, 87, 124, 146, 198, 212, 229, 238, 247, 261, 273, 299]) 17 iM_test 229 [(2, 305), (0, v1)] [(0, t0)] σ
set_option maxRecDepth 20000 in
theorem qM_test_238 (v1 t0 : Int) (σ : xS) : X iM_test 238 [(2, 305), (0, v1)] [(0, t0)] σ =
  if t0 = 0 then (if (σ.1 305 71) = 3 then (if (σ.1 305 72) = 61 then X iM_test 247 [(2, 305), (0, v1)] [(0, 1)] σ
      else X iM_test 247 [(2, 305), (0, v1)] [(0, 0)] σ)
    else X iM_test 247 [(2, 305), (0, v1)] [(0, 0)] σ)
  else (X iM_next 0 [(2, 305), (9, 0)] [] σ).bind fun q1 => X iM_test 261 [(2, 305), (0, v1)] [] q1.2 :=
  xev_eq (E := xE1) (F := xFk) (P := xPg) (inl := [53, 54, 55, 60, 65]) (stop := [27, 40, 49, 60, 72, 87, 124, 146, 198, 212, 229, 238, 247, 261, 273, 299]) 17 iM_test 238 [(2, 305), (0, v1)] [(0, t0)] σ
set_option maxRecDepth 20000 in
theorem qM_test_247 (v1 t0 : Int) (σ : xS) : X iM_test 247 [(2, 305), (0, v1)] [(0, t0)] σ =
  if t0 = 0 then (if (xna 4 (σ.1 305 74)) = 0 then X iM_test 261 [(2, 305), (0, v1)] [] (xs (xs σ 305 74 1) 305 67 (σ.1 305 70))
    else X iM_test 261 [(2, 305), (0, v1)] [] σ)
  else (X iM_next 0 [(2, 305), (9, 0)] [] σ).bind fun q1 => X iM_test 261 [(2, 305), (0, v1)] [] q1.2 :=
  xev_eq (E := xE1) (F := xFk) (P := xPg) (inl := [53, 54, 55, 60, 65]) (stop := [27, 40, 49, 60, 72, 87, 124, 146, 198, 212, 229, 238, 247, 261, 273, 299]) 17 iM_test 247 [(2, 305), (0, v1)] [(0, t0)] σ
set_option maxRecDepth 20000 in
theorem qM_test_261 (v1 : Int) (σ : xS) : X iM_test 261 [(2, 305), (0, v1)] [] σ =
  if xin v1 500 then ((X iM_begin 0 [(2, 305), (0, 1)] [] (xs σ 359 v1.toNat 4)).bind fun q1 => X iM_test 273 [(2, 305), (0, v1)] [] q1.2)
  else none :=
  xev_eq (E := xE1) (F := xFk) (P := xPg) (inl := [53, 54, 55, 60, 65]) (stop := [27, 40, 49, 60, 72, 87, 124, 146, 198, 212, 229, 238, 247, 261, 273, 299]) 10 iM_test 261 [(2, 305), (0, v1)] [] σ
set_option maxRecDepth 20000 in
theorem qM_test_273 (vw0 vw1 : xAV) (σ : xS) : X iM_test 273 [vw0, vw1] [] σ =
  some ((9, 0), σ) :=
  xev_eq (E := xE1) (F := xFk) (P := xPg) (inl := [53, 54, 55, 60, 65]) (stop := [27, 40, 49, 60, 72, 87, 124, 146, 198, 212, 229, 238, 247, 261, 273, 299]) 4 iM_test 273 [vw0, vw1] [] σ
set_option maxRecDepth 20000 in
theorem qM_test_299 (t0 : Int) (vw0 vw1 : xAV) (σ : xS) : X iM_test 299 [vw0, vw1] [(0, t0), (2, 305)] σ =
  some ((9, 0), (xs (xs σ 305 83 t0) 305 82 (xw ((σ.1 305 82) - 1)))) :=
  xev_eq (E := xE1) (F := xFk) (P := xPg) (inl := [53, 54, 55, 60, 65]) (stop := [27, 40, 49, 60, 72, 87, 124, 146, 198, 212, 229, 238, 247, 261, 273, 299]) 14 iM_test 299 [vw0, vw1] [(0, t0), (2, 305)] σ
set_option maxRecDepth 20000 in
theorem qM_tells_0 (a1 : Int) (σ : xS) : X iM_tells 0 [(2, 305), (0, a1)] [] σ =
  if xin a1 200 then (if xin a1 200 then (if xin a1 200 then (if xin a1 200 then (if (σ.1 305 71) = 1 then (if (σ.1 305 73) = 8903 then (if xin a1 200 then ((X iM_next 0 [(2, 305), (9, 0)] [] (xs (xs (xs (xs (xs σ 345 a1.toNat (-1)) 346 a1.toNat (-1)) 347 a1.toNat (-1)) 348 a1.toNat (σ.1 305 64)) 344 a1.toNat 0)).bind fun q1 => X iM_tells 52 [(2, 305), (0, a1)] [] q1.2)
              else none)
            else if (σ.1 305 71) = 1 then (if (σ.1 305 73) = 8863997 then (if xin a1 200 then ((X iM_next 0 [(2, 305), (9, 0)] [] (xs (xs (xs (xs (xs σ 345 a1.toNat (-1)) 346 a1.toNat (-1)) 347 a1.toNat (-1)) 348 a1.toNat (σ.1 305 64)) 344 a1.toNat 1)).bind fun q2 => X iM_tells 116 [(2, 305), (0, a1)] [] q2.2)
                else none)
              else if (σ.1 305 71) = 1 then (if (σ.1 305 73) = 247663 then X iM_tells 144 [(2, 305), (0, a1)] [(0, 1)] (xs (xs (xs (xs σ 345 a1.toNat (-1)) 346 a1.toNat (-1)) 347 a1.toNat (-1)) 348 a1.toNat (σ.1 305 64))
                else X iM_tells 144 [(2, 305), (0, a1)] [(0, 0)] (xs (xs (xs (xs σ 345 a1.toNat (-1)) 346 a1.toNat (-1)) 347 a1.toNat (-1)) 348 a1.toNat (σ.1 305 64)))
              else X iM_tells 144 [(2, 305), (0, a1)] [(0, 0)] (xs (xs (xs (xs σ 345 a1.toNat (-1)) 346 a1.toNat (-1)) 347 a1.toNat (-1)) 348 a1.toNat (σ.1 305 64)))
            else if (σ.1 305 71) = 1 then (if (σ.1 305 73) = 247663 then X iM_tells 144 [(2, 305), (0, a1)] [(0, 1)] (xs (xs (xs (xs σ 345 a1.toNat (-1)) 346 a1.toNat (-1)) 347 a1.toNat (-1)) 348 a1.toNat (σ.1 305 64))
              else X iM_tells 144 [(2, 305), (0, a1)] [(0, 0)] (xs (xs (xs (xs σ 345 a1.toNat (-1)) 346 a1.toNat (-1)) 347 a1.toNat (-1)) 348 a1.toNat (σ.1 305 64)))
            else X iM_tells 144 [(2, 305), (0, a1)] [(0, 0)] (xs (xs (xs (xs σ 345 a1.toNat (-1)) 346 a1.toNat (-1)) 347 a1.toNat (-1)) 348 a1.toNat (σ.1 305 64)))
          else if (σ.1 305 71) = 1 then (if (σ.1 305 73) = 8863997 then (if xin a1 200 then ((X iM_next 0 [(2, 305), (9, 0)] [] (xs (xs (xs (xs (xs σ 345 a1.toNat (-1)) 346 a1.toNat (-1)) 347 a1.toNat (-1)) 348 a1.toNat (σ.1 305 64)) 344 a1.toNat 1)).bind fun q3 => X iM_tells 116 [(2, 305), (0, a1)] [] q3.2)
              else none)
            else if (σ.1 305 71) = 1 then (if (σ.1 305 73) = 247663 then X iM_tells 144 [(2, 305), (0, a1)] [(0, 1)] (xs (xs (xs (xs σ 345 a1.toNat (-1)) 346 a1.toNat (-1)) 347 a1.toNat (-1)) 348 a1.toNat (σ.1 305 64))
              else X iM_tells 144 [(2, 305), (0, a1)] [(0, 0)] (xs (xs (xs (xs σ 345 a1.toNat (-1)) 346 a1.toNat (-1)) 347 a1.toNat (-1)) 348 a1.toNat (σ.1 305 64)))
            else X iM_tells 144 [(2, 305), (0, a1)] [(0, 0)] (xs (xs (xs (xs σ 345 a1.toNat (-1)) 346 a1.toNat (-1)) 347 a1.toNat (-1)) 348 a1.toNat (σ.1 305 64)))
          else if (σ.1 305 71) = 1 then (if (σ.1 305 73) = 247663 then X iM_tells 144 [(2, 305), (0, a1)] [(0, 1)] (xs (xs (xs (xs σ 345 a1.toNat (-1)) 346 a1.toNat (-1)) 347 a1.toNat (-1)) 348 a1.toNat (σ.1 305 64))
            else X iM_tells 144 [(2, 305), (0, a1)] [(0, 0)] (xs (xs (xs (xs σ 345 a1.toNat (-1)) 346 a1.toNat (-1)) 347 a1.toNat (-1)) 348 a1.toNat (σ.1 305 64)))
          else X iM_tells 144 [(2, 305), (0, a1)] [(0, 0)] (xs (xs (xs (xs σ 345 a1.toNat (-1)) 346 a1.toNat (-1)) 347 a1.toNat (-1)) 348 a1.toNat (σ.1 305 64)))
        else none)
      else none)
    else none)
  else none :=
  xev_eq (E := xE1) (F := xFk) (P := xPg) (inl := [53, 54]) (stop := [52, 78, 85, 116, 133, 144, 158, 184, 198, 220, 227, 237, 251, 261, 275, 284, 292, 301, 312, 326, 335, 343, 352, 363, 378, 387, 395, 404, 436, 462, 488, 512]) 65 iM_tells 0 [(2, 305), (0, a1)] [] σ
set_option maxRecDepth 20000 in
theorem qM_tells_52 (v1 : Int) (σ : xS) : X iM_tells 52 [(2, 305), (0, v1)] [] σ =
  if xin v1 200 then (if (σ.1 305 71) = 1 then ((X iM_isName 0 [(2, 305), (1, (σ.1 305 73)), (8, 0)] [] (xs σ 350 v1.toNat (σ.1 305 73))).bind fun q1 => X iM_tells 78 [(2, 305), (0, v1)] [q1.1] q1.2)
    else if (xna 4 (σ.1 305 74)) = 0 then X iM_tells 462 [(2, 305), (0, v1)] [] (xs (xs (xs σ 350 v1.toNat (σ.1 305 73)) 305 74 1) 305 67 (σ.1 305 70))
    else if (xna 4 (σ.1 305 74)) = 0 then (if xin v1 200 then (if (σ.1 344 v1.toNat) = 4 then ((X iM_word 0 [(2, 305), (1, 79), (8, 0)] [] (xs σ 350 v1.toNat (σ.1 305 73))).bind fun q2 => X iM_tells 436 [(2, 305), (0, v1)] [] q2.2)
        else if (xna 4 (σ.1 305 74)) = 0 then (if xin v1 200 then (if (σ.1 344 v1.toNat) < 4 then ((X iM_sign 0 [(2, 305), (0, 61)] [] (xs σ 350 v1.toNat (σ.1 305 73))).bind fun q3 => X iM_tells 462 [(2, 305), (0, v1)] [] q3.2)
            else X iM_tells 462 [(2, 305), (0, v1)] [] (xs σ 350 v1.toNat (σ.1 305 73)))
          else none)
        else X iM_tells 462 [(2, 305), (0, v1)] [] (xs σ 350 v1.toNat (σ.1 305 73)))
      else none)
    else if (xna 4 (σ.1 305 74)) = 0 then (if xin v1 200 then (if (σ.1 344 v1.toNat) < 4 then ((X iM_sign 0 [(2, 305), (0, 61)] [] (xs σ 350 v1.toNat (σ.1 305 73))).bind fun q4 => X iM_tells 462 [(2, 305), (0, v1)] [] q4.2)
        else X iM_tells 462 [(2, 305), (0, v1)] [] (xs σ 350 v1.toNat (σ.1 305 73)))
      else none)
    else X iM_tells 462 [(2, 305), (0, v1)] [] (xs σ 350 v1.toNat (σ.1 305 73)))
  else none :=
  xev_eq (E := xE1) (F := xFk) (P := xPg) (inl := [53, 54]) (stop := [52, 78, 85, 116, 133, 144, 158, 184, 198, 220, 227, 237, 251, 261, 275, 284, 292, 301, 312, 326, 335, 343, 352, 363, 378, 387, 395, 404, 436, 462, 488, 512]) 40 iM_tells 52 [(2, 305), (0, v1)] [] σ
set_option maxRecDepth 20000 in
theorem qM_tells_78 (v1 t0 : Int) (σ : xS) : X iM_tells 78 [(2, 305), (0, v1)] [(0, t0)] σ =
  if t0 = 0 then (if (xna 4 (σ.1 305 74)) = 0 then X iM_tells 462 [(2, 305), (0, v1)] [] (xs (xs σ 305 74 1) 305 67 (σ.1 305 70))
    else if (xna 4 (σ.1 305 74)) = 0 then (if xin v1 200 then (if (σ.1 344 v1.toNat) = 4 then ((X iM_word 0 [(2, 305), (1, 79), (8, 0)] [] σ).bind fun q1 => X iM_tells 436 [(2, 305), (0, v1)] [] q1.2)
        else if (xna 4 (σ.1 305 74)) = 0 then (if xin v1 200 then (if (σ.1 344 v1.toNat) < 4 then ((X iM_sign 0 [(2, 305), (0, 61)] [] σ).bind fun q2 => X iM_tells 462 [(2, 305), (0, v1)] [] q2.2)
            else X iM_tells 462 [(2, 305), (0, v1)] [] σ)
          else none)
        else X iM_tells 462 [(2, 305), (0, v1)] [] σ)
      else none)
    else if (xna 4 (σ.1 305 74)) = 0 then (if xin v1 200 then (if (σ.1 344 v1.toNat) < 4 then ((X iM_sign 0 [(2, 305), (0, 61)] [] σ).bind fun q3 => X iM_tells 462 [(2, 305), (0, v1)] [] q3.2)
        else X iM_tells 462 [(2, 305), (0, v1)] [] σ)
      else none)
    else X iM_tells 462 [(2, 305), (0, v1)] [] σ)
  else (X iM_next 0 [(2, 305), (9, 0)] [] σ).bind fun q4 => X iM_tells 85 [(2, 305), (0, v1)] [] q4.2 :=
  xev_eq (E := xE1) (F := xFk) (P := xPg) (inl := [53, 54]) (stop := [52, 78, 85, 116, 133, 144, 158, 184, 198, 220, 227, 237, 251, 261, 275, 284, 292, 301, 312, 326, 335, 343, 352, 363, 378, 387, 395, 404, 436, 462, 488, 512]) 31 iM_tells 78 [(2, 305), (0, v1)] [(0, t0)] σ
set_option maxRecDepth 20000 in
theorem qM_tells_85 (v1 : Int) (σ : xS) : X iM_tells 85 [(2, 305), (0, v1)] [] σ =
  if (xna 4 (σ.1 305 74)) = 0 then (if xin v1 200 then (if (σ.1 344 v1.toNat) = 4 then ((X iM_word 0 [(2, 305), (1, 79), (8, 0)] [] σ).bind fun q1 => X iM_tells 436 [(2, 305), (0, v1)] [] q1.2)
      else if (xna 4 (σ.1 305 74)) = 0 then (if xin v1 200 then (if (σ.1 344 v1.toNat) < 4 then ((X iM_sign 0 [(2, 305), (0, 61)] [] σ).bind fun q2 => X iM_tells 462 [(2, 305), (0, v1)] [] q2.2)
          else X iM_tells 462 [(2, 305), (0, v1)] [] σ)
        else none)
      else X iM_tells 462 [(2, 305), (0, v1)] [] σ)
    else none)
  else if (xna 4 (σ.1 305 74)) = 0 then (if xin v1 200 then (if (σ.1 344 v1.toNat) < 4 then ((X iM_sign 0 [(2, 305), (0, 61)] [] σ).bind fun q3 => X iM_tells 462 [(2, 305), (0, v1)] [] q3.2)
      else X iM_tells 462 [(2, 305), (0, v1)] [] σ)
    else none)
  else X iM_tells 462 [(2, 305), (0, v1)] [] σ :=
  xev_eq (E := xE1) (F := xFk) (P := xPg) (inl := [53, 54]) (stop := [52, 78, 85, 116, 133, 144, 158, 184, 198, 220, 227, 237, 251, 261, 275, 284, 292, 301, 312, 326, 335, 343, 352, 363, 378, 387, 395, 404, 436, 462, 488, 512]) 24 iM_tells 85 [(2, 305), (0, v1)] [] σ
set_option maxRecDepth 20000 in
theorem qM_tells_116 (v1 : Int) (σ : xS) : X iM_tells 116 [(2, 305), (0, v1)] [] σ =
  if (σ.1 305 71) = 2 then ((X iM_number 0 [(2, 305), (9, 0)] [] σ).bind fun q1 => X iM_tells 133 [(2, 305), (0, v1)] [q1.1, (0, v1), (2, 345)] q1.2)
  else if (xna 4 (σ.1 305 74)) = 0 then (if xin v1 200 then (if (σ.1 344 v1.toNat) = 4 then ((X iM_word 0 [(2, 305), (1, 79), (8, 0)] [] σ).bind fun q2 => X iM_tells 436 [(2, 305), (0, v1)] [] q2.2)
      else if (xna 4 (σ.1 305 74)) = 0 then (if xin v1 200 then (if (σ.1 344 v1.toNat) < 4 then ((X iM_sign 0 [(2, 305), (0, 61)] [] σ).bind fun q3 => X iM_tells 462 [(2, 305), (0, v1)] [] q3.2)
          else X iM_tells 462 [(2, 305), (0, v1)] [] σ)
        else none)
      else X iM_tells 462 [(2, 305), (0, v1)] [] σ)
    else none)
  else if (xna 4 (σ.1 305 74)) = 0 then (if xin v1 200 then (if (σ.1 344 v1.toNat) < 4 then ((X iM_sign 0 [(2, 305), (0, 61)] [] σ).bind fun q4 => X iM_tells 462 [(2, 305), (0, v1)] [] q4.2)
      else X iM_tells 462 [(2, 305), (0, v1)] [] σ)
    else none)
  else X iM_tells 462 [(2, 305), (0, v1)] [] σ :=
  xev_eq (E := xE1) (F := xFk) (P := xPg) (inl := [53, 54]) (stop := [52, 78, 85, 116, 133, 144, 158, 184, 198, 220, 227, 237, 251, 261, 275, 284, 292, 301, 312, 326, 335, 343, 352, 363, 378, 387, 395, 404, 436, 462, 488, 512]) 27 iM_tells 116 [(2, 305), (0, v1)] [] σ
set_option maxRecDepth 20000 in
theorem qM_tells_133 (v1 t0 t1 : Int) (σ : xS) : X iM_tells 133 [(2, 305), (0, v1)] [(0, t0), (0, t1), (2, 345)] σ =
  if xin t1 200 then (if (xna 4 (σ.1 305 74)) = 0 then (if xin v1 200 then (if (σ.1 344 v1.toNat) = 4 then ((X iM_word 0 [(2, 305), (1, 79), (8, 0)] [] (xs σ 345 t1.toNat t0)).bind fun q1 => X iM_tells 436 [(2, 305), (0, v1)] [] q1.2)
        else if (xna 4 (σ.1 305 74)) = 0 then (if xin v1 200 then (if (σ.1 344 v1.toNat) < 4 then ((X iM_sign 0 [(2, 305), (0, 61)] [] (xs σ 345 t1.toNat t0)).bind fun q2 => X iM_tells 462 [(2, 305), (0, v1)] [] q2.2)
            else X iM_tells 462 [(2, 305), (0, v1)] [] (xs σ 345 t1.toNat t0))
          else none)
        else X iM_tells 462 [(2, 305), (0, v1)] [] (xs σ 345 t1.toNat t0))
      else none)
    else if (xna 4 (σ.1 305 74)) = 0 then (if xin v1 200 then (if (σ.1 344 v1.toNat) < 4 then ((X iM_sign 0 [(2, 305), (0, 61)] [] (xs σ 345 t1.toNat t0)).bind fun q3 => X iM_tells 462 [(2, 305), (0, v1)] [] q3.2)
        else X iM_tells 462 [(2, 305), (0, v1)] [] (xs σ 345 t1.toNat t0))
      else none)
    else X iM_tells 462 [(2, 305), (0, v1)] [] (xs σ 345 t1.toNat t0))
  else none :=
  xev_eq (E := xE1) (F := xFk) (P := xPg) (inl := [53, 54]) (stop := [52, 78, 85, 116, 133, 144, 158, 184, 198, 220, 227, 237, 251, 261, 275, 284, 292, 301, 312, 326, 335, 343, 352, 363, 378, 387, 395, 404, 436, 462, 488, 512]) 25 iM_tells 133 [(2, 305), (0, v1)] [(0, t0), (0, t1), (2, 345)] σ
set_option maxRecDepth 20000 in
theorem qM_tells_144 (v1 t0 : Int) (σ : xS) : X iM_tells 144 [(2, 305), (0, v1)] [(0, t0)] σ =
  if t0 = 0 then (if (σ.1 305 71) = 1 then (if (σ.1 305 73) = 261338243 then X iM_tells 237 [(2, 305), (0, v1)] [(0, 1)] σ
      else X iM_tells 237 [(2, 305), (0, v1)] [(0, 0)] σ)
    else X iM_tells 237 [(2, 305), (0, v1)] [(0, 0)] σ)
  else if xin v1 200 then ((X iM_next 0 [(2, 305), (9, 0)] [] (xs σ 344 v1.toNat 2)).bind fun q1 => X iM_tells 158 [(2, 305), (0, v1)] [] q1.2)
  else none :=
  xev_eq (E := xE1) (F := xFk) (P := xPg) (inl := [53, 54]) (stop := [52, 78, 85, 116, 133, 144, 158, 184, 198, 220, 227, 237, 251, 261, 275, 284, 292, 301, 312, 326, 335, 343, 352, 363, 378, 387, 395, 404, 436, 462, 488, 512]) 17 iM_tells 144 [(2, 305), (0, v1)] [(0, t0)] σ
set_option maxRecDepth 20000 in
theorem qM_tells_158 (v1 : Int) (σ : xS) : X iM_tells 158 [(2, 305), (0, v1)] [] σ =
  if (σ.1 305 71) = 1 then (if (σ.1 305 73) = 4562600 then (if xin v1 200 then (if xin v1 200 then (if ((xs σ 345 v1.toNat 0).1 345 v1.toNat) < 0 then (if (xna 4 (σ.1 305 74)) = 0 then X iM_tells 227 [(2, 305), (0, v1)] [] (xs (xs (xs σ 345 v1.toNat 0) 305 74 1) 305 67 (σ.1 305 70))
            else X iM_tells 227 [(2, 305), (0, v1)] [] (xs σ 345 v1.toNat 0))
          else (X iM_next 0 [(2, 305), (9, 0)] [] (xs σ 345 v1.toNat 0)).bind fun q1 => X iM_tells 220 [(2, 305), (0, v1)] [] q1.2)
        else none)
      else none)
    else if (σ.1 305 71) = 1 then (if (σ.1 305 73) = 12531826 then X iM_tells 184 [(2, 305), (0, v1)] [(0, 1), (0, v1), (2, 345)] σ
      else X iM_tells 184 [(2, 305), (0, v1)] [(0, 0), (0, v1), (2, 345)] σ)
    else X iM_tells 184 [(2, 305), (0, v1)] [(0, 0), (0, v1), (2, 345)] σ)
  else if (σ.1 305 71) = 1 then (if (σ.1 305 73) = 12531826 then X iM_tells 184 [(2, 305), (0, v1)] [(0, 1), (0, v1), (2, 345)] σ
    else X iM_tells 184 [(2, 305), (0, v1)] [(0, 0), (0, v1), (2, 345)] σ)
  else X iM_tells 184 [(2, 305), (0, v1)] [(0, 0), (0, v1), (2, 345)] σ :=
  xev_eq (E := xE1) (F := xFk) (P := xPg) (inl := [53, 54]) (stop := [52, 78, 85, 116, 133, 144, 158, 184, 198, 220, 227, 237, 251, 261, 275, 284, 292, 301, 312, 326, 335, 343, 352, 363, 378, 387, 395, 404, 436, 462, 488, 512]) 41 iM_tells 158 [(2, 305), (0, v1)] [] σ
set_option maxRecDepth 20000 in
theorem qM_tells_184 (v1 t0 t1 : Int) (σ : xS) : X iM_tells 184 [(2, 305), (0, v1)] [(0, t0), (0, t1), (2, 345)] σ =
  if t0 = 0 then (if (σ.1 305 71) = 1 then (if (σ.1 305 73) = 326280 then X iM_tells 198 [(2, 305), (0, v1)] [(0, 1), (0, t1), (2, 345)] σ
      else X iM_tells 198 [(2, 305), (0, v1)] [(0, 0), (0, t1), (2, 345)] σ)
    else X iM_tells 198 [(2, 305), (0, v1)] [(0, 0), (0, t1), (2, 345)] σ)
  else if xin t1 200 then (if xin v1 200 then (if ((xs σ 345 t1.toNat 1).1 345 v1.toNat) < 0 then (if (xna 4 (σ.1 305 74)) = 0 then X iM_tells 227 [(2, 305), (0, v1)] [] (xs (xs (xs σ 345 t1.toNat 1) 305 74 1) 305 67 (σ.1 305 70))
        else X iM_tells 227 [(2, 305), (0, v1)] [] (xs σ 345 t1.toNat 1))
      else (X iM_next 0 [(2, 305), (9, 0)] [] (xs σ 345 t1.toNat 1)).bind fun q1 => X iM_tells 220 [(2, 305), (0, v1)] [] q1.2)
    else none)
  else none :=
  xev_eq (E := xE1) (F := xFk) (P := xPg) (inl := [53, 54]) (stop := [52, 78, 85, 116, 133, 144, 158, 184, 198, 220, 227, 237, 251, 261, 275, 284, 292, 301, 312, 326, 335, 343, 352, 363, 378, 387, 395, 404, 436, 462, 488, 512]) 24 iM_tells 184 [(2, 305), (0, v1)] [(0, t0), (0, t1), (2, 345)] σ
set_option maxRecDepth 20000 in
theorem qM_tells_198 (v1 t0 t1 : Int) (σ : xS) : X iM_tells 198 [(2, 305), (0, v1)] [(0, t0), (0, t1), (2, 345)] σ =
  if t0 = 0 then (if xin t1 200 then (if xin v1 200 then (if ((xs σ 345 t1.toNat (-1)).1 345 v1.toNat) < 0 then (if (xna 4 (σ.1 305 74)) = 0 then X iM_tells 227 [(2, 305), (0, v1)] [] (xs (xs (xs σ 345 t1.toNat (-1)) 305 74 1) 305 67 (σ.1 305 70))
          else X iM_tells 227 [(2, 305), (0, v1)] [] (xs σ 345 t1.toNat (-1)))
        else (X iM_next 0 [(2, 305), (9, 0)] [] (xs σ 345 t1.toNat (-1))).bind fun q1 => X iM_tells 220 [(2, 305), (0, v1)] [] q1.2)
      else none)
    else none)
  else if xin t1 200 then (if xin v1 200 then (if ((xs σ 345 t1.toNat 2).1 345 v1.toNat) < 0 then (if (xna 4 (σ.1 305 74)) = 0 then X iM_tells 227 [(2, 305), (0, v1)] [] (xs (xs (xs σ 345 t1.toNat 2) 305 74 1) 305 67 (σ.1 305 70))
        else X iM_tells 227 [(2, 305), (0, v1)] [] (xs σ 345 t1.toNat 2))
      else (X iM_next 0 [(2, 305), (9, 0)] [] (xs σ 345 t1.toNat 2)).bind fun q2 => X iM_tells 220 [(2, 305), (0, v1)] [] q2.2)
    else none)
  else none :=
  xev_eq (E := xE1) (F := xFk) (P := xPg) (inl := [53, 54]) (stop := [52, 78, 85, 116, 133, 144, 158, 184, 198, 220, 227, 237, 251, 261, 275, 284, 292, 301, 312, 326, 335, 343, 352, 363, 378, 387, 395, 404, 436, 462, 488, 512]) 24 iM_tells 198 [(2, 305), (0, v1)] [(0, t0), (0, t1), (2, 345)] σ
set_option maxRecDepth 20000 in
theorem qM_tells_220 (v1 : Int) (σ : xS) : X iM_tells 220 [(2, 305), (0, v1)] [] σ =
  if (xna 4 (σ.1 305 74)) = 0 then (if xin v1 200 then (if (σ.1 344 v1.toNat) = 4 then ((X iM_word 0 [(2, 305), (1, 79), (8, 0)] [] σ).bind fun q1 => X iM_tells 436 [(2, 305), (0, v1)] [] q1.2)
      else if (xna 4 (σ.1 305 74)) = 0 then (if xin v1 200 then (if (σ.1 344 v1.toNat) < 4 then ((X iM_sign 0 [(2, 305), (0, 61)] [] σ).bind fun q2 => X iM_tells 462 [(2, 305), (0, v1)] [] q2.2)
          else X iM_tells 462 [(2, 305), (0, v1)] [] σ)
        else none)
      else X iM_tells 462 [(2, 305), (0, v1)] [] σ)
    else none)
  else if (xna 4 (σ.1 305 74)) = 0 then (if xin v1 200 then (if (σ.1 344 v1.toNat) < 4 then ((X iM_sign 0 [(2, 305), (0, 61)] [] σ).bind fun q3 => X iM_tells 462 [(2, 305), (0, v1)] [] q3.2)
      else X iM_tells 462 [(2, 305), (0, v1)] [] σ)
    else none)
  else X iM_tells 462 [(2, 305), (0, v1)] [] σ :=
  xev_eq (E := xE1) (F := xFk) (P := xPg) (inl := [53, 54]) (stop := [52, 78, 85, 116, 133, 144, 158, 184, 198, 220, 227, 237, 251, 261, 275, 284, 292, 301, 312, 326, 335, 343, 352, 363, 378, 387, 395, 404, 436, 462, 488, 512]) 24 iM_tells 220 [(2, 305), (0, v1)] [] σ
set_option maxRecDepth 20000 in
theorem qM_tells_227 (v1 : Int) (σ : xS) : X iM_tells 227 [(2, 305), (0, v1)] [] σ =
  if (xna 4 (σ.1 305 74)) = 0 then (if xin v1 200 then (if (σ.1 344 v1.toNat) = 4 then ((X iM_word 0 [(2, 305), (1, 79), (8, 0)] [] σ).bind fun q1 => X iM_tells 436 [(2, 305), (0, v1)] [] q1.2)
      else if (xna 4 (σ.1 305 74)) = 0 then (if xin v1 200 then (if (σ.1 344 v1.toNat) < 4 then ((X iM_sign 0 [(2, 305), (0, 61)] [] σ).bind fun q2 => X iM_tells 462 [(2, 305), (0, v1)] [] q2.2)
          else X iM_tells 462 [(2, 305), (0, v1)] [] σ)
        else none)
      else X iM_tells 462 [(2, 305), (0, v1)] [] σ)
    else none)
  else if (xna 4 (σ.1 305 74)) = 0 then (if xin v1 200 then (if (σ.1 344 v1.toNat) < 4 then ((X iM_sign 0 [(2, 305), (0, 61)] [] σ).bind fun q3 => X iM_tells 462 [(2, 305), (0, v1)] [] q3.2)
      else X iM_tells 462 [(2, 305), (0, v1)] [] σ)
    else none)
  else X iM_tells 462 [(2, 305), (0, v1)] [] σ :=
  xev_eq (E := xE1) (F := xFk) (P := xPg) (inl := [53, 54]) (stop := [52, 78, 85, 116, 133, 144, 158, 184, 198, 220, 227, 237, 251, 261, 275, 284, 292, 301, 312, 326, 335, 343, 352, 363, 378, 387, 395, 404, 436, 462, 488, 512]) 24 iM_tells 227 [(2, 305), (0, v1)] [] σ
set_option maxRecDepth 20000 in
theorem qM_tells_237 (v1 t0 : Int) (σ : xS) : X iM_tells 237 [(2, 305), (0, v1)] [(0, t0)] σ =
  if t0 = 0 then (if (σ.1 305 71) = 1 then (if (σ.1 305 73) = 3288323 then X iM_tells 261 [(2, 305), (0, v1)] [(0, 1)] σ
      else X iM_tells 261 [(2, 305), (0, v1)] [(0, 0)] σ)
    else X iM_tells 261 [(2, 305), (0, v1)] [(0, 0)] σ)
  else if xin v1 200 then ((X iM_next 0 [(2, 305), (9, 0)] [] (xs σ 344 v1.toNat 3)).bind fun q1 => X iM_tells 251 [(2, 305), (0, v1)] [] q1.2)
  else none :=
  xev_eq (E := xE1) (F := xFk) (P := xPg) (inl := [53, 54]) (stop := [52, 78, 85, 116, 133, 144, 158, 184, 198, 220, 227, 237, 251, 261, 275, 284, 292, 301, 312, 326, 335, 343, 352, 363, 378, 387, 395, 404, 436, 462, 488, 512]) 17 iM_tells 237 [(2, 305), (0, v1)] [(0, t0)] σ
set_option maxRecDepth 20000 in
theorem qM_tells_251 (v1 : Int) (σ : xS) : X iM_tells 251 [(2, 305), (0, v1)] [] σ =
  if (xna 4 (σ.1 305 74)) = 0 then (if xin v1 200 then (if (σ.1 344 v1.toNat) = 4 then ((X iM_word 0 [(2, 305), (1, 79), (8, 0)] [] σ).bind fun q1 => X iM_tells 436 [(2, 305), (0, v1)] [] q1.2)
      else if (xna 4 (σ.1 305 74)) = 0 then (if xin v1 200 then (if (σ.1 344 v1.toNat) < 4 then ((X iM_sign 0 [(2, 305), (0, 61)] [] σ).bind fun q2 => X iM_tells 462 [(2, 305), (0, v1)] [] q2.2)
          else X iM_tells 462 [(2, 305), (0, v1)] [] σ)
        else none)
      else X iM_tells 462 [(2, 305), (0, v1)] [] σ)
    else none)
  else if (xna 4 (σ.1 305 74)) = 0 then (if xin v1 200 then (if (σ.1 344 v1.toNat) < 4 then ((X iM_sign 0 [(2, 305), (0, 61)] [] σ).bind fun q3 => X iM_tells 462 [(2, 305), (0, v1)] [] q3.2)
      else X iM_tells 462 [(2, 305), (0, v1)] [] σ)
    else none)
  else X iM_tells 462 [(2, 305), (0, v1)] [] σ :=
  xev_eq (E := xE1) (F := xFk) (P := xPg) (inl := [53, 54]) (stop := [52, 78, 85, 116, 133, 144, 158, 184, 198, 220, 227, 237, 251, 261, 275, 284, 292, 301, 312, 326, 335, 343, 352, 363, 378, 387, 395, 404, 436, 462, 488, 512]) 24 iM_tells 251 [(2, 305), (0, v1)] [] σ
set_option maxRecDepth 20000 in
theorem qM_tells_261 (v1 t0 : Int) (σ : xS) : X iM_tells 261 [(2, 305), (0, v1)] [(0, t0)] σ =
  if t0 = 0 then (if (σ.1 305 71) = 1 then (if (σ.1 305 73) = 9744 then X iM_tells 312 [(2, 305), (0, v1)] [(0, 1)] σ
      else X iM_tells 312 [(2, 305), (0, v1)] [(0, 0)] σ)
    else X iM_tells 312 [(2, 305), (0, v1)] [(0, 0)] σ)
  else if xin v1 200 then ((X iM_next 0 [(2, 305), (9, 0)] [] (xs σ 344 v1.toNat 4)).bind fun q1 => X iM_tells 275 [(2, 305), (0, v1)] [] q1.2)
  else none :=
  xev_eq (E := xE1) (F := xFk) (P := xPg) (inl := [53, 54]) (stop := [52, 78, 85, 116, 133, 144, 158, 184, 198, 220, 227, 237, 251, 261, 275, 284, 292, 301, 312, 326, 335, 343, 352, 363, 378, 387, 395, 404, 436, 462, 488, 512]) 17 iM_tells 261 [(2, 305), (0, v1)] [(0, t0)] σ
set_option maxRecDepth 20000 in
theorem qM_tells_275 (v1 : Int) (σ : xS) : X iM_tells 275 [(2, 305), (0, v1)] [] σ =
  (X iM_number 0 [(2, 305), (9, 0)] [] σ).bind fun q1 => X iM_tells 284 [(2, 305), (0, v1)] [q1.1, (0, v1), (2, 345)] q1.2 :=
  xev_eq (E := xE1) (F := xFk) (P := xPg) (inl := [53, 54]) (stop := [52, 78, 85, 116, 133, 144, 158, 184, 198, 220, 227, 237, 251, 261, 275, 284, 292, 301, 312, 326, 335, 343, 352, 363, 378, 387, 395, 404, 436, 462, 488, 512]) 7 iM_tells 275 [(2, 305), (0, v1)] [] σ
set_option maxRecDepth 20000 in
theorem qM_tells_284 (v1 t0 t1 : Int) (σ : xS) : X iM_tells 284 [(2, 305), (0, v1)] [(0, t0), (0, t1), (2, 345)] σ =
  if xin t1 200 then ((X iM_word 0 [(2, 305), (1, 555), (8, 0)] [] (xs σ 345 t1.toNat t0)).bind fun q1 => X iM_tells 292 [(2, 305), (0, v1)] [] q1.2)
  else none :=
  xev_eq (E := xE1) (F := xFk) (P := xPg) (inl := [53, 54]) (stop := [52, 78, 85, 116, 133, 144, 158, 184, 198, 220, 227, 237, 251, 261, 275, 284, 292, 301, 312, 326, 335, 343, 352, 363, 378, 387, 395, 404, 436, 462, 488, 512]) 6 iM_tells 284 [(2, 305), (0, v1)] [(0, t0), (0, t1), (2, 345)] σ
set_option maxRecDepth 20000 in
theorem qM_tells_292 (v1 : Int) (σ : xS) : X iM_tells 292 [(2, 305), (0, v1)] [] σ =
  (X iM_number 0 [(2, 305), (9, 0)] [] σ).bind fun q1 => X iM_tells 301 [(2, 305), (0, v1)] [q1.1, (0, v1), (2, 346)] q1.2 :=
  xev_eq (E := xE1) (F := xFk) (P := xPg) (inl := [53, 54]) (stop := [52, 78, 85, 116, 133, 144, 158, 184, 198, 220, 227, 237, 251, 261, 275, 284, 292, 301, 312, 326, 335, 343, 352, 363, 378, 387, 395, 404, 436, 462, 488, 512]) 7 iM_tells 292 [(2, 305), (0, v1)] [] σ
set_option maxRecDepth 20000 in
theorem qM_tells_301 (v1 t0 t1 : Int) (σ : xS) : X iM_tells 301 [(2, 305), (0, v1)] [(0, t0), (0, t1), (2, 346)] σ =
  if xin t1 200 then (if (xna 4 (σ.1 305 74)) = 0 then (if xin v1 200 then (if (σ.1 344 v1.toNat) = 4 then ((X iM_word 0 [(2, 305), (1, 79), (8, 0)] [] (xs σ 346 t1.toNat t0)).bind fun q1 => X iM_tells 436 [(2, 305), (0, v1)] [] q1.2)
        else if (xna 4 (σ.1 305 74)) = 0 then (if xin v1 200 then (if (σ.1 344 v1.toNat) < 4 then ((X iM_sign 0 [(2, 305), (0, 61)] [] (xs σ 346 t1.toNat t0)).bind fun q2 => X iM_tells 462 [(2, 305), (0, v1)] [] q2.2)
            else X iM_tells 462 [(2, 305), (0, v1)] [] (xs σ 346 t1.toNat t0))
          else none)
        else X iM_tells 462 [(2, 305), (0, v1)] [] (xs σ 346 t1.toNat t0))
      else none)
    else if (xna 4 (σ.1 305 74)) = 0 then (if xin v1 200 then (if (σ.1 344 v1.toNat) < 4 then ((X iM_sign 0 [(2, 305), (0, 61)] [] (xs σ 346 t1.toNat t0)).bind fun q3 => X iM_tells 462 [(2, 305), (0, v1)] [] q3.2)
        else X iM_tells 462 [(2, 305), (0, v1)] [] (xs σ 346 t1.toNat t0))
      else none)
    else X iM_tells 462 [(2, 305), (0, v1)] [] (xs σ 346 t1.toNat t0))
  else none :=
  xev_eq (E := xE1) (F := xFk) (P := xPg) (inl := [53, 54]) (stop := [52, 78, 85, 116, 133, 144, 158, 184, 198, 220, 227, 237, 251, 261, 275, 284, 292, 301, 312, 326, 335, 343, 352, 363, 378, 387, 395, 404, 436, 462, 488, 512]) 25 iM_tells 301 [(2, 305), (0, v1)] [(0, t0), (0, t1), (2, 346)] σ
set_option maxRecDepth 20000 in
theorem qM_tells_312 (v1 t0 : Int) (σ : xS) : X iM_tells 312 [(2, 305), (0, v1)] [(0, t0)] σ =
  if t0 = 0 then (if (σ.1 305 71) = 1 then (if (σ.1 305 73) = 161156 then X iM_tells 363 [(2, 305), (0, v1)] [(0, 1)] σ
      else X iM_tells 363 [(2, 305), (0, v1)] [(0, 0)] σ)
    else X iM_tells 363 [(2, 305), (0, v1)] [(0, 0)] σ)
  else if xin v1 200 then ((X iM_next 0 [(2, 305), (9, 0)] [] (xs σ 344 v1.toNat 5)).bind fun q1 => X iM_tells 326 [(2, 305), (0, v1)] [] q1.2)
  else none :=
  xev_eq (E := xE1) (F := xFk) (P := xPg) (inl := [53, 54]) (stop := [52, 78, 85, 116, 133, 144, 158, 184, 198, 220, 227, 237, 251, 261, 275, 284, 292, 301, 312, 326, 335, 343, 352, 363, 378, 387, 395, 404, 436, 462, 488, 512]) 17 iM_tells 312 [(2, 305), (0, v1)] [(0, t0)] σ
set_option maxRecDepth 20000 in
theorem qM_tells_326 (v1 : Int) (σ : xS) : X iM_tells 326 [(2, 305), (0, v1)] [] σ =
  (X iM_number 0 [(2, 305), (9, 0)] [] σ).bind fun q1 => X iM_tells 335 [(2, 305), (0, v1)] [q1.1, (0, v1), (2, 345)] q1.2 :=
  xev_eq (E := xE1) (F := xFk) (P := xPg) (inl := [53, 54]) (stop := [52, 78, 85, 116, 133, 144, 158, 184, 198, 220, 227, 237, 251, 261, 275, 284, 292, 301, 312, 326, 335, 343, 352, 363, 378, 387, 395, 404, 436, 462, 488, 512]) 7 iM_tells 326 [(2, 305), (0, v1)] [] σ
set_option maxRecDepth 20000 in
theorem qM_tells_335 (v1 t0 t1 : Int) (σ : xS) : X iM_tells 335 [(2, 305), (0, v1)] [(0, t0), (0, t1), (2, 345)] σ =
  if xin t1 200 then ((X iM_word 0 [(2, 305), (1, 459818), (8, 0)] [] (xs σ 345 t1.toNat t0)).bind fun q1 => X iM_tells 343 [(2, 305), (0, v1)] [] q1.2)
  else none :=
  xev_eq (E := xE1) (F := xFk) (P := xPg) (inl := [53, 54]) (stop := [52, 78, 85, 116, 133, 144, 158, 184, 198, 220, 227, 237, 251, 261, 275, 284, 292, 301, 312, 326, 335, 343, 352, 363, 378, 387, 395, 404, 436, 462, 488, 512]) 6 iM_tells 335 [(2, 305), (0, v1)] [(0, t0), (0, t1), (2, 345)] σ
set_option maxRecDepth 20000 in
theorem qM_tells_343 (v1 : Int) (σ : xS) : X iM_tells 343 [(2, 305), (0, v1)] [] σ =
  (X iM_number 0 [(2, 305), (9, 0)] [] σ).bind fun q1 => X iM_tells 352 [(2, 305), (0, v1)] [q1.1, (0, v1), (2, 346)] q1.2 :=
  xev_eq (E := xE1) (F := xFk) (P := xPg) (inl := [53, 54]) (stop := [52, 78, 85, 116, 133, 144, 158, 184, 198, 220, 227, 237, 251, 261, 275, 284, 292, 301, 312, 326, 335, 343, 352, 363, 378, 387, 395, 404, 436, 462, 488, 512]) 7 iM_tells 343 [(2, 305), (0, v1)] [] σ
set_option maxRecDepth 20000 in
theorem qM_tells_352 (v1 t0 t1 : Int) (σ : xS) : X iM_tells 352 [(2, 305), (0, v1)] [(0, t0), (0, t1), (2, 346)] σ =
  if xin t1 200 then (if (xna 4 (σ.1 305 74)) = 0 then (if xin v1 200 then (if (σ.1 344 v1.toNat) = 4 then ((X iM_word 0 [(2, 305), (1, 79), (8, 0)] [] (xs σ 346 t1.toNat t0)).bind fun q1 => X iM_tells 436 [(2, 305), (0, v1)] [] q1.2)
        else if (xna 4 (σ.1 305 74)) = 0 then (if xin v1 200 then (if (σ.1 344 v1.toNat) < 4 then ((X iM_sign 0 [(2, 305), (0, 61)] [] (xs σ 346 t1.toNat t0)).bind fun q2 => X iM_tells 462 [(2, 305), (0, v1)] [] q2.2)
            else X iM_tells 462 [(2, 305), (0, v1)] [] (xs σ 346 t1.toNat t0))
          else none)
        else X iM_tells 462 [(2, 305), (0, v1)] [] (xs σ 346 t1.toNat t0))
      else none)
    else if (xna 4 (σ.1 305 74)) = 0 then (if xin v1 200 then (if (σ.1 344 v1.toNat) < 4 then ((X iM_sign 0 [(2, 305), (0, 61)] [] (xs σ 346 t1.toNat t0)).bind fun q3 => X iM_tells 462 [(2, 305), (0, v1)] [] q3.2)
        else X iM_tells 462 [(2, 305), (0, v1)] [] (xs σ 346 t1.toNat t0))
      else none)
    else X iM_tells 462 [(2, 305), (0, v1)] [] (xs σ 346 t1.toNat t0))
  else none :=
  xev_eq (E := xE1) (F := xFk) (P := xPg) (inl := [53, 54]) (stop := [52, 78, 85, 116, 133, 144, 158, 184, 198, 220, 227, 237, 251, 261, 275, 284, 292, 301, 312, 326, 335, 343, 352, 363, 378, 387, 395, 404, 436, 462, 488, 512]) 25 iM_tells 352 [(2, 305), (0, v1)] [(0, t0), (0, t1), (2, 346)] σ
set_option maxRecDepth 20000 in
theorem qM_tells_363 (v1 t0 : Int) (σ : xS) : X iM_tells 363 [(2, 305), (0, v1)] [(0, t0)] σ =
  if t0 = 0 then (if (xna 4 (σ.1 305 74)) = 0 then X iM_tells 462 [(2, 305), (0, v1)] [] (xs (xs σ 305 74 1) 305 67 (σ.1 305 70))
    else if (xna 4 (σ.1 305 74)) = 0 then (if xin v1 200 then (if (σ.1 344 v1.toNat) = 4 then ((X iM_word 0 [(2, 305), (1, 79), (8, 0)] [] σ).bind fun q1 => X iM_tells 436 [(2, 305), (0, v1)] [] q1.2)
        else if (xna 4 (σ.1 305 74)) = 0 then (if xin v1 200 then (if (σ.1 344 v1.toNat) < 4 then ((X iM_sign 0 [(2, 305), (0, 61)] [] σ).bind fun q2 => X iM_tells 462 [(2, 305), (0, v1)] [] q2.2)
            else X iM_tells 462 [(2, 305), (0, v1)] [] σ)
          else none)
        else X iM_tells 462 [(2, 305), (0, v1)] [] σ)
      else none)
    else if (xna 4 (σ.1 305 74)) = 0 then (if xin v1 200 then (if (σ.1 344 v1.toNat) < 4 then ((X iM_sign 0 [(2, 305), (0, 61)] [] σ).bind fun q3 => X iM_tells 462 [(2, 305), (0, v1)] [] q3.2)
        else X iM_tells 462 [(2, 305), (0, v1)] [] σ)
      else none)
    else X iM_tells 462 [(2, 305), (0, v1)] [] σ)
  else if xin v1 200 then ((X iM_next 0 [(2, 305), (9, 0)] [] (xs σ 344 v1.toNat 6)).bind fun q4 => X iM_tells 378 [(2, 305), (0, v1)] [] q4.2)
  else none :=
  xev_eq (E := xE1) (F := xFk) (P := xPg) (inl := [53, 54]) (stop := [52, 78, 85, 116, 133, 144, 158, 184, 198, 220, 227, 237, 251, 261, 275, 284, 292, 301, 312, 326, 335, 343, 352, 363, 378, 387, 395, 404, 436, 462, 488, 512]) 30 iM_tells 363 [(2, 305), (0, v1)] [(0, t0)] σ
set_option maxRecDepth 20000 in
theorem qM_tells_378 (v1 : Int) (σ : xS) : X iM_tells 378 [(2, 305), (0, v1)] [] σ =
  (X iM_number 0 [(2, 305), (9, 0)] [] σ).bind fun q1 => X iM_tells 387 [(2, 305), (0, v1)] [q1.1, (0, v1), (2, 345)] q1.2 :=
  xev_eq (E := xE1) (F := xFk) (P := xPg) (inl := [53, 54]) (stop := [52, 78, 85, 116, 133, 144, 158, 184, 198, 220, 227, 237, 251, 261, 275, 284, 292, 301, 312, 326, 335, 343, 352, 363, 378, 387, 395, 404, 436, 462, 488, 512]) 7 iM_tells 378 [(2, 305), (0, v1)] [] σ
set_option maxRecDepth 20000 in
theorem qM_tells_387 (v1 t0 t1 : Int) (σ : xS) : X iM_tells 387 [(2, 305), (0, v1)] [(0, t0), (0, t1), (2, 345)] σ =
  if xin t1 200 then ((X iM_word 0 [(2, 305), (1, 4797), (8, 0)] [] (xs σ 345 t1.toNat t0)).bind fun q1 => X iM_tells 395 [(2, 305), (0, v1)] [] q1.2)
  else none :=
  xev_eq (E := xE1) (F := xFk) (P := xPg) (inl := [53, 54]) (stop := [52, 78, 85, 116, 133, 144, 158, 184, 198, 220, 227, 237, 251, 261, 275, 284, 292, 301, 312, 326, 335, 343, 352, 363, 378, 387, 395, 404, 436, 462, 488, 512]) 6 iM_tells 387 [(2, 305), (0, v1)] [(0, t0), (0, t1), (2, 345)] σ
set_option maxRecDepth 20000 in
theorem qM_tells_395 (v1 : Int) (σ : xS) : X iM_tells 395 [(2, 305), (0, v1)] [] σ =
  (X iM_number 0 [(2, 305), (9, 0)] [] σ).bind fun q1 => X iM_tells 404 [(2, 305), (0, v1)] [q1.1, (0, v1), (2, 346)] q1.2 :=
  xev_eq (E := xE1) (F := xFk) (P := xPg) (inl := [53, 54]) (stop := [52, 78, 85, 116, 133, 144, 158, 184, 198, 220, 227, 237, 251, 261, 275, 284, 292, 301, 312, 326, 335, 343, 352, 363, 378, 387, 395, 404, 436, 462, 488, 512]) 7 iM_tells 395 [(2, 305), (0, v1)] [] σ
set_option maxRecDepth 20000 in
theorem qM_tells_404 (v1 t0 t1 : Int) (σ : xS) : X iM_tells 404 [(2, 305), (0, v1)] [(0, t0), (0, t1), (2, 346)] σ =
  if xin t1 200 then (if (xna 4 (σ.1 305 74)) = 0 then (if xin v1 200 then (if (σ.1 344 v1.toNat) = 4 then ((X iM_word 0 [(2, 305), (1, 79), (8, 0)] [] (xs σ 346 t1.toNat t0)).bind fun q1 => X iM_tells 436 [(2, 305), (0, v1)] [] q1.2)
        else if (xna 4 (σ.1 305 74)) = 0 then (if xin v1 200 then (if (σ.1 344 v1.toNat) < 4 then ((X iM_sign 0 [(2, 305), (0, 61)] [] (xs σ 346 t1.toNat t0)).bind fun q2 => X iM_tells 462 [(2, 305), (0, v1)] [] q2.2)
            else X iM_tells 462 [(2, 305), (0, v1)] [] (xs σ 346 t1.toNat t0))
          else none)
        else X iM_tells 462 [(2, 305), (0, v1)] [] (xs σ 346 t1.toNat t0))
      else none)
    else if (xna 4 (σ.1 305 74)) = 0 then (if xin v1 200 then (if (σ.1 344 v1.toNat) < 4 then ((X iM_sign 0 [(2, 305), (0, 61)] [] (xs σ 346 t1.toNat t0)).bind fun q3 => X iM_tells 462 [(2, 305), (0, v1)] [] q3.2)
        else X iM_tells 462 [(2, 305), (0, v1)] [] (xs σ 346 t1.toNat t0))
      else none)
    else X iM_tells 462 [(2, 305), (0, v1)] [] (xs σ 346 t1.toNat t0))
  else none :=
  xev_eq (E := xE1) (F := xFk) (P := xPg) (inl := [53, 54]) (stop := [52, 78, 85, 116, 133, 144, 158, 184, 198, 220, 227, 237, 251, 261, 275, 284, 292, 301, 312, 326, 335, 343, 352, 363, 378, 387, 395, 404, 436, 462, 488, 512]) 25 iM_tells 404 [(2, 305), (0, v1)] [(0, t0), (0, t1), (2, 346)] σ
set_option maxRecDepth 20000 in
theorem qM_tells_436 (v1 : Int) (σ : xS) : X iM_tells 436 [(2, 305), (0, v1)] [] σ =
  X iM_tells 462 [(2, 305), (0, v1)] [] σ :=
  xev_eq (E := xE1) (F := xFk) (P := xPg) (inl := [53, 54]) (stop := [52, 78, 85, 116, 133, 144, 158, 184, 198, 220, 227, 237, 251, 261, 275, 284, 292, 301, 312, 326, 335, 343, 352, 363, 378, 387, 395, 404, 436, 462, 488, 512]) 3 iM_tells 436 [(2, 305), (0, v1)] [] σ
set_option maxRecDepth 20000 in
theorem qM_tells_462 (v1 : Int) (σ : xS) : X iM_tells 462 [(2, 305), (0, v1)] [] σ =
  if (xna 4 (σ.1 305 74)) = 0 then (if xin v1 200 then (if (σ.1 344 v1.toNat) < 5 then ((X iM_expression 0 [(2, 305), (9, 0)] [] σ).bind fun q1 => X iM_tells 488 [(2, 305), (0, v1)] [q1.1, (0, v1), (2, 347)] q1.2)
      else if xin v1 200 then (if (xna 4 (σ.1 305 74)) = 0 then ((X iM_sign 0 [(2, 305), (0, 59)] [] (xs σ 349 v1.toNat (σ.1 305 64))).bind fun q2 => X iM_tells 512 [(2, 305), (0, v1)] [] q2.2)
        else X iM_tells 512 [(2, 305), (0, v1)] [] (xs σ 349 v1.toNat (σ.1 305 64)))
      else none)
    else none)
  else if xin v1 200 then (if (xna 4 (σ.1 305 74)) = 0 then ((X iM_sign 0 [(2, 305), (0, 59)] [] (xs σ 349 v1.toNat (σ.1 305 64))).bind fun q3 => X iM_tells 512 [(2, 305), (0, v1)] [] q3.2)
    else X iM_tells 512 [(2, 305), (0, v1)] [] (xs σ 349 v1.toNat (σ.1 305 64)))
  else none :=
  xev_eq (E := xE1) (F := xFk) (P := xPg) (inl := [53, 54]) (stop := [52, 78, 85, 116, 133, 144, 158, 184, 198, 220, 227, 237, 251, 261, 275, 284, 292, 301, 312, 326, 335, 343, 352, 363, 378, 387, 395, 404, 436, 462, 488, 512]) 23 iM_tells 462 [(2, 305), (0, v1)] [] σ
set_option maxRecDepth 20000 in
theorem qM_tells_488 (v1 t0 t1 : Int) (σ : xS) : X iM_tells 488 [(2, 305), (0, v1)] [(0, t0), (0, t1), (2, 347)] σ =
  if xin t1 200 then (if xin v1 200 then (if (xna 4 (σ.1 305 74)) = 0 then ((X iM_sign 0 [(2, 305), (0, 59)] [] (xs (xs σ 347 t1.toNat t0) 349 v1.toNat (σ.1 305 64))).bind fun q1 => X iM_tells 512 [(2, 305), (0, v1)] [] q1.2)
      else X iM_tells 512 [(2, 305), (0, v1)] [] (xs (xs σ 347 t1.toNat t0) 349 v1.toNat (σ.1 305 64)))
    else none)
  else none :=
  xev_eq (E := xE1) (F := xFk) (P := xPg) (inl := [53, 54]) (stop := [52, 78, 85, 116, 133, 144, 158, 184, 198, 220, 227, 237, 251, 261, 275, 284, 292, 301, 312, 326, 335, 343, 352, 363, 378, 387, 395, 404, 436, 462, 488, 512]) 15 iM_tells 488 [(2, 305), (0, v1)] [(0, t0), (0, t1), (2, 347)] σ
set_option maxRecDepth 20000 in
theorem qM_tells_512 (vw0 vw1 : xAV) (σ : xS) : X iM_tells 512 [vw0, vw1] [] σ =
  some ((9, 0), σ) :=
  xev_eq (E := xE1) (F := xFk) (P := xPg) (inl := [53, 54]) (stop := [52, 78, 85, 116, 133, 144, 158, 184, 198, 220, 227, 237, 251, 261, 275, 284, 292, 301, 312, 326, 335, 343, 352, 363, 378, 387, 395, 404, 436, 462, 488, 512]) 3 iM_tells 512 [vw0, vw1] [] σ
set_option maxRecDepth 20000 in
theorem qM_terms_0 (a1 : Int) (σ : xS) : X iM_terms 0 [(2, 305), (0, a1), (9, 0)] [] σ =
  if a1 < 0 then some ((0, (-2)), σ)
  else if (σ.1 305 66) < a1 then some ((0, (-2)), σ)
  else if (σ.1 305 49) = 8 then some ((0, (-3)), σ)
  else (X iM_next 0 [(2, 305), (9, 0)] [] (xs (xs (xs (xs (xs (xs σ 305 68 a1) 305 66 0) 305 69 0) 305 67 (-1)) 305 74 0) 305 76 (σ.1 305 57))).bind fun q1 => X iM_terms 69 [(2, 305), (0, a1), (0, (σ.1 305 64))] [] q1.2 :=
  xev_eq (E := xE1) (F := xFk) (P := xPg) (inl := [53]) (stop := [69, 112]) 36 iM_terms 0 [(2, 305), (0, a1), (9, 0)] [] σ
set_option maxRecDepth 20000 in
theorem qM_terms_69 (v2 : Int) (vw1 : xAV) (σ : xS) : X iM_terms 69 [(2, 305), vw1, (0, v2)] [] σ =
  if (σ.1 305 71) = 0 then (if (xna 4 (σ.1 305 74)) = 0 then (if xin (σ.1 305 49) 8 then (if xin (σ.1 305 49) 8 then (if xin (σ.1 305 49) 8 then some ((0, (xw ((xw ((σ.1 305 49) + 1)) - 1))), (xs (xs (xs (xs σ 341 (σ.1 305 49).toNat (σ.1 305 76)) 342 (σ.1 305 49).toNat (xw ((σ.1 305 57) - (σ.1 305 76)))) 343 (σ.1 305 49).toNat (σ.1 305 0)) 305 49 (xw ((σ.1 305 49) + 1))))
          else none)
        else none)
      else none)
    else some ((0, (-1)), (xs (xs σ 305 57 (σ.1 305 76)) 305 64 v2)))
  else if (xna 4 (σ.1 305 74)) = 0 then (if (xw ((σ.1 305 57) - (σ.1 305 76))) = 24 then (if (xna 4 (σ.1 305 74)) = 0 then X iM_terms 69 [(2, 305), vw1, (0, v2)] [] (xs (xs σ 305 74 1) 305 67 (σ.1 305 70))
      else X iM_terms 69 [(2, 305), vw1, (0, v2)] [] σ)
    else (X iM_tells 0 [(2, 305), (0, (σ.1 305 57))] [] σ).bind fun q1 => X iM_terms 112 [(2, 305), vw1, (0, v2)] [] q1.2)
  else if (xna 4 (σ.1 305 74)) = 0 then (if xin (σ.1 305 49) 8 then (if xin (σ.1 305 49) 8 then (if xin (σ.1 305 49) 8 then some ((0, (xw ((xw ((σ.1 305 49) + 1)) - 1))), (xs (xs (xs (xs σ 341 (σ.1 305 49).toNat (σ.1 305 76)) 342 (σ.1 305 49).toNat (xw ((σ.1 305 57) - (σ.1 305 76)))) 343 (σ.1 305 49).toNat (σ.1 305 0)) 305 49 (xw ((σ.1 305 49) + 1))))
        else none)
      else none)
    else none)
  else some ((0, (-1)), (xs (xs σ 305 57 (σ.1 305 76)) 305 64 v2)) :=
  xev_eq (E := xE1) (F := xFk) (P := xPg) (inl := [53]) (stop := [69, 112]) 46 iM_terms 69 [(2, 305), vw1, (0, v2)] [] σ
set_option maxRecDepth 20000 in
theorem qM_terms_112 (v2 : Int) (vw1 : xAV) (σ : xS) : X iM_terms 112 [(2, 305), vw1, (0, v2)] [] σ =
  if (xna 4 (σ.1 305 74)) = 0 then X iM_terms 69 [(2, 305), vw1, (0, v2)] [] (xs σ 305 57 (xw ((σ.1 305 57) + 1)))
  else X iM_terms 69 [(2, 305), vw1, (0, v2)] [] σ :=
  xev_eq (E := xE1) (F := xFk) (P := xPg) (inl := [53]) (stop := [69, 112]) 12 iM_terms 112 [(2, 305), vw1, (0, v2)] [] σ

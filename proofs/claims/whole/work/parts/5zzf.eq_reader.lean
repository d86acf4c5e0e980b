/-! equations, written by a program (wip/whole/gen) -/
set_option maxRecDepth 20000 in
theorem qNode_init_0 (a0 a1 : Int) (σ : xS) : X iNode_init 0 [(2, a0), (2, a1)] [] σ =
  bif Nat.beq a0.toNat 0 then none
  else bif xisO xE1 σ a0 7 then (xob (xwr xE1 σ a0 1 (-1)) none fun s1 => bif xisO xE1 s1 a0 7 then (xob (xwr xE1 s1 a0 4 108) none fun s2 => bif xisO xE1 s2 a0 7 then (xob (xwr xE1 s2 a0 0 a1) none fun s3 => some ((9, 0), s3))
      else none)
    else none)
  else none :=
  xev_eq (E := xE1) (F := xFk) (P := xPg) (inl := []) (stop := []) 14 iNode_init 0 [(2, a0), (2, a1)] [] σ
set_option maxRecDepth 20000 in
theorem qNode_of_0 (a0 a1 : Int) (σ : xS) : X iNode_of 0 [(2, a0), (2, a1), (9, 0)] [] σ =
  bif xisO xE1 (xal xE1 σ 7 8) ((xnew xE1 σ : Nat) : Int) 7 then (bif Nat.beq ((xnew xE1 σ : Nat) : Int).toNat 0 then none
    else bif xisO xE1 (xal xE1 σ 7 8) ((xnew xE1 σ : Nat) : Int) 7 then (xob (xwr xE1 (xal xE1 σ 7 8) ((xnew xE1 σ : Nat) : Int) 1 (-1)) none fun s1 => bif xisO xE1 s1 ((xnew xE1 σ : Nat) : Int) 7 then (xob (xwr xE1 s1 ((xnew xE1 σ : Nat) : Int) 4 108) none fun s2 => bif xisO xE1 s2 ((xnew xE1 σ : Nat) : Int) 7 then (xob (xwr xE1 s2 ((xnew xE1 σ : Nat) : Int) 0 a0) none fun s3 => bif xisO xE1 s3 ((xnew xE1 σ : Nat) : Int) 7 then (xob (xwr xE1 s3 ((xnew xE1 σ : Nat) : Int) 6 a1) none fun s4 => some ((2, ((xnew xE1 σ : Nat) : Int)), s4))
          else none)
        else none)
      else none)
    else none)
  else none :=
  xev_eq (E := xE1) (F := xFk) (P := xPg) (inl := [253]) (stop := []) 24 iNode_of 0 [(2, a0), (2, a1), (9, 0)] [] σ
set_option maxRecDepth 20000 in
theorem qReader_readAll1_0 (a1 a2 : Int) (σ : xS) : X iReader_readAll1 0 [(2, 297), (2, a1), (0, a2), (9, 0), (9, 0)] [] σ =
  xob (xlen xE1 (xs σ 297 0 a1) a1) none fun n1 => (X iReader_scanAll 0 [(2, 297), (9, 0), (9, 0), (9, 0), (9, 0)] [] (xs (xs σ 297 0 a1) 297 1 (xmm 1 a2 (xmm 1 ((n1 : Nat) : Int) 400)))).bind fun q2 => X iReader_readAll1 25 [(2, 297), (2, a1), (0, a2), (9, 0), (9, 0)] [] q2.2 :=
  xev_eq (E := xE1) (F := xFk) (P := xPg) (inl := [280]) (stop := [25, 29, 31, 57, 70, 79]) 15 iReader_readAll1 0 [(2, 297), (2, a1), (0, a2), (9, 0), (9, 0)] [] σ
set_option maxRecDepth 20000 in
theorem qReader_readAll1_25 (vw1 vw2 vw3 vw4 : xAV) (σ : xS) : X iReader_readAll1 25 [(2, 297), vw1, vw2, vw3, vw4] [] σ =
  (X iReader_begin 0 [(2, 297)] [] σ).bind fun q1 => X iReader_readAll1 29 [(2, 297), vw1, vw2, vw3, vw4] [] q1.2 :=
  xev_eq (E := xE1) (F := xFk) (P := xPg) (inl := [280]) (stop := [25, 29, 31, 57, 70, 79]) 4 iReader_readAll1 25 [(2, 297), vw1, vw2, vw3, vw4] [] σ
set_option maxRecDepth 20000 in
theorem qReader_readAll1_29 (vw1 vw2 vw3 vw4 : xAV) (σ : xS) : X iReader_readAll1 29 [(2, 297), vw1, vw2, vw3, vw4] [] σ =
  X iReader_readAll1 31 [(2, 297), vw1, (xkl vw2), (0, 0), vw4] [] σ :=
  xev_eq (E := xE1) (F := xFk) (P := xPg) (inl := [280]) (stop := [25, 29, 31, 57, 70, 79]) 4 iReader_readAll1 29 [(2, 297), vw1, vw2, vw3, vw4] [] σ
set_option maxRecDepth 20000 in
theorem qReader_readAll1_31 (v3 : Int) (vw1 vw2 vw4 : xAV) (σ : xS) : X iReader_readAll1 31 [(2, 297), vw1, vw2, (0, v3), vw4] [] σ =
  if v3 < 24 then (if (xna 3 (σ.1 297 8)) = 1 then (if (xna 3 (σ.1 297 8)) = 1 then (if (σ.1 297 14) = (-1) then some ((2, (σ.1 297 11)), σ)
        else some ((2, 0), σ))
      else if (σ.1 297 14) = (-1) then (if xin (σ.1 297 7) 401 then (if (σ.1 299 (σ.1 297 7).toNat) = (-1) then some ((2, (σ.1 297 11)), (xs σ 297 14 (σ.1 299 (σ.1 297 7).toNat)))
          else some ((2, 0), (xs σ 297 14 (σ.1 299 (σ.1 297 7).toNat))))
        else none)
      else if (σ.1 297 14) = (-1) then some ((2, (σ.1 297 11)), σ)
      else some ((2, 0), σ))
    else if (σ.1 297 14) = (-1) then ((X iReader_readStatement 0 [(2, 297), (9, 0)] [] σ).bind fun q1 => X iReader_readAll1 57 [(2, 297), vw1, vw2, (0, v3), vw4] [q1.1] q1.2)
    else if (xna 3 (σ.1 297 8)) = 1 then (if (σ.1 297 14) = (-1) then some ((2, (σ.1 297 11)), σ)
      else some ((2, 0), σ))
    else if (σ.1 297 14) = (-1) then (if xin (σ.1 297 7) 401 then (if (σ.1 299 (σ.1 297 7).toNat) = (-1) then some ((2, (σ.1 297 11)), (xs σ 297 14 (σ.1 299 (σ.1 297 7).toNat)))
        else some ((2, 0), (xs σ 297 14 (σ.1 299 (σ.1 297 7).toNat))))
      else none)
    else if (σ.1 297 14) = (-1) then some ((2, (σ.1 297 11)), σ)
    else some ((2, 0), σ))
  else if (xna 3 (σ.1 297 8)) = 1 then (if (σ.1 297 14) = (-1) then some ((2, (σ.1 297 11)), σ)
    else some ((2, 0), σ))
  else if (σ.1 297 14) = (-1) then (if xin (σ.1 297 7) 401 then (if (σ.1 299 (σ.1 297 7).toNat) = (-1) then some ((2, (σ.1 297 11)), (xs σ 297 14 (σ.1 299 (σ.1 297 7).toNat)))
      else some ((2, 0), (xs σ 297 14 (σ.1 299 (σ.1 297 7).toNat))))
    else none)
  else if (σ.1 297 14) = (-1) then some ((2, (σ.1 297 11)), σ)
  else some ((2, 0), σ) :=
  xev_eq (E := xE1) (F := xFk) (P := xPg) (inl := [280]) (stop := [25, 29, 31, 57, 70, 79]) 41 iReader_readAll1 31 [(2, 297), vw1, vw2, (0, v3), vw4] [] σ
set_option maxRecDepth 20000 in
theorem qReader_readAll1_57 (v3 t0 : Int) (vw1 vw2 vw4 : xAV) (σ : xS) : X iReader_readAll1 57 [(2, 297), vw1, vw2, (0, v3), vw4] [(2, t0)] σ =
  if t0 = 0 then X iReader_readAll1 79 [(2, 297), vw1, vw2, (0, v3), (2, t0)] [] σ
  else (X iReader_pass 0 [(2, 297), (0, 59)] [] σ).bind fun q1 => X iReader_readAll1 70 [(2, 297), vw1, vw2, (0, v3), (2, t0)] [q1.1] q1.2 :=
  xev_eq (E := xE1) (F := xFk) (P := xPg) (inl := [280]) (stop := [25, 29, 31, 57, 70, 79]) 8 iReader_readAll1 57 [(2, 297), vw1, vw2, (0, v3), vw4] [(2, t0)] σ
set_option maxRecDepth 20000 in
theorem qReader_readAll1_70 (v3 v4 t0 : Int) (vw1 vw2 : xAV) (σ : xS) : X iReader_readAll1 70 [(2, 297), vw1, vw2, (0, v3), (2, v4)] [(0, t0)] σ =
  if t0 = 0 then X iReader_readAll1 79 [(2, 297), vw1, vw2, (0, v3), (2, v4)] [] σ
  else (X iReader_chain 0 [(2, 297), (2, v4)] [] σ).bind fun q1 => X iReader_readAll1 79 [(2, 297), vw1, vw2, (0, v3), (2, v4)] [] q1.2 :=
  xev_eq (E := xE1) (F := xFk) (P := xPg) (inl := [280]) (stop := [25, 29, 31, 57, 70, 79]) 6 iReader_readAll1 70 [(2, 297), vw1, vw2, (0, v3), (2, v4)] [(0, t0)] σ
set_option maxRecDepth 20000 in
theorem qReader_readAll1_79 (v3 : Int) (vw1 vw2 vw4 : xAV) (σ : xS) : X iReader_readAll1 79 [(2, 297), vw1, vw2, (0, v3), vw4] [] σ =
  X iReader_readAll1 31 [(2, 297), vw1, vw2, (0, (xw (v3 + 1))), vw4] [] σ :=
  xev_eq (E := xE1) (F := xFk) (P := xPg) (inl := [280]) (stop := [25, 29, 31, 57, 70, 79]) 4 iReader_readAll1 79 [(2, 297), vw1, vw2, (0, v3), vw4] [] σ
set_option maxRecDepth 20000 in
theorem qReader_chain_0 (a1 : Int) (σ : xS) : X iReader_chain 0 [(2, 297), (2, a1)] [] σ =
  if (σ.1 297 12) = 0 then (xob (xfld xE1 (xs (xs σ 297 11 a1) 297 12 a1) a1 7 0) none fun w1 => bif (xcm w1 && xcm 2) then (if w1 = 2 then some ((9, 0), (xs (xs (xs σ 297 11 a1) 297 12 a1) 297 13 (xw ((σ.1 297 13) + 1))))
      else some ((9, 0), (xs (xs (xs σ 297 11 a1) 297 12 a1) 297 13 (xw ((σ.1 297 13) + 0)))))
    else none)
  else bif xisO xE1 σ (σ.1 297 12) 7 then (xob (xwr xE1 σ (σ.1 297 12) 7 a1) none fun s2 => xob (xfld xE1 (xs s2 297 12 a1) a1 7 0) none fun w3 => bif (xcm w3 && xcm 2) then (if w3 = 2 then some ((9, 0), (xs (xs s2 297 12 a1) 297 13 (xw ((s2.1 297 13) + 1))))
      else some ((9, 0), (xs (xs s2 297 12 a1) 297 13 (xw ((s2.1 297 13) + 0)))))
    else none)
  else none :=
  xev_eq (E := xE1) (F := xFk) (P := xPg) (inl := [173]) (stop := []) 30 iReader_chain 0 [(2, 297), (2, a1)] [] σ
set_option maxRecDepth 20000 in
theorem qReader_scanAll_0 (σ : xS) : X iReader_scanAll 0 [(2, 297), (9, 0), (9, 0), (9, 0), (9, 0)] [] σ =
  X iReader_scanAll 4 [(2, 297), (0, 0), (0, 0), (9, 0), (9, 0)] [] σ :=
  xev_eq (E := xE1) (F := xFk) (P := xPg) (inl := []) (stop := [4, 21, 87, 126, 151, 161]) 6 iReader_scanAll 0 [(2, 297), (9, 0), (9, 0), (9, 0), (9, 0)] [] σ
set_option maxRecDepth 20000 in
theorem qReader_scanAll_4 (v1 v2 : Int) (vw3 vw4 : xAV) (σ : xS) : X iReader_scanAll 4 [(2, 297), (0, v1), (0, v2), vw3, vw4] [] σ =
  if v2 < (σ.1 297 1) then (xob (xarr xE1 σ (σ.1 297 0) 3) none fun n1 => if xin v2 n1 then ((X iReader_kindOf 0 [(0, (xna 3 (xag xE1 σ (σ.1 297 0) v2.toNat)))] [] σ).bind fun q2 => X iReader_scanAll 21 [(2, 297), (0, v1), (0, v2), vw3, vw4] [q2.1] q2.2)
    else none)
  else X iReader_scanAll 126 [(2, 297), (0, v1), (0, 0), vw3, vw4] [] σ :=
  xev_eq (E := xE1) (F := xFk) (P := xPg) (inl := []) (stop := [4, 21, 87, 126, 151, 161]) 11 iReader_scanAll 4 [(2, 297), (0, v1), (0, v2), vw3, vw4] [] σ
set_option maxRecDepth 20000 in
theorem qReader_scanAll_21 (v1 v2 t0 : Int) (vw3 vw4 : xAV) (σ : xS) : X iReader_scanAll 21 [(2, 297), (0, v1), (0, v2), vw3, vw4] [(0, t0)] σ =
  if t0 = 2 then (if 0 < v1 then (if xin (xw (v1 - 1)) 401 then (if (xna 3 (σ.1 301 (xw (v1 - 1)).toNat)) = t0 then (if xin (xw (v1 - 1)) 401 then (if (σ.1 300 (xw (v1 - 1)).toNat) = v2 then (if xin (xw (v1 - 1)) 401 then (if xin (xw (v1 - 1)) 401 then X iReader_scanAll 4 [(2, 297), (0, v1), (0, (xw (v2 + 1))), (0, t0), (0, 1)] [] (xs σ 300 (xw (v1 - 1)).toNat (xw ((σ.1 300 (xw (v1 - 1)).toNat) + 1)))
                else none)
              else none)
            else X iReader_scanAll 87 [(2, 297), (0, v1), (0, v2), (0, t0), (0, 1)] [] σ)
          else none)
        else X iReader_scanAll 87 [(2, 297), (0, v1), (0, v2), (0, t0), (0, 1)] [] σ)
      else none)
    else X iReader_scanAll 87 [(2, 297), (0, v1), (0, v2), (0, t0), (0, 1)] [] σ)
  else if t0 = 3 then (if 0 < v1 then (if xin (xw (v1 - 1)) 401 then (if (xna 3 (σ.1 301 (xw (v1 - 1)).toNat)) = t0 then (if xin (xw (v1 - 1)) 401 then (if (σ.1 300 (xw (v1 - 1)).toNat) = v2 then (if xin (xw (v1 - 1)) 401 then (if xin (xw (v1 - 1)) 401 then X iReader_scanAll 4 [(2, 297), (0, v1), (0, (xw (v2 + 1))), (0, t0), (0, 1)] [] (xs σ 300 (xw (v1 - 1)).toNat (xw ((σ.1 300 (xw (v1 - 1)).toNat) + 1)))
                else none)
              else none)
            else X iReader_scanAll 87 [(2, 297), (0, v1), (0, v2), (0, t0), (0, 1)] [] σ)
          else none)
        else X iReader_scanAll 87 [(2, 297), (0, v1), (0, v2), (0, t0), (0, 1)] [] σ)
      else none)
    else X iReader_scanAll 87 [(2, 297), (0, v1), (0, v2), (0, t0), (0, 1)] [] σ)
  else X iReader_scanAll 87 [(2, 297), (0, v1), (0, v2), (0, t0), (0, 0)] [] σ :=
  xev_eq (E := xE1) (F := xFk) (P := xPg) (inl := []) (stop := [4, 21, 87, 126, 151, 161]) 45 iReader_scanAll 21 [(2, 297), (0, v1), (0, v2), vw3, vw4] [(0, t0)] σ
set_option maxRecDepth 20000 in
theorem qReader_scanAll_87 (v1 v2 v3 : Int) (vw4 : xAV) (σ : xS) : X iReader_scanAll 87 [(2, 297), (0, v1), (0, v2), (0, v3), vw4] [] σ =
  if v3 = 4 then X iReader_scanAll 4 [(2, 297), (0, v1), (0, (xw (v2 + 1))), (0, v3), vw4] [] σ
  else if xin v1 401 then (if xin v1 401 then (if xin v1 401 then X iReader_scanAll 4 [(2, 297), (0, (xw (v1 + 1))), (0, (xw (v2 + 1))), (0, v3), vw4] [] (xs (xs (xs σ 299 v1.toNat v2) 300 v1.toNat (xw (v2 + 1))) 301 v1.toNat (xna 3 v3))
      else none)
    else none)
  else none :=
  xev_eq (E := xE1) (F := xFk) (P := xPg) (inl := []) (stop := [4, 21, 87, 126, 151, 161]) 25 iReader_scanAll 87 [(2, 297), (0, v1), (0, v2), (0, v3), vw4] [] σ
set_option maxRecDepth 20000 in
theorem qReader_scanAll_126 (v1 v2 : Int) (vw3 vw4 : xAV) (σ : xS) : X iReader_scanAll 126 [(2, 297), (0, v1), (0, v2), vw3, vw4] [] σ =
  if v2 < v1 then (if xin v2 401 then (if (xna 3 (σ.1 301 v2.toNat)) = 2 then ((X iReader_wordOf 0 [(2, 297), (0, v2), (9, 0)] [] σ).bind fun q1 => X iReader_scanAll 151 [(2, 297), (0, v1), (0, v2), vw3, vw4] [q1.1, (0, v2), (2, 303)] q1.2)
      else if xin v2 401 then ((X iReader_readDigits 0 [(2, 297), (0, v2), (9, 0)] [] (xs σ 303 v2.toNat 0)).bind fun q2 => X iReader_scanAll 161 [(2, 297), (0, v1), (0, v2), vw3, vw4] [] q2.2)
      else none)
    else none)
  else if xin v1 401 then (if xin v1 401 then (if xin v1 401 then (if xin v1 401 then some ((9, 0), (xs (xs (xs (xs σ 299 v1.toNat (σ.1 297 1)) 300 v1.toNat (σ.1 297 1)) 301 v1.toNat 1) 303 v1.toNat 0))
        else none)
      else none)
    else none)
  else none :=
  xev_eq (E := xE1) (F := xFk) (P := xPg) (inl := []) (stop := [4, 21, 87, 126, 151, 161]) 28 iReader_scanAll 126 [(2, 297), (0, v1), (0, v2), vw3, vw4] [] σ
set_option maxRecDepth 20000 in
theorem qReader_scanAll_151 (v1 v2 t0 t1 : Int) (vw3 vw4 : xAV) (σ : xS) : X iReader_scanAll 151 [(2, 297), (0, v1), (0, v2), vw3, vw4] [(2, t0), (0, t1), (2, 303)] σ =
  bif (xisO xE1 σ t0 50 || decide (t0 = 0)) then (if xin t1 401 then ((X iReader_readDigits 0 [(2, 297), (0, v2), (9, 0)] [] (xs σ 303 t1.toNat t0)).bind fun q1 => X iReader_scanAll 161 [(2, 297), (0, v1), (0, v2), vw3, vw4] [] q1.2)
    else none)
  else none :=
  xev_eq (E := xE1) (F := xFk) (P := xPg) (inl := []) (stop := [4, 21, 87, 126, 151, 161]) 7 iReader_scanAll 151 [(2, 297), (0, v1), (0, v2), vw3, vw4] [(2, t0), (0, t1), (2, 303)] σ
set_option maxRecDepth 20000 in
theorem qReader_scanAll_161 (v1 v2 : Int) (vw3 vw4 : xAV) (σ : xS) : X iReader_scanAll 161 [(2, 297), (0, v1), (0, v2), vw3, vw4] [] σ =
  X iReader_scanAll 126 [(2, 297), (0, v1), (0, (xw (v2 + 1))), vw3, vw4] [] σ :=
  xev_eq (E := xE1) (F := xFk) (P := xPg) (inl := []) (stop := [4, 21, 87, 126, 151, 161]) 4 iReader_scanAll 161 [(2, 297), (0, v1), (0, v2), vw3, vw4] [] σ
set_option maxRecDepth 20000 in
theorem qReader_kindOf_0 (a0 : Int) (σ : xS) : X iReader_kindOf 0 [(0, a0)] [] σ =
  if a0 = 32 then some ((0, 4), σ)
  else if a0 = 10 then some ((0, 4), σ)
  else if a0 < 97 then (if a0 < 48 then ((X iJS_indexOf1 0 [(2, 110), (0, a0)] [] σ).bind fun q1 => X iReader_kindOf 38 [(0, a0)] [q1.1] q1.2)
    else if 57 < a0 then ((X iJS_indexOf1 0 [(2, 110), (0, a0)] [] σ).bind fun q2 => X iReader_kindOf 38 [(0, a0)] [q2.1] q2.2)
    else some ((0, 3), σ))
  else if 122 < a0 then (if a0 < 48 then ((X iJS_indexOf1 0 [(2, 110), (0, a0)] [] σ).bind fun q3 => X iReader_kindOf 38 [(0, a0)] [q3.1] q3.2)
    else if 57 < a0 then ((X iJS_indexOf1 0 [(2, 110), (0, a0)] [] σ).bind fun q4 => X iReader_kindOf 38 [(0, a0)] [q4.1] q4.2)
    else some ((0, 3), σ))
  else some ((0, 2), σ) :=
  xev_eq (E := xE1) (F := xFk) (P := xPg) (inl := [271, 272]) (stop := [38]) 33 iReader_kindOf 0 [(0, a0)] [] σ
set_option maxRecDepth 20000 in
theorem qReader_kindOf_38 (v0 t0 : Int) (σ : xS) : X iReader_kindOf 38 [(0, v0)] [(0, t0)] σ =
  if t0 < 0 then some ((0, 5), σ)
  else if (xna 3 v0) = v0 then some ((0, v0), σ)
  else none :=
  xev_eq (E := xE1) (F := xFk) (P := xPg) (inl := [271, 272]) (stop := [38]) 6 iReader_kindOf 38 [(0, v0)] [(0, t0)] σ
set_option maxRecDepth 20000 in
theorem qReader_wordOf_0 (a1 : Int) (σ : xS) : X iReader_wordOf 0 [(2, 297), (0, a1), (9, 0)] [] σ =
  X iReader_wordOf 2 [(2, 297), (0, a1), (0, 0)] [] σ :=
  xev_eq (E := xE1) (F := xFk) (P := xPg) (inl := []) (stop := [2, 23]) 4 iReader_wordOf 0 [(2, 297), (0, a1), (9, 0)] [] σ
set_option maxRecDepth 20000 in
theorem qReader_wordOf_2 (v1 v2 : Int) (σ : xS) : X iReader_wordOf 2 [(2, 297), (0, v1), (0, v2)] [] σ =
  if v2 < 38 then (if xin v2 38 then (xob (xfld xE1 σ (xag xE1 σ 40 v2.toNat) 50 1) none fun w1 => (X iReader_isWritten 0 [(2, 297), (2, w1), (0, v1), (9, 0), (9, 0)] [] σ).bind fun q2 => X iReader_wordOf 23 [(2, 297), (0, v1), (0, v2)] [q2.1] q2.2)
    else none)
  else some ((2, 0), σ) :=
  xev_eq (E := xE1) (F := xFk) (P := xPg) (inl := []) (stop := [2, 23]) 13 iReader_wordOf 2 [(2, 297), (0, v1), (0, v2)] [] σ
set_option maxRecDepth 20000 in
theorem qReader_wordOf_23 (v1 v2 t0 : Int) (σ : xS) : X iReader_wordOf 23 [(2, 297), (0, v1), (0, v2)] [(0, t0)] σ =
  if t0 = 0 then X iReader_wordOf 2 [(2, 297), (0, v1), (0, (xw (v2 + 1)))] [] σ
  else if xin v2 38 then some ((2, (xag xE1 σ 40 v2.toNat)), σ)
  else none :=
  xev_eq (E := xE1) (F := xFk) (P := xPg) (inl := []) (stop := [2, 23]) 7 iReader_wordOf 23 [(2, 297), (0, v1), (0, v2)] [(0, t0)] σ
set_option maxRecDepth 20000 in
theorem qReader_readDigits_0 (a1 : Int) (σ : xS) : X iReader_readDigits 0 [(2, 297), (0, a1), (9, 0)] [] σ =
  if xin a1 401 then (if (xna 3 (σ.1 301 a1.toNat)) = 3 then (if xin a1 401 then (if xin a1 401 then (if 9 < (xw ((σ.1 300 a1.toNat) - (σ.1 299 a1.toNat))) then (if xin a1 401 then (if xin a1 401 then (if xin a1 401 then X iReader_readDigits 49 [(2, 297), (0, a1), (0, (σ.1 299 a1.toNat))] [] (xs (xs σ 301 a1.toNat 5) 302 a1.toNat 0)
                else none)
              else none)
            else none)
          else if xin a1 401 then (if xin a1 401 then X iReader_readDigits 49 [(2, 297), (0, a1), (0, (σ.1 299 a1.toNat))] [] (xs σ 302 a1.toNat 0)
            else none)
          else none)
        else none)
      else none)
    else if xin a1 401 then (if xin a1 401 then X iReader_readDigits 49 [(2, 297), (0, a1), (0, (σ.1 299 a1.toNat))] [] (xs σ 302 a1.toNat 0)
      else none)
    else none)
  else none :=
  xev_eq (E := xE1) (F := xFk) (P := xPg) (inl := []) (stop := [49]) 34 iReader_readDigits 0 [(2, 297), (0, a1), (9, 0)] [] σ
set_option maxRecDepth 20000 in
theorem qReader_readDigits_49 (v1 v2 : Int) (σ : xS) : X iReader_readDigits 49 [(2, 297), (0, v1), (0, v2)] [] σ =
  if xin v1 401 then (if v2 < (σ.1 300 v1.toNat) then (if xin v1 401 then (if (xna 3 (σ.1 301 v1.toNat)) = 3 then (if xin v1 401 then (xob (xarr xE1 σ (σ.1 297 0) 3) none fun n1 => if xin v2 n1 then (if xin v1 401 then X iReader_readDigits 49 [(2, 297), (0, v1), (0, (xw (v2 + 1)))] [] (xs σ 302 v1.toNat (xw ((xw ((xw ((σ.1 302 v1.toNat) * 10)) + (xna 3 (xag xE1 σ (σ.1 297 0) v2.toNat)))) - 48)))
              else none)
            else none)
          else none)
        else some ((9, 0), σ))
      else none)
    else some ((9, 0), σ))
  else none :=
  xev_eq (E := xE1) (F := xFk) (P := xPg) (inl := []) (stop := [49]) 33 iReader_readDigits 49 [(2, 297), (0, v1), (0, v2)] [] σ
set_option maxRecDepth 20000 in
theorem qReader_isWritten_0 (a1 a2 : Int) (σ : xS) : X iReader_isWritten 0 [(2, 297), (2, a1), (0, a2), (9, 0), (9, 0)] [] σ =
  bif xisO xE1 σ a1 0 then (xob (xfld xE1 σ a1 0 0) none fun w1 => xob (xlen xE1 σ w1) none fun n2 => bif xisO xE1 σ a1 0 then (xob (xfld xE1 σ a1 0 1) none fun w3 => if (xna 2 (xna 2 w3)) = (xna 2 w3) then (if xin a2 401 then (if xin a2 401 then (if (xshr ((n2 : Nat) : Int) (xna 2 w3)) = (xw ((σ.1 300 a2.toNat) - (σ.1 299 a2.toNat))) then X iReader_isWritten 29 [(2, 297), (2, a1), (0, a2), (0, 1), (0, 0)] [] σ
            else X iReader_isWritten 29 [(2, 297), (2, a1), (0, a2), (0, 0), (0, 0)] [] σ)
          else none)
        else none)
      else none)
    else none)
  else none :=
  xev_eq (E := xE1) (F := xFk) (P := xPg) (inl := [368, 371, 372, 376, 377, 387, 391, 394, 398, 406, 422]) (stop := [29]) 32 iReader_isWritten 0 [(2, 297), (2, a1), (0, a2), (9, 0), (9, 0)] [] σ
set_option maxRecDepth 20000 in
theorem qReader_isWritten_29 (v1 v2 v3 v4 : Int) (σ : xS) : X iReader_isWritten 29 [(2, 297), (2, v1), (0, v2), (0, v3), (0, v4)] [] σ =
  bif xisO xE1 σ v1 0 then (xob (xfld xE1 σ v1 0 0) none fun w1 => xob (xlen xE1 σ w1) none fun n2 => bif xisO xE1 σ v1 0 then (xob (xfld xE1 σ v1 0 1) none fun w3 => if (xna 2 (xna 2 w3)) = (xna 2 w3) then (if v4 < (xshr ((n2 : Nat) : Int) (xna 2 w3)) then (if v3 = 0 then (if (xna 4 v3) = v3 then some ((0, v3), σ)
            else none)
          else bif xisO xE1 σ v1 0 then (bif xisO xE1 σ v1 0 then (xob (xfld xE1 σ v1 0 1) none fun w4 => if (xna 2 w4) = 0 then (xob (xfld xE1 σ v1 0 0) none fun w5 => xob (xlen xE1 σ w5) none fun n6 => if v4 < 0 then none
                else if v4 < ((n6 : Nat) : Int) then (xob (xarr xE1 σ w5 2) none fun n7 => if xin v4 n7 then (if (xna 3 (xna 3 (xiand (xna 2 (xag xE1 σ w5 v4.toNat)) 255))) = (xna 3 (xiand (xna 2 (xag xE1 σ w5 v4.toNat)) 255)) then (if (xna 3 (xna 3 (xiand (xna 2 (xag xE1 σ w5 v4.toNat)) 255))) = (xna 3 (xiand (xna 2 (xag xE1 σ w5 v4.toNat)) 255)) then (if xin v2 401 then (xob (xarr xE1 σ (σ.1 297 0) 3) none fun n8 => if xin (xw ((σ.1 299 v2.toNat) + v4)) n8 then (if (xna 3 (xiand (xna 2 (xag xE1 σ w5 v4.toNat)) 255)) = (xna 3 (xag xE1 σ (σ.1 297 0) (xw ((σ.1 299 v2.toNat) + v4)).toNat)) then X iReader_isWritten 29 [(2, 297), (2, v1), (0, v2), (0, 1), (0, (xw (v4 + 1)))] [] σ
                            else X iReader_isWritten 29 [(2, 297), (2, v1), (0, v2), (0, 0), (0, (xw (v4 + 1)))] [] σ)
                          else none)
                        else none)
                      else none)
                    else none)
                  else none)
                else none)
              else xob (xfld xE1 σ v1 0 0) none fun w9 => xob (xlen xE1 σ w9) none fun n10 => if v4 < 0 then none
              else if v4 < (xshr ((n10 : Nat) : Int) 1) then none
              else none)
            else none)
          else none)
        else if (xna 4 v3) = v3 then some ((0, v3), σ)
        else none)
      else none)
    else none)
  else none :=
  xev_eq (E := xE1) (F := xFk) (P := xPg) (inl := [368, 371, 372, 376, 377, 387, 391, 394, 398, 406, 422]) (stop := [29]) 79 iReader_isWritten 29 [(2, 297), (2, v1), (0, v2), (0, v3), (0, v4)] [] σ
set_option maxRecDepth 20000 in
theorem qReader_begin_0 (σ : xS) : X iReader_begin 0 [(2, 297)] [] σ =
  if (xna 3 (xna 3 (σ.1 301 0))) = (xna 3 (σ.1 301 0)) then some ((9, 0), (xs (xs (xs (xs (xs (xs (xs (xs σ 297 7 0) 297 8 (xna 3 (σ.1 301 0))) 297 9 (σ.1 303 0)) 297 10 0) 297 11 0) 297 12 0) 297 13 0) 297 14 (-1)))
  else none :=
  xev_eq (E := xE1) (F := xFk) (P := xPg) (inl := []) (stop := []) 33 iReader_begin 0 [(2, 297)] [] σ
set_option maxRecDepth 20000 in
theorem qReader_step_0 (σ : xS) : X iReader_step 0 [(2, 297)] [] σ =
  if (xna 3 (σ.1 297 8)) = 1 then some ((9, 0), σ)
  else if xin (xw ((σ.1 297 7) + 1)) 401 then (if (xna 3 (xna 3 (σ.1 301 (xw ((σ.1 297 7) + 1)).toNat))) = (xna 3 (σ.1 301 (xw ((σ.1 297 7) + 1)).toNat)) then (if xin (xw ((σ.1 297 7) + 1)) 401 then some ((9, 0), (xs (xs (xs σ 297 7 (xw ((σ.1 297 7) + 1))) 297 8 (xna 3 (σ.1 301 (xw ((σ.1 297 7) + 1)).toNat))) 297 9 (σ.1 303 (xw ((σ.1 297 7) + 1)).toNat)))
      else none)
    else none)
  else none :=
  xev_eq (E := xE1) (F := xFk) (P := xPg) (inl := []) (stop := []) 27 iReader_step 0 [(2, 297)] [] σ
set_option maxRecDepth 20000 in
theorem qReader_fail_0 (σ : xS) : X iReader_fail 0 [(2, 297)] [] σ =
  if (σ.1 297 14) = (-1) then (if xin (σ.1 297 7) 401 then some ((2, 0), (xs σ 297 14 (σ.1 299 (σ.1 297 7).toNat)))
    else none)
  else some ((2, 0), σ) :=
  xev_eq (E := xE1) (F := xFk) (P := xPg) (inl := []) (stop := []) 15 iReader_fail 0 [(2, 297)] [] σ
set_option maxRecDepth 20000 in
theorem qReader_pass_0 (a1 : Int) (σ : xS) : X iReader_pass 0 [(2, 297), (0, a1)] [] σ =
  if (σ.1 297 14) = (-1) then (if (xna 3 (σ.1 297 8)) = a1 then ((X iReader_step 0 [(2, 297)] [] σ).bind fun q1 => X iReader_pass 27 [(2, 297), (0, a1)] [] q1.2)
    else if (σ.1 297 14) = (-1) then (if xin (σ.1 297 7) 401 then some ((0, 0), (xs σ 297 14 (σ.1 299 (σ.1 297 7).toNat)))
      else none)
    else some ((0, 0), σ))
  else if (σ.1 297 14) = (-1) then (if xin (σ.1 297 7) 401 then some ((0, 0), (xs σ 297 14 (σ.1 299 (σ.1 297 7).toNat)))
    else none)
  else some ((0, 0), σ) :=
  xev_eq (E := xE1) (F := xFk) (P := xPg) (inl := [280]) (stop := [27]) 28 iReader_pass 0 [(2, 297), (0, a1)] [] σ
set_option maxRecDepth 20000 in
theorem qReader_pass_27 (vw0 vw1 : xAV) (σ : xS) : X iReader_pass 27 [vw0, vw1] [] σ =
  some ((0, 1), σ) :=
  xev_eq (E := xE1) (F := xFk) (P := xPg) (inl := [280]) (stop := [27]) 4 iReader_pass 27 [vw0, vw1] [] σ
set_option maxRecDepth 20000 in
theorem qReader_passWord_0 (a1 : Int) (σ : xS) : X iReader_passWord 0 [(2, 297), (2, a1)] [] σ =
  if (σ.1 297 14) = (-1) then (bif (xcm (σ.1 297 9) && xcm a1) then (if (σ.1 297 9) = a1 then ((X iReader_step 0 [(2, 297)] [] σ).bind fun q1 => X iReader_passWord 27 [(2, 297), (2, a1)] [] q1.2)
      else if (σ.1 297 14) = (-1) then (if xin (σ.1 297 7) 401 then some ((0, 0), (xs σ 297 14 (σ.1 299 (σ.1 297 7).toNat)))
        else none)
      else some ((0, 0), σ))
    else none)
  else if (σ.1 297 14) = (-1) then (if xin (σ.1 297 7) 401 then some ((0, 0), (xs σ 297 14 (σ.1 299 (σ.1 297 7).toNat)))
    else none)
  else some ((0, 0), σ) :=
  xev_eq (E := xE1) (F := xFk) (P := xPg) (inl := [280]) (stop := [27]) 28 iReader_passWord 0 [(2, 297), (2, a1)] [] σ
set_option maxRecDepth 20000 in
theorem qReader_passWord_27 (vw0 vw1 : xAV) (σ : xS) : X iReader_passWord 27 [vw0, vw1] [] σ =
  some ((0, 1), σ) :=
  xev_eq (E := xE1) (F := xFk) (P := xPg) (inl := [280]) (stop := [27]) 4 iReader_passWord 27 [vw0, vw1] [] σ
set_option maxRecDepth 20000 in
theorem qReader_passNumber_0 (σ : xS) : X iReader_passNumber 0 [(2, 297), (9, 0)] [] σ =
  if (σ.1 297 14) = (-1) then (if (xna 3 (σ.1 297 8)) = 3 then (if xin (σ.1 297 7) 401 then ((X iReader_step 0 [(2, 297)] [] σ).bind fun q1 => X iReader_passNumber 37 [(2, 297), (0, (σ.1 302 (σ.1 297 7).toNat))] [] q1.2)
      else none)
    else if (σ.1 297 14) = (-1) then (if xin (σ.1 297 7) 401 then some ((0, (-1)), (xs σ 297 14 (σ.1 299 (σ.1 297 7).toNat)))
      else none)
    else some ((0, (-1)), σ))
  else if (σ.1 297 14) = (-1) then (if xin (σ.1 297 7) 401 then some ((0, (-1)), (xs σ 297 14 (σ.1 299 (σ.1 297 7).toNat)))
    else none)
  else some ((0, (-1)), σ) :=
  xev_eq (E := xE1) (F := xFk) (P := xPg) (inl := [280]) (stop := [37]) 28 iReader_passNumber 0 [(2, 297), (9, 0)] [] σ
set_option maxRecDepth 20000 in
theorem qReader_passNumber_37 (v1 : Int) (vw0 : xAV) (σ : xS) : X iReader_passNumber 37 [vw0, (0, v1)] [] σ =
  some ((0, v1), σ) :=
  xev_eq (E := xE1) (F := xFk) (P := xPg) (inl := [280]) (stop := [37]) 4 iReader_passNumber 37 [vw0, (0, v1)] [] σ
set_option maxRecDepth 20000 in
theorem qReader_opens_0 (σ : xS) : X iReader_opens 0 [(2, 297)] [] σ =
  if (σ.1 297 10) < 10 then ((X iReader_step 0 [(2, 297)] [] (xs σ 297 10 (xw ((σ.1 297 10) + 1)))).bind fun q1 => X iReader_opens 30 [(2, 297)] [] q1.2)
  else if (σ.1 297 14) = (-1) then (if xin (σ.1 297 7) 401 then some ((0, 0), (xs σ 297 14 (σ.1 299 (σ.1 297 7).toNat)))
    else none)
  else some ((0, 0), σ) :=
  xev_eq (E := xE1) (F := xFk) (P := xPg) (inl := [280]) (stop := [30]) 24 iReader_opens 0 [(2, 297)] [] σ
set_option maxRecDepth 20000 in
theorem qReader_opens_30 (vw0 : xAV) (σ : xS) : X iReader_opens 30 [vw0] [] σ =
  some ((0, 1), σ) :=
  xev_eq (E := xE1) (F := xFk) (P := xPg) (inl := [280]) (stop := [30]) 4 iReader_opens 30 [vw0] [] σ
set_option maxRecDepth 20000 in
theorem qReader_closes_0 (a1 : Int) (σ : xS) : X iReader_closes 0 [(2, 297), (2, a1)] [] σ =
  if (σ.1 297 14) = (-1) then some ((2, a1), (xs σ 297 10 (xw ((σ.1 297 10) - 1))))
  else some ((2, 0), (xs σ 297 10 (xw ((σ.1 297 10) - 1)))) :=
  xev_eq (E := xE1) (F := xFk) (P := xPg) (inl := []) (stop := []) 15 iReader_closes 0 [(2, 297), (2, a1)] [] σ
set_option maxRecDepth 20000 in
theorem qReader_readStatement_0 (σ : xS) : X iReader_readStatement 0 [(2, 297), (9, 0)] [] σ =
  if (σ.1 297 9) = 0 then (if (σ.1 297 14) = (-1) then (if xin (σ.1 297 7) 401 then some ((2, 0), (xs σ 297 14 (σ.1 299 (σ.1 297 7).toNat)))
      else none)
    else some ((2, 0), σ))
  else bif xisO xE1 (xal xE1 σ 7 8) ((xnew xE1 σ : Nat) : Int) 7 then (bif Nat.beq ((xnew xE1 σ : Nat) : Int).toNat 0 then none
    else bif xisO xE1 (xal xE1 σ 7 8) ((xnew xE1 σ : Nat) : Int) 7 then (xob (xwr xE1 (xal xE1 σ 7 8) ((xnew xE1 σ : Nat) : Int) 1 (-1)) none fun s1 => bif xisO xE1 s1 ((xnew xE1 σ : Nat) : Int) 7 then (xob (xwr xE1 s1 ((xnew xE1 σ : Nat) : Int) 4 108) none fun s2 => bif xisO xE1 s2 ((xnew xE1 σ : Nat) : Int) 7 then (xob (xwr xE1 s2 ((xnew xE1 σ : Nat) : Int) 0 ((xal xE1 σ 7 8).1 297 9)) none fun s3 => bif xisO xE1 s3 (s3.1 297 9) 50 then (xob (xfld xE1 s3 (s3.1 297 9) 50 0) none fun w4 => if xin w4 38 then (if (xag xE1 s3 41 w4.toNat) = 1 then ((X iReader_step 0 [(2, 297)] [] s3).bind fun q11 => X iReader_readStatement 128 [(2, 297), (2, ((xnew xE1 σ : Nat) : Int))] [] q11.2)
              else if (xag xE1 s3 41 w4.toNat) = 2 then ((X iReader_step 0 [(2, 297)] [] s3).bind fun q10 => X iReader_readStatement 140 [(2, 297), (2, ((xnew xE1 σ : Nat) : Int))] [] q10.2)
              else if (xag xE1 s3 41 w4.toNat) = 3 then ((X iReader_step 0 [(2, 297)] [] s3).bind fun q9 => X iReader_readStatement 167 [(2, 297), (2, ((xnew xE1 σ : Nat) : Int))] [] q9.2)
              else if (xag xE1 s3 41 w4.toNat) = 4 then ((X iReader_step 0 [(2, 297)] [] s3).bind fun q8 => X iReader_readStatement 186 [(2, 297), (2, ((xnew xE1 σ : Nat) : Int))] [] q8.2)
              else if (xag xE1 s3 41 w4.toNat) = 5 then ((X iReader_step 0 [(2, 297)] [] s3).bind fun q7 => X iReader_readStatement 201 [(2, 297), (2, ((xnew xE1 σ : Nat) : Int))] [] q7.2)
              else if (xag xE1 s3 41 w4.toNat) = 6 then ((X iReader_step 0 [(2, 297)] [] s3).bind fun q6 => X iReader_readStatement 216 [(2, 297), (2, ((xnew xE1 σ : Nat) : Int))] [] q6.2)
              else if (xag xE1 s3 41 w4.toNat) = 7 then (if (s3.1 297 14) = (-1) then (if xin (s3.1 297 7) 401 then some ((2, 0), (xs s3 297 14 (s3.1 299 (s3.1 297 7).toNat)))
                  else none)
                else some ((2, 0), s3))
              else if (xag xE1 s3 41 w4.toNat) = 8 then (if (s3.1 297 14) = (-1) then (if xin (s3.1 297 7) 401 then some ((2, 0), (xs s3 297 14 (s3.1 299 (s3.1 297 7).toNat)))
                  else none)
                else some ((2, 0), s3))
              else if (xag xE1 s3 41 w4.toNat) = 9 then (if (s3.1 297 14) = (-1) then (if xin (s3.1 297 7) 401 then some ((2, 0), (xs s3 297 14 (s3.1 299 (s3.1 297 7).toNat)))
                  else none)
                else some ((2, 0), s3))
              else if (xag xE1 s3 41 w4.toNat) = 10 then (if (s3.1 297 14) = (-1) then (if xin (s3.1 297 7) 401 then some ((2, 0), (xs s3 297 14 (s3.1 299 (s3.1 297 7).toNat)))
                  else none)
                else some ((2, 0), s3))
              else if (xag xE1 s3 41 w4.toNat) = 11 then (if (s3.1 297 14) = (-1) then (if xin (s3.1 297 7) 401 then some ((2, 0), (xs s3 297 14 (s3.1 299 (s3.1 297 7).toNat)))
                  else none)
                else some ((2, 0), s3))
              else if (xag xE1 s3 41 w4.toNat) = 12 then (if (s3.1 297 14) = (-1) then (if xin (s3.1 297 7) 401 then some ((2, 0), (xs s3 297 14 (s3.1 299 (s3.1 297 7).toNat)))
                  else none)
                else some ((2, 0), s3))
              else if (xag xE1 s3 41 w4.toNat) = 13 then (if (s3.1 297 14) = (-1) then (if xin (s3.1 297 7) 401 then some ((2, 0), (xs s3 297 14 (s3.1 299 (s3.1 297 7).toNat)))
                  else none)
                else some ((2, 0), s3))
              else if (xag xE1 s3 41 w4.toNat) = 14 then (if (s3.1 297 14) = (-1) then (if xin (s3.1 297 7) 401 then some ((2, 0), (xs s3 297 14 (s3.1 299 (s3.1 297 7).toNat)))
                  else none)
                else some ((2, 0), s3))
              else if (xag xE1 s3 41 w4.toNat) = 15 then (if (s3.1 297 14) = (-1) then (if xin (s3.1 297 7) 401 then some ((2, 0), (xs s3 297 14 (s3.1 299 (s3.1 297 7).toNat)))
                  else none)
                else some ((2, 0), s3))
              else if (xag xE1 s3 41 w4.toNat) = 16 then (if (s3.1 297 14) = (-1) then (if xin (s3.1 297 7) 401 then some ((2, 0), (xs s3 297 14 (s3.1 299 (s3.1 297 7).toNat)))
                  else none)
                else some ((2, 0), s3))
              else if (xag xE1 s3 41 w4.toNat) = 17 then (if (s3.1 297 14) = (-1) then (if xin (s3.1 297 7) 401 then some ((2, 0), (xs s3 297 14 (s3.1 299 (s3.1 297 7).toNat)))
                  else none)
                else some ((2, 0), s3))
              else if (xag xE1 s3 41 w4.toNat) = 18 then (if (s3.1 297 14) = (-1) then (if xin (s3.1 297 7) 401 then some ((2, 0), (xs s3 297 14 (s3.1 299 (s3.1 297 7).toNat)))
                  else none)
                else some ((2, 0), s3))
              else if (xag xE1 s3 41 w4.toNat) = 19 then ((X iReader_step 0 [(2, 297)] [] s3).bind fun q5 => X iReader_readStatement 179 [(2, 297), (2, ((xnew xE1 σ : Nat) : Int))] [] q5.2)
              else if (s3.1 297 14) = (-1) then (if xin (s3.1 297 7) 401 then some ((2, 0), (xs s3 297 14 (s3.1 299 (s3.1 297 7).toNat)))
                else none)
              else some ((2, 0), s3))
            else none)
          else none)
        else none)
      else none)
    else none)
  else none :=
  xev_eq (E := xE1) (F := xFk) (P := xPg) (inl := [253, 280, 356]) (stop := [128, 133, 140, 153, 167, 172, 179, 186, 194, 201, 209, 216, 224, 245]) 48 iReader_readStatement 0 [(2, 297), (9, 0)] [] σ
set_option maxRecDepth 20000 in
theorem qReader_readStatement_128 (v1 : Int) (σ : xS) : X iReader_readStatement 128 [(2, 297), (2, v1)] [] σ =
  (X iReader_readNewName 0 [(2, 297), (2, v1), (9, 0), (9, 0), (9, 0)] [] σ).bind fun q1 => X iReader_readStatement 133 [(2, 297), (2, v1)] [] q1.2 :=
  xev_eq (E := xE1) (F := xFk) (P := xPg) (inl := [253, 280, 356]) (stop := [128, 133, 140, 153, 167, 172, 179, 186, 194, 201, 209, 216, 224, 245]) 5 iReader_readStatement 128 [(2, 297), (2, v1)] [] σ
set_option maxRecDepth 20000 in
theorem qReader_readStatement_133 (v1 : Int) (σ : xS) : X iReader_readStatement 133 [(2, 297), (2, v1)] [] σ =
  if (σ.1 297 14) = (-1) then ((X iReader_readRest 0 [(2, 297), (2, v1), (9, 0)] [] σ).bind fun q1 => X iReader_readStatement 245 [(2, 297), (2, v1)] [q1.1] q1.2)
  else some ((2, 0), σ) :=
  xev_eq (E := xE1) (F := xFk) (P := xPg) (inl := [253, 280, 356]) (stop := [128, 133, 140, 153, 167, 172, 179, 186, 194, 201, 209, 216, 224, 245]) 10 iReader_readStatement 133 [(2, 297), (2, v1)] [] σ
set_option maxRecDepth 20000 in
theorem qReader_readStatement_140 (v1 : Int) (σ : xS) : X iReader_readStatement 140 [(2, 297), (2, v1)] [] σ =
  if (xna 3 (σ.1 297 8)) = 3 then ((X iReader_passNumber 0 [(2, 297), (9, 0)] [] σ).bind fun q1 => X iReader_readStatement 153 [(2, 297), (2, v1)] [q1.1, (2, v1)] q1.2)
  else bif xisO xE1 σ v1 7 then (xob (xwr xE1 σ v1 1 (-1)) none fun s2 => if (s2.1 297 14) = (-1) then ((X iReader_readRest 0 [(2, 297), (2, v1), (9, 0)] [] s2).bind fun q3 => X iReader_readStatement 245 [(2, 297), (2, v1)] [q3.1] q3.2)
    else some ((2, 0), s2))
  else none :=
  xev_eq (E := xE1) (F := xFk) (P := xPg) (inl := [253, 280, 356]) (stop := [128, 133, 140, 153, 167, 172, 179, 186, 194, 201, 209, 216, 224, 245]) 17 iReader_readStatement 140 [(2, 297), (2, v1)] [] σ
set_option maxRecDepth 20000 in
theorem qReader_readStatement_153 (v1 t0 t1 : Int) (σ : xS) : X iReader_readStatement 153 [(2, 297), (2, v1)] [(0, t0), (2, t1)] σ =
  bif xisO xE1 σ t1 7 then (xob (xwr xE1 σ t1 1 t0) none fun s1 => if (s1.1 297 14) = (-1) then ((X iReader_readRest 0 [(2, 297), (2, v1), (9, 0)] [] s1).bind fun q2 => X iReader_readStatement 245 [(2, 297), (2, v1)] [q2.1] q2.2)
    else some ((2, 0), s1))
  else none :=
  xev_eq (E := xE1) (F := xFk) (P := xPg) (inl := [253, 280, 356]) (stop := [128, 133, 140, 153, 167, 172, 179, 186, 194, 201, 209, 216, 224, 245]) 12 iReader_readStatement 153 [(2, 297), (2, v1)] [(0, t0), (2, t1)] σ
set_option maxRecDepth 20000 in
theorem qReader_readStatement_167 (v1 : Int) (σ : xS) : X iReader_readStatement 167 [(2, 297), (2, v1)] [] σ =
  (X iReader_readParty 0 [(2, 297), (2, v1)] [] σ).bind fun q1 => X iReader_readStatement 172 [(2, 297), (2, v1)] [] q1.2 :=
  xev_eq (E := xE1) (F := xFk) (P := xPg) (inl := [253, 280, 356]) (stop := [128, 133, 140, 153, 167, 172, 179, 186, 194, 201, 209, 216, 224, 245]) 5 iReader_readStatement 167 [(2, 297), (2, v1)] [] σ
set_option maxRecDepth 20000 in
theorem qReader_readStatement_172 (v1 : Int) (σ : xS) : X iReader_readStatement 172 [(2, 297), (2, v1)] [] σ =
  if (σ.1 297 14) = (-1) then ((X iReader_readRest 0 [(2, 297), (2, v1), (9, 0)] [] σ).bind fun q1 => X iReader_readStatement 245 [(2, 297), (2, v1)] [q1.1] q1.2)
  else some ((2, 0), σ) :=
  xev_eq (E := xE1) (F := xFk) (P := xPg) (inl := [253, 280, 356]) (stop := [128, 133, 140, 153, 167, 172, 179, 186, 194, 201, 209, 216, 224, 245]) 10 iReader_readStatement 172 [(2, 297), (2, v1)] [] σ
set_option maxRecDepth 20000 in
theorem qReader_readStatement_179 (v1 : Int) (σ : xS) : X iReader_readStatement 179 [(2, 297), (2, v1)] [] σ =
  if (σ.1 297 14) = (-1) then ((X iReader_readRest 0 [(2, 297), (2, v1), (9, 0)] [] σ).bind fun q1 => X iReader_readStatement 245 [(2, 297), (2, v1)] [q1.1] q1.2)
  else some ((2, 0), σ) :=
  xev_eq (E := xE1) (F := xFk) (P := xPg) (inl := [253, 280, 356]) (stop := [128, 133, 140, 153, 167, 172, 179, 186, 194, 201, 209, 216, 224, 245]) 10 iReader_readStatement 179 [(2, 297), (2, v1)] [] σ
set_option maxRecDepth 20000 in
theorem qReader_readStatement_186 (v1 : Int) (σ : xS) : X iReader_readStatement 186 [(2, 297), (2, v1)] [] σ =
  (X iReader_readPair 0 [(2, 297), (2, v1), (2, 12)] [] σ).bind fun q1 => X iReader_readStatement 194 [(2, 297), (2, v1)] [] q1.2 :=
  xev_eq (E := xE1) (F := xFk) (P := xPg) (inl := [253, 280, 356]) (stop := [128, 133, 140, 153, 167, 172, 179, 186, 194, 201, 209, 216, 224, 245]) 6 iReader_readStatement 186 [(2, 297), (2, v1)] [] σ
set_option maxRecDepth 20000 in
theorem qReader_readStatement_194 (v1 : Int) (σ : xS) : X iReader_readStatement 194 [(2, 297), (2, v1)] [] σ =
  if (σ.1 297 14) = (-1) then ((X iReader_readRest 0 [(2, 297), (2, v1), (9, 0)] [] σ).bind fun q1 => X iReader_readStatement 245 [(2, 297), (2, v1)] [q1.1] q1.2)
  else some ((2, 0), σ) :=
  xev_eq (E := xE1) (F := xFk) (P := xPg) (inl := [253, 280, 356]) (stop := [128, 133, 140, 153, 167, 172, 179, 186, 194, 201, 209, 216, 224, 245]) 10 iReader_readStatement 194 [(2, 297), (2, v1)] [] σ
set_option maxRecDepth 20000 in
theorem qReader_readStatement_201 (v1 : Int) (σ : xS) : X iReader_readStatement 201 [(2, 297), (2, v1)] [] σ =
  (X iReader_readPair 0 [(2, 297), (2, v1), (2, 14)] [] σ).bind fun q1 => X iReader_readStatement 209 [(2, 297), (2, v1)] [] q1.2 :=
  xev_eq (E := xE1) (F := xFk) (P := xPg) (inl := [253, 280, 356]) (stop := [128, 133, 140, 153, 167, 172, 179, 186, 194, 201, 209, 216, 224, 245]) 6 iReader_readStatement 201 [(2, 297), (2, v1)] [] σ
set_option maxRecDepth 20000 in
theorem qReader_readStatement_209 (v1 : Int) (σ : xS) : X iReader_readStatement 209 [(2, 297), (2, v1)] [] σ =
  if (σ.1 297 14) = (-1) then ((X iReader_readRest 0 [(2, 297), (2, v1), (9, 0)] [] σ).bind fun q1 => X iReader_readStatement 245 [(2, 297), (2, v1)] [q1.1] q1.2)
  else some ((2, 0), σ) :=
  xev_eq (E := xE1) (F := xFk) (P := xPg) (inl := [253, 280, 356]) (stop := [128, 133, 140, 153, 167, 172, 179, 186, 194, 201, 209, 216, 224, 245]) 10 iReader_readStatement 209 [(2, 297), (2, v1)] [] σ
set_option maxRecDepth 20000 in
theorem qReader_readStatement_216 (v1 : Int) (σ : xS) : X iReader_readStatement 216 [(2, 297), (2, v1)] [] σ =
  (X iReader_readPair 0 [(2, 297), (2, v1), (2, 15)] [] σ).bind fun q1 => X iReader_readStatement 224 [(2, 297), (2, v1)] [] q1.2 :=
  xev_eq (E := xE1) (F := xFk) (P := xPg) (inl := [253, 280, 356]) (stop := [128, 133, 140, 153, 167, 172, 179, 186, 194, 201, 209, 216, 224, 245]) 6 iReader_readStatement 216 [(2, 297), (2, v1)] [] σ
set_option maxRecDepth 20000 in
theorem qReader_readStatement_224 (v1 : Int) (σ : xS) : X iReader_readStatement 224 [(2, 297), (2, v1)] [] σ =
  if (σ.1 297 14) = (-1) then ((X iReader_readRest 0 [(2, 297), (2, v1), (9, 0)] [] σ).bind fun q1 => X iReader_readStatement 245 [(2, 297), (2, v1)] [q1.1] q1.2)
  else some ((2, 0), σ) :=
  xev_eq (E := xE1) (F := xFk) (P := xPg) (inl := [253, 280, 356]) (stop := [128, 133, 140, 153, 167, 172, 179, 186, 194, 201, 209, 216, 224, 245]) 10 iReader_readStatement 224 [(2, 297), (2, v1)] [] σ
set_option maxRecDepth 20000 in
theorem qReader_readStatement_245 (t0 : Int) (vw0 vw1 : xAV) (σ : xS) : X iReader_readStatement 245 [vw0, vw1] [(2, t0)] σ =
  some ((2, t0), σ) :=
  xev_eq (E := xE1) (F := xFk) (P := xPg) (inl := [253, 280, 356]) (stop := [128, 133, 140, 153, 167, 172, 179, 186, 194, 201, 209, 216, 224, 245]) 4 iReader_readStatement 245 [vw0, vw1] [(2, t0)] σ
set_option maxRecDepth 20000 in
theorem qReader_readRest_0 (a1 : Int) (σ : xS) : X iReader_readRest 0 [(2, 297), (2, a1), (9, 0)] [] σ =
  xob (xfld xE1 σ a1 7 0) none fun w1 => bif (xcm w1 && xcm 7) then (if w1 = 7 then some ((2, a1), σ)
    else xob (xfld xE1 σ a1 7 0) none fun w2 => bif (xcm w2 && xcm 8) then (if w2 = 8 then some ((2, a1), σ)
      else xob (xfld xE1 σ a1 7 0) none fun w3 => bif (xcm w3 && xcm 6) then (if w3 = 6 then ((X iReader_passWord 0 [(2, 297), (2, 13)] [] σ).bind fun q4 => X iReader_readRest 39 [(2, 297), (2, a1), (9, 0)] [q4.1] q4.2)
        else (X iReader_pass 0 [(2, 297), (0, 61)] [] σ).bind fun q5 => X iReader_readRest 48 [(2, 297), (2, a1), (9, 0)] [q5.1] q5.2)
      else none)
    else none)
  else none :=
  xev_eq (E := xE1) (F := xFk) (P := xPg) (inl := []) (stop := [39, 48, 58]) 17 iReader_readRest 0 [(2, 297), (2, a1), (9, 0)] [] σ
set_option maxRecDepth 20000 in
theorem qReader_readRest_39 (v1 t0 : Int) (vw2 : xAV) (σ : xS) : X iReader_readRest 39 [(2, 297), (2, v1), vw2] [(0, t0)] σ =
  X iReader_readRest 48 [(2, 297), (2, v1), vw2] [(0, t0)] σ :=
  xev_eq (E := xE1) (F := xFk) (P := xPg) (inl := []) (stop := [39, 48, 58]) 3 iReader_readRest 39 [(2, 297), (2, v1), vw2] [(0, t0)] σ
set_option maxRecDepth 20000 in
theorem qReader_readRest_48 (v1 t0 : Int) (vw2 : xAV) (σ : xS) : X iReader_readRest 48 [(2, 297), (2, v1), vw2] [(0, t0)] σ =
  if t0 = 0 then (bif xisO xE1 σ v1 7 then (xob (xwr xE1 σ v1 6 0) none fun s1 => if (s1.1 297 14) = (-1) then some ((2, v1), s1)
      else some ((2, 0), s1))
    else none)
  else (X iReader_readEx 0 [(2, 297)] [] σ).bind fun q2 => X iReader_readRest 58 [(2, 297), (2, v1), (0, t0)] [q2.1, (2, v1)] q2.2 :=
  xev_eq (E := xE1) (F := xFk) (P := xPg) (inl := []) (stop := [39, 48, 58]) 15 iReader_readRest 48 [(2, 297), (2, v1), vw2] [(0, t0)] σ
set_option maxRecDepth 20000 in
theorem qReader_readRest_58 (v1 t0 t1 : Int) (vw2 : xAV) (σ : xS) : X iReader_readRest 58 [(2, 297), (2, v1), vw2] [(2, t0), (2, t1)] σ =
  bif xisO xE1 σ t1 7 then (xob (xwr xE1 σ t1 6 t0) none fun s1 => if (s1.1 297 14) = (-1) then some ((2, v1), s1)
    else some ((2, 0), s1))
  else none :=
  xev_eq (E := xE1) (F := xFk) (P := xPg) (inl := []) (stop := [39, 48, 58]) 11 iReader_readRest 58 [(2, 297), (2, v1), vw2] [(2, t0), (2, t1)] σ
set_option maxRecDepth 20000 in
theorem qReader_readNewName_0 (a1 : Int) (σ : xS) : X iReader_readNewName 0 [(2, 297), (2, a1), (9, 0), (9, 0), (9, 0)] [] σ =
  if (xna 3 (σ.1 297 8)) = 2 then (if (σ.1 297 9) = 0 then (if xin (σ.1 297 7) 401 then (if xin (σ.1 297 7) 401 then (if 8 < (xw ((σ.1 300 (σ.1 297 7).toNat) - (σ.1 299 (σ.1 297 7).toNat))) then (if (σ.1 297 14) = (-1) then (if xin (σ.1 297 7) 401 then some ((9, 0), (xs σ 297 14 (σ.1 299 (σ.1 297 7).toNat)))
              else none)
            else some ((9, 0), σ))
          else (X iReader_letHere 0 [(2, 297), (9, 0)] [] σ).bind fun q1 => X iReader_readNewName 53 [(2, 297), (2, a1), (0, 1), (9, 0), (9, 0)] [q1.1] q1.2)
        else none)
      else none)
    else if (σ.1 297 14) = (-1) then (if xin (σ.1 297 7) 401 then some ((9, 0), (xs σ 297 14 (σ.1 299 (σ.1 297 7).toNat)))
      else none)
    else some ((9, 0), σ))
  else if (σ.1 297 14) = (-1) then (if xin (σ.1 297 7) 401 then some ((9, 0), (xs σ 297 14 (σ.1 299 (σ.1 297 7).toNat)))
    else none)
  else some ((9, 0), σ) :=
  xev_eq (E := xE1) (F := xFk) (P := xPg) (inl := [280, 339, 378, 407, 408]) (stop := [53, 81, 106, 118, 133]) 43 iReader_readNewName 0 [(2, 297), (2, a1), (9, 0), (9, 0), (9, 0)] [] σ
set_option maxRecDepth 20000 in
theorem qReader_readNewName_53 (v1 t0 : Int) (vw2 vw3 vw4 : xAV) (σ : xS) : X iReader_readNewName 53 [(2, 297), (2, v1), vw2, vw3, vw4] [(2, t0)] σ =
  if t0 = 0 then (bif xisO xE1 (xal xE1 σ 1 4) ((xnew xE1 σ : Nat) : Int) 1 then (bif xisO xE1 (xal xE1 σ 1 4) ((xnew xE1 σ : Nat) : Int) 1 then (bif Nat.beq ((xnew xE1 σ : Nat) : Int).toNat 0 then none
        else bif xisO xE1 (xal xE1 (xal xE1 σ 1 4) 102 16) ((xnew xE1 σ : Nat) : Int) 1 then (xob (xwr xE1 (xal xE1 (xal xE1 σ 1 4) 102 16) ((xnew xE1 σ : Nat) : Int) 0 ((xnew xE1 (xal xE1 σ 1 4) : Nat) : Int)) none fun s1 => bif xisO xE1 s1 ((xnew xE1 σ : Nat) : Int) 1 then (xob (xwr xE1 s1 ((xnew xE1 σ : Nat) : Int) 1 0) none fun s2 => if xin (s2.1 297 7) 401 then X iReader_readNewName 81 [(2, 297), (2, v1), (xkl vw2), (2, ((xnew xE1 σ : Nat) : Int)), (0, (s2.1 299 (s2.1 297 7).toNat))] [] s2
            else none)
          else none)
        else none)
      else none)
    else none)
  else if (σ.1 297 14) = (-1) then (if xin (σ.1 297 7) 401 then some ((9, 0), (xs σ 297 14 (σ.1 299 (σ.1 297 7).toNat)))
    else none)
  else some ((9, 0), σ) :=
  xev_eq (E := xE1) (F := xFk) (P := xPg) (inl := [280, 339, 378, 407, 408]) (stop := [53, 81, 106, 118, 133]) 30 iReader_readNewName 53 [(2, 297), (2, v1), vw2, vw3, vw4] [(2, t0)] σ
set_option maxRecDepth 20000 in
theorem qReader_readNewName_81 (v1 v3 v4 : Int) (vw2 : xAV) (σ : xS) : X iReader_readNewName 81 [(2, 297), (2, v1), vw2, (2, v3), (0, v4)] [] σ =
  if xin (σ.1 297 7) 401 then (if v4 < (σ.1 300 (σ.1 297 7).toNat) then (xob (xarr xE1 σ (σ.1 297 0) 3) none fun n1 => if xin v4 n1 then (bif xisO xE1 σ v3 1 then ((X iJB_append1 0 [(2, v3), (0, (xna 3 (xag xE1 σ (σ.1 297 0) v4.toNat)))] [] σ).bind fun q2 => X iReader_readNewName 106 [(2, 297), (2, v1), vw2, (2, v3), (0, v4)] [q2.1] q2.2)
        else none)
      else none)
    else bif xisO xE1 σ v3 1 then ((X iJB_toString 0 [(2, v3)] [] σ).bind fun q3 => X iReader_readNewName 118 [(2, 297), (2, v1), vw2, (2, v3), (0, v4)] [q3.1, (2, v1)] q3.2)
    else none)
  else none :=
  xev_eq (E := xE1) (F := xFk) (P := xPg) (inl := [280, 339, 378, 407, 408]) (stop := [53, 81, 106, 118, 133]) 15 iReader_readNewName 81 [(2, 297), (2, v1), vw2, (2, v3), (0, v4)] [] σ
set_option maxRecDepth 20000 in
theorem qReader_readNewName_106 (v1 v3 v4 t0 : Int) (vw2 : xAV) (σ : xS) : X iReader_readNewName 106 [(2, 297), (2, v1), vw2, (2, v3), (0, v4)] [(2, t0)] σ =
  X iReader_readNewName 81 [(2, 297), (2, v1), vw2, (2, v3), (0, (xw (v4 + 1)))] [] σ :=
  xev_eq (E := xE1) (F := xFk) (P := xPg) (inl := [280, 339, 378, 407, 408]) (stop := [53, 81, 106, 118, 133]) 5 iReader_readNewName 106 [(2, 297), (2, v1), vw2, (2, v3), (0, v4)] [(2, t0)] σ
set_option maxRecDepth 20000 in
theorem qReader_readNewName_118 (v1 t0 t1 : Int) (vw2 vw3 vw4 : xAV) (σ : xS) : X iReader_readNewName 118 [(2, 297), (2, v1), vw2, vw3, vw4] [(2, t0), (2, t1)] σ =
  bif xisO xE1 σ t1 7 then (xob (xwr xE1 σ t1 4 t0) none fun s1 => bif xisO xE1 s1 v1 7 then (xob (xwr xE1 s1 v1 1 (s1.1 297 13)) none fun s2 => (X iReader_step 0 [(2, 297)] [] s2).bind fun q3 => X iReader_readNewName 133 [(2, 297), (2, v1), vw2, vw3, vw4] [] q3.2)
    else none)
  else none :=
  xev_eq (E := xE1) (F := xFk) (P := xPg) (inl := [280, 339, 378, 407, 408]) (stop := [53, 81, 106, 118, 133]) 9 iReader_readNewName 118 [(2, 297), (2, v1), vw2, vw3, vw4] [(2, t0), (2, t1)] σ
set_option maxRecDepth 20000 in
theorem qReader_readNewName_133 (vw0 vw1 vw2 vw3 vw4 : xAV) (σ : xS) : X iReader_readNewName 133 [vw0, vw1, vw2, vw3, vw4] [] σ =
  some ((9, 0), σ) :=
  xev_eq (E := xE1) (F := xFk) (P := xPg) (inl := [280, 339, 378, 407, 408]) (stop := [53, 81, 106, 118, 133]) 3 iReader_readNewName 133 [vw0, vw1, vw2, vw3, vw4] [] σ
set_option maxRecDepth 20000 in
theorem qReader_readParty_0 (a1 : Int) (σ : xS) : X iReader_readParty 0 [(2, 297), (2, a1)] [] σ =
  bif (xcm (σ.1 297 9) && xcm 9) then (if (σ.1 297 9) = 9 then (bif xisO xE1 σ a1 7 then (xob (xwr xE1 σ a1 3 (σ.1 297 9)) none fun s1 => (X iReader_step 0 [(2, 297)] [] s1).bind fun q2 => X iReader_readParty 48 [(2, 297), (2, a1)] [] q2.2)
      else none)
    else bif (xcm (σ.1 297 9) && xcm 10) then (if (σ.1 297 9) = 10 then (bif xisO xE1 σ a1 7 then (xob (xwr xE1 σ a1 3 (σ.1 297 9)) none fun s3 => (X iReader_step 0 [(2, 297)] [] s3).bind fun q4 => X iReader_readParty 48 [(2, 297), (2, a1)] [] q4.2)
        else none)
      else bif (xcm (σ.1 297 9) && xcm 11) then (if (σ.1 297 9) = 11 then (bif xisO xE1 σ a1 7 then (xob (xwr xE1 σ a1 3 (σ.1 297 9)) none fun s5 => (X iReader_step 0 [(2, 297)] [] s5).bind fun q6 => X iReader_readParty 48 [(2, 297), (2, a1)] [] q6.2)
          else none)
        else if (σ.1 297 14) = (-1) then (if xin (σ.1 297 7) 401 then some ((9, 0), (xs σ 297 14 (σ.1 299 (σ.1 297 7).toNat)))
          else none)
        else some ((9, 0), σ))
      else none)
    else none)
  else none :=
  xev_eq (E := xE1) (F := xFk) (P := xPg) (inl := [280]) (stop := [48]) 31 iReader_readParty 0 [(2, 297), (2, a1)] [] σ
set_option maxRecDepth 20000 in
theorem qReader_readParty_48 (vw0 vw1 : xAV) (σ : xS) : X iReader_readParty 48 [vw0, vw1] [] σ =
  some ((9, 0), σ) :=
  xev_eq (E := xE1) (F := xFk) (P := xPg) (inl := [280]) (stop := [48]) 3 iReader_readParty 48 [vw0, vw1] [] σ
set_option maxRecDepth 20000 in
theorem qReader_readPair_0 (a1 a2 : Int) (σ : xS) : X iReader_readPair 0 [(2, 297), (2, a1), (2, a2)] [] σ =
  (X iReader_passNumber 0 [(2, 297), (9, 0)] [] σ).bind fun q1 => X iReader_readPair 5 [(2, 297), (2, a1), (2, a2)] [q1.1, (2, a1)] q1.2 :=
  xev_eq (E := xE1) (F := xFk) (P := xPg) (inl := []) (stop := [5, 13, 19]) 5 iReader_readPair 0 [(2, 297), (2, a1), (2, a2)] [] σ
set_option maxRecDepth 20000 in
theorem qReader_readPair_5 (v1 v2 t0 t1 : Int) (σ : xS) : X iReader_readPair 5 [(2, 297), (2, v1), (2, v2)] [(0, t0), (2, t1)] σ =
  bif xisO xE1 σ t1 7 then (xob (xwr xE1 σ t1 1 t0) none fun s1 => (X iReader_passWord 0 [(2, 297), (2, v2)] [] s1).bind fun q2 => X iReader_readPair 13 [(2, 297), (2, v1), (2, v2)] [q2.1] q2.2)
  else none :=
  xev_eq (E := xE1) (F := xFk) (P := xPg) (inl := []) (stop := [5, 13, 19]) 6 iReader_readPair 5 [(2, 297), (2, v1), (2, v2)] [(0, t0), (2, t1)] σ
set_option maxRecDepth 20000 in
theorem qReader_readPair_13 (v1 t0 : Int) (vw2 : xAV) (σ : xS) : X iReader_readPair 13 [(2, 297), (2, v1), vw2] [(0, t0)] σ =
  (X iReader_passNumber 0 [(2, 297), (9, 0)] [] σ).bind fun q1 => X iReader_readPair 19 [(2, 297), (2, v1), vw2] [q1.1, (2, v1)] q1.2 :=
  xev_eq (E := xE1) (F := xFk) (P := xPg) (inl := []) (stop := [5, 13, 19]) 6 iReader_readPair 13 [(2, 297), (2, v1), vw2] [(0, t0)] σ
set_option maxRecDepth 20000 in
theorem qReader_readPair_19 (t0 t1 : Int) (vw0 vw1 vw2 : xAV) (σ : xS) : X iReader_readPair 19 [vw0, vw1, vw2] [(0, t0), (2, t1)] σ =
  bif xisO xE1 σ t1 7 then (xob (xwr xE1 σ t1 2 t0) none fun s1 => some ((9, 0), s1))
  else none :=
  xev_eq (E := xE1) (F := xFk) (P := xPg) (inl := []) (stop := [5, 13, 19]) 4 iReader_readPair 19 [vw0, vw1, vw2] [(0, t0), (2, t1)] σ
set_option maxRecDepth 20000 in
theorem qReader_letHere_0 (σ : xS) : X iReader_letHere 0 [(2, 297), (9, 0)] [] σ =
  X iReader_letHere 5 [(2, 297), (2, (σ.1 297 11))] [] σ :=
  xev_eq (E := xE1) (F := xFk) (P := xPg) (inl := []) (stop := [5, 31]) 5 iReader_letHere 0 [(2, 297), (9, 0)] [] σ
set_option maxRecDepth 20000 in
theorem qReader_letHere_5 (v1 : Int) (σ : xS) : X iReader_letHere 5 [(2, 297), (2, v1)] [] σ =
  if v1 = 0 then some ((2, 0), σ)
  else xob (xfld xE1 σ v1 7 0) none fun w1 => bif (xcm w1 && xcm 2) then (if w1 = 2 then (xob (xfld xE1 σ v1 7 4) none fun w2 => (X iReader_isWritten 0 [(2, 297), (2, w2), (0, (σ.1 297 7)), (9, 0), (9, 0)] [] σ).bind fun q3 => X iReader_letHere 31 [(2, 297), (2, v1)] [q3.1] q3.2)
    else xob (xfld xE1 σ v1 7 7) none fun w4 => X iReader_letHere 5 [(2, 297), (2, w4)] [] σ)
  else none :=
  xev_eq (E := xE1) (F := xFk) (P := xPg) (inl := []) (stop := [5, 31]) 14 iReader_letHere 5 [(2, 297), (2, v1)] [] σ
set_option maxRecDepth 20000 in
theorem qReader_letHere_31 (v1 t0 : Int) (σ : xS) : X iReader_letHere 31 [(2, 297), (2, v1)] [(0, t0)] σ =
  if t0 = 0 then (xob (xfld xE1 σ v1 7 7) none fun w1 => X iReader_letHere 5 [(2, 297), (2, w1)] [] σ)
  else some ((2, v1), σ) :=
  xev_eq (E := xE1) (F := xFk) (P := xPg) (inl := []) (stop := [5, 31]) 7 iReader_letHere 31 [(2, 297), (2, v1)] [(0, t0)] σ
set_option maxRecDepth 20000 in
theorem qReader_readEx_0 (σ : xS) : X iReader_readEx 0 [(2, 297)] [] σ =
  bif (xcm (σ.1 297 9) && xcm 16) then (if (σ.1 297 9) = 16 then (bif Nat.beq (xdp σ) 0 then none
      else (X iReader_readIf 0 [(2, 297), (9, 0), (9, 0), (9, 0)] [] (xsetdp σ (xdp σ - 1))).bind fun q1 => X iReader_readEx 14 [(2, 297)] [q1.1] (xsetdp q1.2 (xdp σ)))
    else bif Nat.beq (xdp σ) 0 then none
    else (X iReader_readSum 0 [(2, 297), (9, 0), (9, 0), (9, 0), (9, 0)] [] (xsetdp σ (xdp σ - 1))).bind fun q2 => X iReader_readEx 21 [(2, 297)] [q2.1] (xsetdp q2.2 (xdp σ)))
  else none :=
  xev_eq (E := xE1) (F := xFk) (P := xPg) (inl := []) (stop := [14, 21]) 8 iReader_readEx 0 [(2, 297)] [] σ
set_option maxRecDepth 20000 in
theorem qReader_readEx_14 (t0 : Int) (vw0 : xAV) (σ : xS) : X iReader_readEx 14 [vw0] [(2, t0)] σ =
  X iReader_readEx 21 [vw0] [(2, t0)] σ :=
  xev_eq (E := xE1) (F := xFk) (P := xPg) (inl := []) (stop := [14, 21]) 3 iReader_readEx 14 [vw0] [(2, t0)] σ
set_option maxRecDepth 20000 in
theorem qReader_readEx_21 (t0 : Int) (vw0 : xAV) (σ : xS) : X iReader_readEx 21 [vw0] [(2, t0)] σ =
  some ((2, t0), σ) :=
  xev_eq (E := xE1) (F := xFk) (P := xPg) (inl := []) (stop := [14, 21]) 3 iReader_readEx 21 [vw0] [(2, t0)] σ
set_option maxRecDepth 20000 in
theorem qReader_readIf_0 (σ : xS) : X iReader_readIf 0 [(2, 297), (9, 0), (9, 0), (9, 0)] [] σ =
  (X iReader_opens 0 [(2, 297)] [] σ).bind fun q1 => X iReader_readIf 4 [(2, 297), (9, 0), (9, 0), (9, 0)] [q1.1] q1.2 :=
  xev_eq (E := xE1) (F := xFk) (P := xPg) (inl := [253, 254]) (stop := [4, 13, 21, 28, 40, 47, 87]) 4 iReader_readIf 0 [(2, 297), (9, 0), (9, 0), (9, 0)] [] σ
set_option maxRecDepth 20000 in
theorem qReader_readIf_4 (t0 : Int) (vw1 vw2 vw3 : xAV) (σ : xS) : X iReader_readIf 4 [(2, 297), vw1, vw2, vw3] [(0, t0)] σ =
  if t0 = 0 then some ((2, 0), σ)
  else bif Nat.beq (xdp σ) 0 then none
  else (X iReader_readCond 0 [(2, 297), (9, 0), (9, 0), (9, 0)] [] (xsetdp σ (xdp σ - 1))).bind fun q1 => X iReader_readIf 13 [(2, 297), vw1, vw2, vw3] [q1.1] (xsetdp q1.2 (xdp σ)) :=
  xev_eq (E := xE1) (F := xFk) (P := xPg) (inl := [253, 254]) (stop := [4, 13, 21, 28, 40, 47, 87]) 5 iReader_readIf 4 [(2, 297), vw1, vw2, vw3] [(0, t0)] σ
set_option maxRecDepth 20000 in
theorem qReader_readIf_13 (t0 : Int) (vw1 vw2 vw3 : xAV) (σ : xS) : X iReader_readIf 13 [(2, 297), vw1, vw2, vw3] [(2, t0)] σ =
  (X iReader_passWord 0 [(2, 297), (2, 17)] [] σ).bind fun q1 => X iReader_readIf 21 [(2, 297), (2, t0), vw2, vw3] [q1.1] q1.2 :=
  xev_eq (E := xE1) (F := xFk) (P := xPg) (inl := [253, 254]) (stop := [4, 13, 21, 28, 40, 47, 87]) 6 iReader_readIf 13 [(2, 297), vw1, vw2, vw3] [(2, t0)] σ
set_option maxRecDepth 20000 in
theorem qReader_readIf_21 (v1 t0 : Int) (vw2 vw3 : xAV) (σ : xS) : X iReader_readIf 21 [(2, 297), (2, v1), vw2, vw3] [(0, t0)] σ =
  if t0 = 0 then ((X iReader_passWord 0 [(2, 297), (2, 18)] [] σ).bind fun q1 => X iReader_readIf 40 [(2, 297), (2, v1), (2, 0), vw3] [q1.1] q1.2)
  else bif Nat.beq (xdp σ) 0 then none
  else (X iReader_readEx 0 [(2, 297)] [] (xsetdp σ (xdp σ - 1))).bind fun q2 => X iReader_readIf 28 [(2, 297), (2, v1), vw2, vw3] [q2.1] (xsetdp q2.2 (xdp σ)) :=
  xev_eq (E := xE1) (F := xFk) (P := xPg) (inl := [253, 254]) (stop := [4, 13, 21, 28, 40, 47, 87]) 8 iReader_readIf 21 [(2, 297), (2, v1), vw2, vw3] [(0, t0)] σ
set_option maxRecDepth 20000 in
theorem qReader_readIf_28 (v1 t0 : Int) (vw2 vw3 : xAV) (σ : xS) : X iReader_readIf 28 [(2, 297), (2, v1), vw2, vw3] [(2, t0)] σ =
  (X iReader_passWord 0 [(2, 297), (2, 18)] [] σ).bind fun q1 => X iReader_readIf 40 [(2, 297), (2, v1), (2, t0), vw3] [q1.1] q1.2 :=
  xev_eq (E := xE1) (F := xFk) (P := xPg) (inl := [253, 254]) (stop := [4, 13, 21, 28, 40, 47, 87]) 7 iReader_readIf 28 [(2, 297), (2, v1), vw2, vw3] [(2, t0)] σ
set_option maxRecDepth 20000 in
theorem qReader_readIf_40 (v1 v2 t0 : Int) (vw3 : xAV) (σ : xS) : X iReader_readIf 40 [(2, 297), (2, v1), (2, v2), vw3] [(0, t0)] σ =
  if t0 = 0 then (if v1 = 0 then some ((2, 0), σ)
    else if v2 = 0 then some ((2, 0), σ)
    else some ((2, 0), σ))
  else bif Nat.beq (xdp σ) 0 then none
  else (X iReader_readEx 0 [(2, 297)] [] (xsetdp σ (xdp σ - 1))).bind fun q1 => X iReader_readIf 47 [(2, 297), (2, v1), (2, v2), vw3] [q1.1] (xsetdp q1.2 (xdp σ)) :=
  xev_eq (E := xE1) (F := xFk) (P := xPg) (inl := [253, 254]) (stop := [4, 13, 21, 28, 40, 47, 87]) 13 iReader_readIf 40 [(2, 297), (2, v1), (2, v2), vw3] [(0, t0)] σ
set_option maxRecDepth 20000 in
theorem qReader_readIf_47 (v1 v2 t0 : Int) (vw3 : xAV) (σ : xS) : X iReader_readIf 47 [(2, 297), (2, v1), (2, v2), vw3] [(2, t0)] σ =
  if v1 = 0 then some ((2, 0), σ)
  else if v2 = 0 then some ((2, 0), σ)
  else if t0 = 0 then some ((2, 0), σ)
  else bif xisO xE1 σ v2 7 then (xob (xwr xE1 σ v2 7 t0) none fun s1 => bif xisO xE1 s1 v1 7 then (xob (xwr xE1 s1 v1 7 v2) none fun s2 => bif xisO xE1 (xal xE1 s2 7 8) ((xnew xE1 s2 : Nat) : Int) 7 then (bif Nat.beq ((xnew xE1 s2 : Nat) : Int).toNat 0 then none
        else bif xisO xE1 (xal xE1 s2 7 8) ((xnew xE1 s2 : Nat) : Int) 7 then (xob (xwr xE1 (xal xE1 s2 7 8) ((xnew xE1 s2 : Nat) : Int) 1 (-1)) none fun s3 => bif xisO xE1 s3 ((xnew xE1 s2 : Nat) : Int) 7 then (xob (xwr xE1 s3 ((xnew xE1 s2 : Nat) : Int) 4 108) none fun s4 => bif xisO xE1 s4 ((xnew xE1 s2 : Nat) : Int) 7 then (xob (xwr xE1 s4 ((xnew xE1 s2 : Nat) : Int) 0 16) none fun s5 => bif xisO xE1 s5 ((xnew xE1 s2 : Nat) : Int) 7 then (xob (xwr xE1 s5 ((xnew xE1 s2 : Nat) : Int) 6 v1) none fun s6 => (X iReader_closes 0 [(2, 297), (2, ((xnew xE1 s2 : Nat) : Int))] [] s6).bind fun q7 => X iReader_readIf 87 [(2, 297), (2, v1), (2, v2), (2, t0)] [q7.1] q7.2)
              else none)
            else none)
          else none)
        else none)
      else none)
    else none)
  else none :=
  xev_eq (E := xE1) (F := xFk) (P := xPg) (inl := [253, 254]) (stop := [4, 13, 21, 28, 40, 47, 87]) 43 iReader_readIf 47 [(2, 297), (2, v1), (2, v2), vw3] [(2, t0)] σ
set_option maxRecDepth 20000 in
theorem qReader_readIf_87 (t0 : Int) (vw0 vw1 vw2 vw3 : xAV) (σ : xS) : X iReader_readIf 87 [vw0, vw1, vw2, vw3] [(2, t0)] σ =
  some ((2, t0), σ) :=
  xev_eq (E := xE1) (F := xFk) (P := xPg) (inl := [253, 254]) (stop := [4, 13, 21, 28, 40, 47, 87]) 3 iReader_readIf 87 [vw0, vw1, vw2, vw3] [(2, t0)] σ
set_option maxRecDepth 20000 in
theorem qReader_readSum_0 (σ : xS) : X iReader_readSum 0 [(2, 297), (9, 0), (9, 0), (9, 0), (9, 0)] [] σ =
  bif Nat.beq (xdp σ) 0 then none
  else (X iReader_readProd 0 [(2, 297), (9, 0), (9, 0), (9, 0), (9, 0)] [] (xsetdp σ (xdp σ - 1))).bind fun q1 => X iReader_readSum 4 [(2, 297), (9, 0), (9, 0), (9, 0), (9, 0)] [q1.1] (xsetdp q1.2 (xdp σ)) :=
  xev_eq (E := xE1) (F := xFk) (P := xPg) (inl := [253, 254]) (stop := [4, 39, 79, 86, 89]) 4 iReader_readSum 0 [(2, 297), (9, 0), (9, 0), (9, 0), (9, 0)] [] σ
set_option maxRecDepth 20000 in
theorem qReader_readSum_4 (t0 : Int) (vw1 vw2 vw3 vw4 : xAV) (σ : xS) : X iReader_readSum 4 [(2, 297), vw1, vw2, vw3, vw4] [(2, t0)] σ =
  if t0 = 0 then some ((2, t0), σ)
  else if (xna 3 (σ.1 297 8)) = 43 then (bif xisO xE1 (xal xE1 σ 7 8) ((xnew xE1 σ : Nat) : Int) 7 then (bif Nat.beq ((xnew xE1 σ : Nat) : Int).toNat 0 then none
      else bif xisO xE1 (xal xE1 σ 7 8) ((xnew xE1 σ : Nat) : Int) 7 then (xob (xwr xE1 (xal xE1 σ 7 8) ((xnew xE1 σ : Nat) : Int) 1 (-1)) none fun s1 => bif xisO xE1 s1 ((xnew xE1 σ : Nat) : Int) 7 then (xob (xwr xE1 s1 ((xnew xE1 σ : Nat) : Int) 4 108) none fun s2 => bif xisO xE1 s2 ((xnew xE1 σ : Nat) : Int) 7 then (xob (xwr xE1 s2 ((xnew xE1 σ : Nat) : Int) 0 36) none fun s3 => bif xisO xE1 s3 ((xnew xE1 σ : Nat) : Int) 7 then (xob (xwr xE1 s3 ((xnew xE1 σ : Nat) : Int) 6 t0) none fun s4 => X iReader_readSum 39 [(2, 297), (2, t0), (2, ((xnew xE1 σ : Nat) : Int)), (0, 0), vw4] [] s4)
            else none)
          else none)
        else none)
      else none)
    else none)
  else if (xna 3 (σ.1 297 8)) = 45 then (bif xisO xE1 (xal xE1 σ 7 8) ((xnew xE1 σ : Nat) : Int) 7 then (bif Nat.beq ((xnew xE1 σ : Nat) : Int).toNat 0 then none
      else bif xisO xE1 (xal xE1 σ 7 8) ((xnew xE1 σ : Nat) : Int) 7 then (xob (xwr xE1 (xal xE1 σ 7 8) ((xnew xE1 σ : Nat) : Int) 1 (-1)) none fun s5 => bif xisO xE1 s5 ((xnew xE1 σ : Nat) : Int) 7 then (xob (xwr xE1 s5 ((xnew xE1 σ : Nat) : Int) 4 108) none fun s6 => bif xisO xE1 s6 ((xnew xE1 σ : Nat) : Int) 7 then (xob (xwr xE1 s6 ((xnew xE1 σ : Nat) : Int) 0 36) none fun s7 => bif xisO xE1 s7 ((xnew xE1 σ : Nat) : Int) 7 then (xob (xwr xE1 s7 ((xnew xE1 σ : Nat) : Int) 6 t0) none fun s8 => X iReader_readSum 39 [(2, 297), (2, t0), (2, ((xnew xE1 σ : Nat) : Int)), (0, 0), vw4] [] s8)
            else none)
          else none)
        else none)
      else none)
    else none)
  else some ((2, t0), σ) :=
  xev_eq (E := xE1) (F := xFk) (P := xPg) (inl := [253, 254]) (stop := [4, 39, 79, 86, 89]) 41 iReader_readSum 4 [(2, 297), vw1, vw2, vw3, vw4] [(2, t0)] σ
set_option maxRecDepth 20000 in
theorem qReader_readSum_39 (v1 v2 v3 : Int) (vw4 : xAV) (σ : xS) : X iReader_readSum 39 [(2, 297), (2, v1), (2, v2), (0, v3), vw4] [] σ =
  if v3 < (σ.1 297 1) then (if v1 = 0 then (if v1 = 0 then some ((2, 0), σ)
      else some ((2, v2), σ))
    else if (xna 3 (σ.1 297 8)) = 43 then ((X iReader_step 0 [(2, 297)] [] σ).bind fun q1 => X iReader_readSum 79 [(2, 297), (2, v1), (2, v2), (0, v3), (0, (xna 3 (σ.1 297 8)))] [] q1.2)
    else if (xna 3 (σ.1 297 8)) = 45 then ((X iReader_step 0 [(2, 297)] [] σ).bind fun q2 => X iReader_readSum 79 [(2, 297), (2, v1), (2, v2), (0, v3), (0, (xna 3 (σ.1 297 8)))] [] q2.2)
    else if v1 = 0 then some ((2, 0), σ)
    else some ((2, v2), σ))
  else if v1 = 0 then some ((2, 0), σ)
  else some ((2, v2), σ) :=
  xev_eq (E := xE1) (F := xFk) (P := xPg) (inl := [253, 254]) (stop := [4, 39, 79, 86, 89]) 21 iReader_readSum 39 [(2, 297), (2, v1), (2, v2), (0, v3), vw4] [] σ
set_option maxRecDepth 20000 in
theorem qReader_readSum_79 (v1 v2 v3 v4 : Int) (σ : xS) : X iReader_readSum 79 [(2, 297), (2, v1), (2, v2), (0, v3), (0, v4)] [] σ =
  bif Nat.beq (xdp σ) 0 then none
  else (X iReader_readProd 0 [(2, 297), (9, 0), (9, 0), (9, 0), (9, 0)] [] (xsetdp σ (xdp σ - 1))).bind fun q1 => X iReader_readSum 86 [(2, 297), (2, v1), (2, v2), (0, v3), (0, v4)] [q1.1, (0, v4), (2, v1)] (xsetdp q1.2 (xdp σ)) :=
  xev_eq (E := xE1) (F := xFk) (P := xPg) (inl := [253, 254]) (stop := [4, 39, 79, 86, 89]) 6 iReader_readSum 79 [(2, 297), (2, v1), (2, v2), (0, v3), (0, v4)] [] σ
set_option maxRecDepth 20000 in
theorem qReader_readSum_86 (v2 v3 t0 t1 t2 : Int) (vw1 vw4 : xAV) (σ : xS) : X iReader_readSum 86 [(2, 297), vw1, (2, v2), (0, v3), vw4] [(2, t0), (0, t1), (2, t2)] σ =
  (X iReader_append 0 [(2, t2), (0, t1), (2, t0)] [] σ).bind fun q1 => X iReader_readSum 89 [(2, 297), vw1, (2, v2), (0, v3), vw4] [q1.1] q1.2 :=
  xev_eq (E := xE1) (F := xFk) (P := xPg) (inl := [253, 254]) (stop := [4, 39, 79, 86, 89]) 3 iReader_readSum 86 [(2, 297), vw1, (2, v2), (0, v3), vw4] [(2, t0), (0, t1), (2, t2)] σ
set_option maxRecDepth 20000 in
theorem qReader_readSum_89 (v2 v3 t0 : Int) (vw1 vw4 : xAV) (σ : xS) : X iReader_readSum 89 [(2, 297), vw1, (2, v2), (0, v3), vw4] [(2, t0)] σ =
  X iReader_readSum 39 [(2, 297), (2, t0), (2, v2), (0, (xw (v3 + 1))), vw4] [] σ :=
  xev_eq (E := xE1) (F := xFk) (P := xPg) (inl := [253, 254]) (stop := [4, 39, 79, 86, 89]) 5 iReader_readSum 89 [(2, 297), vw1, (2, v2), (0, v3), vw4] [(2, t0)] σ
set_option maxRecDepth 20000 in
theorem qReader_readProd_0 (σ : xS) : X iReader_readProd 0 [(2, 297), (9, 0), (9, 0), (9, 0), (9, 0)] [] σ =
  bif Nat.beq (xdp σ) 0 then none
  else (X iReader_readAtom 0 [(2, 297), (9, 0)] [] (xsetdp σ (xdp σ - 1))).bind fun q1 => X iReader_readProd 4 [(2, 297), (9, 0), (9, 0), (9, 0), (9, 0)] [q1.1] (xsetdp q1.2 (xdp σ)) :=
  xev_eq (E := xE1) (F := xFk) (P := xPg) (inl := [253, 254, 296]) (stop := [4, 28, 57, 64, 67]) 4 iReader_readProd 0 [(2, 297), (9, 0), (9, 0), (9, 0), (9, 0)] [] σ
set_option maxRecDepth 20000 in
theorem qReader_readProd_4 (t0 : Int) (vw1 vw2 vw3 vw4 : xAV) (σ : xS) : X iReader_readProd 4 [(2, 297), vw1, vw2, vw3, vw4] [(2, t0)] σ =
  if t0 = 0 then some ((2, t0), σ)
  else if (xna 3 (σ.1 297 8)) = 42 then (bif xisO xE1 (xal xE1 σ 7 8) ((xnew xE1 σ : Nat) : Int) 7 then (bif Nat.beq ((xnew xE1 σ : Nat) : Int).toNat 0 then none
      else bif xisO xE1 (xal xE1 σ 7 8) ((xnew xE1 σ : Nat) : Int) 7 then (xob (xwr xE1 (xal xE1 σ 7 8) ((xnew xE1 σ : Nat) : Int) 1 (-1)) none fun s1 => bif xisO xE1 s1 ((xnew xE1 σ : Nat) : Int) 7 then (xob (xwr xE1 s1 ((xnew xE1 σ : Nat) : Int) 4 108) none fun s2 => bif xisO xE1 s2 ((xnew xE1 σ : Nat) : Int) 7 then (xob (xwr xE1 s2 ((xnew xE1 σ : Nat) : Int) 0 37) none fun s3 => bif xisO xE1 s3 ((xnew xE1 σ : Nat) : Int) 7 then (xob (xwr xE1 s3 ((xnew xE1 σ : Nat) : Int) 6 t0) none fun s4 => X iReader_readProd 28 [(2, 297), (2, t0), (2, ((xnew xE1 σ : Nat) : Int)), (0, 0), vw4] [] s4)
            else none)
          else none)
        else none)
      else none)
    else none)
  else if (xna 3 (σ.1 297 8)) = 47 then (bif xisO xE1 (xal xE1 σ 7 8) ((xnew xE1 σ : Nat) : Int) 7 then (bif Nat.beq ((xnew xE1 σ : Nat) : Int).toNat 0 then none
      else bif xisO xE1 (xal xE1 σ 7 8) ((xnew xE1 σ : Nat) : Int) 7 then (xob (xwr xE1 (xal xE1 σ 7 8) ((xnew xE1 σ : Nat) : Int) 1 (-1)) none fun s5 => bif xisO xE1 s5 ((xnew xE1 σ : Nat) : Int) 7 then (xob (xwr xE1 s5 ((xnew xE1 σ : Nat) : Int) 4 108) none fun s6 => bif xisO xE1 s6 ((xnew xE1 σ : Nat) : Int) 7 then (xob (xwr xE1 s6 ((xnew xE1 σ : Nat) : Int) 0 37) none fun s7 => bif xisO xE1 s7 ((xnew xE1 σ : Nat) : Int) 7 then (xob (xwr xE1 s7 ((xnew xE1 σ : Nat) : Int) 6 t0) none fun s8 => X iReader_readProd 28 [(2, 297), (2, t0), (2, ((xnew xE1 σ : Nat) : Int)), (0, 0), vw4] [] s8)
            else none)
          else none)
        else none)
      else none)
    else none)
  else if (xna 3 (σ.1 297 8)) = 37 then (bif xisO xE1 (xal xE1 σ 7 8) ((xnew xE1 σ : Nat) : Int) 7 then (bif Nat.beq ((xnew xE1 σ : Nat) : Int).toNat 0 then none
      else bif xisO xE1 (xal xE1 σ 7 8) ((xnew xE1 σ : Nat) : Int) 7 then (xob (xwr xE1 (xal xE1 σ 7 8) ((xnew xE1 σ : Nat) : Int) 1 (-1)) none fun s9 => bif xisO xE1 s9 ((xnew xE1 σ : Nat) : Int) 7 then (xob (xwr xE1 s9 ((xnew xE1 σ : Nat) : Int) 4 108) none fun s10 => bif xisO xE1 s10 ((xnew xE1 σ : Nat) : Int) 7 then (xob (xwr xE1 s10 ((xnew xE1 σ : Nat) : Int) 0 37) none fun s11 => bif xisO xE1 s11 ((xnew xE1 σ : Nat) : Int) 7 then (xob (xwr xE1 s11 ((xnew xE1 σ : Nat) : Int) 6 t0) none fun s12 => X iReader_readProd 28 [(2, 297), (2, t0), (2, ((xnew xE1 σ : Nat) : Int)), (0, 0), vw4] [] s12)
            else none)
          else none)
        else none)
      else none)
    else none)
  else some ((2, t0), σ) :=
  xev_eq (E := xE1) (F := xFk) (P := xPg) (inl := [253, 254, 296]) (stop := [4, 28, 57, 64, 67]) 51 iReader_readProd 4 [(2, 297), vw1, vw2, vw3, vw4] [(2, t0)] σ
set_option maxRecDepth 20000 in
theorem qReader_readProd_28 (v1 v2 v3 : Int) (vw4 : xAV) (σ : xS) : X iReader_readProd 28 [(2, 297), (2, v1), (2, v2), (0, v3), vw4] [] σ =
  if v3 < (σ.1 297 1) then (if v1 = 0 then (if v1 = 0 then some ((2, 0), σ)
      else some ((2, v2), σ))
    else if (xna 3 (σ.1 297 8)) = 42 then ((X iReader_step 0 [(2, 297)] [] σ).bind fun q1 => X iReader_readProd 57 [(2, 297), (2, v1), (2, v2), (0, v3), (0, (xna 3 (σ.1 297 8)))] [] q1.2)
    else if (xna 3 (σ.1 297 8)) = 47 then ((X iReader_step 0 [(2, 297)] [] σ).bind fun q2 => X iReader_readProd 57 [(2, 297), (2, v1), (2, v2), (0, v3), (0, (xna 3 (σ.1 297 8)))] [] q2.2)
    else if (xna 3 (σ.1 297 8)) = 37 then ((X iReader_step 0 [(2, 297)] [] σ).bind fun q3 => X iReader_readProd 57 [(2, 297), (2, v1), (2, v2), (0, v3), (0, (xna 3 (σ.1 297 8)))] [] q3.2)
    else if v1 = 0 then some ((2, 0), σ)
    else some ((2, v2), σ))
  else if v1 = 0 then some ((2, 0), σ)
  else some ((2, v2), σ) :=
  xev_eq (E := xE1) (F := xFk) (P := xPg) (inl := [253, 254, 296]) (stop := [4, 28, 57, 64, 67]) 31 iReader_readProd 28 [(2, 297), (2, v1), (2, v2), (0, v3), vw4] [] σ
set_option maxRecDepth 20000 in
theorem qReader_readProd_57 (v1 v2 v3 v4 : Int) (σ : xS) : X iReader_readProd 57 [(2, 297), (2, v1), (2, v2), (0, v3), (0, v4)] [] σ =
  bif Nat.beq (xdp σ) 0 then none
  else (X iReader_readAtom 0 [(2, 297), (9, 0)] [] (xsetdp σ (xdp σ - 1))).bind fun q1 => X iReader_readProd 64 [(2, 297), (2, v1), (2, v2), (0, v3), (0, v4)] [q1.1, (0, v4), (2, v1)] (xsetdp q1.2 (xdp σ)) :=
  xev_eq (E := xE1) (F := xFk) (P := xPg) (inl := [253, 254, 296]) (stop := [4, 28, 57, 64, 67]) 6 iReader_readProd 57 [(2, 297), (2, v1), (2, v2), (0, v3), (0, v4)] [] σ
set_option maxRecDepth 20000 in
theorem qReader_readProd_64 (v2 v3 t0 t1 t2 : Int) (vw1 vw4 : xAV) (σ : xS) : X iReader_readProd 64 [(2, 297), vw1, (2, v2), (0, v3), vw4] [(2, t0), (0, t1), (2, t2)] σ =
  (X iReader_append 0 [(2, t2), (0, t1), (2, t0)] [] σ).bind fun q1 => X iReader_readProd 67 [(2, 297), vw1, (2, v2), (0, v3), vw4] [q1.1] q1.2 :=
  xev_eq (E := xE1) (F := xFk) (P := xPg) (inl := [253, 254, 296]) (stop := [4, 28, 57, 64, 67]) 3 iReader_readProd 64 [(2, 297), vw1, (2, v2), (0, v3), vw4] [(2, t0), (0, t1), (2, t2)] σ
set_option maxRecDepth 20000 in
theorem qReader_readProd_67 (v2 v3 t0 : Int) (vw1 vw4 : xAV) (σ : xS) : X iReader_readProd 67 [(2, 297), vw1, (2, v2), (0, v3), vw4] [(2, t0)] σ =
  X iReader_readProd 28 [(2, 297), (2, t0), (2, v2), (0, (xw (v3 + 1))), vw4] [] σ :=
  xev_eq (E := xE1) (F := xFk) (P := xPg) (inl := [253, 254, 296]) (stop := [4, 28, 57, 64, 67]) 5 iReader_readProd 67 [(2, 297), vw1, (2, v2), (0, v3), vw4] [(2, t0)] σ
set_option maxRecDepth 20000 in
theorem qReader_isTimes_0 (σ : xS) : X iReader_isTimes 0 [(2, 297)] [] σ =
  if (xna 3 (σ.1 297 8)) = 42 then some ((0, 1), σ)
  else if (xna 3 (σ.1 297 8)) = 47 then some ((0, 1), σ)
  else if (xna 3 (σ.1 297 8)) = 37 then some ((0, 1), σ)
  else some ((0, 0), σ) :=
  xev_eq (E := xE1) (F := xFk) (P := xPg) (inl := []) (stop := []) 17 iReader_isTimes 0 [(2, 297)] [] σ
set_option maxRecDepth 20000 in
theorem qReader_append_0 (a0 a1 a2 : Int) (σ : xS) : X iReader_append 0 [(2, a0), (0, a1), (2, a2)] [] σ =
  if a2 = 0 then some ((2, a2), σ)
  else bif xisO xE1 σ a2 7 then (if (xna 3 a1) = a1 then (xob (xwr xE1 σ a2 5 a1) none fun s1 => bif xisO xE1 s1 a0 7 then (xob (xwr xE1 s1 a0 7 a2) none fun s2 => some ((2, a2), s2))
      else none)
    else none)
  else none :=
  xev_eq (E := xE1) (F := xFk) (P := xPg) (inl := []) (stop := []) 12 iReader_append 0 [(2, a0), (0, a1), (2, a2)] [] σ
set_option maxRecDepth 20000 in
theorem qReader_readAtom_0 (σ : xS) : X iReader_readAtom 0 [(2, 297), (9, 0)] [] σ =
  if (xna 3 (σ.1 297 8)) = 3 then (bif xisO xE1 (xal xE1 σ 7 8) ((xnew xE1 σ : Nat) : Int) 7 then (bif Nat.beq ((xnew xE1 σ : Nat) : Int).toNat 0 then none
      else bif xisO xE1 (xal xE1 σ 7 8) ((xnew xE1 σ : Nat) : Int) 7 then (xob (xwr xE1 (xal xE1 σ 7 8) ((xnew xE1 σ : Nat) : Int) 1 (-1)) none fun s1 => bif xisO xE1 s1 ((xnew xE1 σ : Nat) : Int) 7 then (xob (xwr xE1 s1 ((xnew xE1 σ : Nat) : Int) 4 108) none fun s2 => bif xisO xE1 s2 ((xnew xE1 σ : Nat) : Int) 7 then (xob (xwr xE1 s2 ((xnew xE1 σ : Nat) : Int) 0 34) none fun s3 => (X iReader_passNumber 0 [(2, 297), (9, 0)] [] s3).bind fun q4 => X iReader_readAtom 24 [(2, 297), (2, ((xnew xE1 σ : Nat) : Int))] [q4.1, (2, ((xnew xE1 σ : Nat) : Int))] q4.2)
          else none)
        else none)
      else none)
    else none)
  else if (xna 3 (σ.1 297 8)) = 40 then ((X iReader_opens 0 [(2, 297)] [] σ).bind fun q5 => X iReader_readAtom 42 [(2, 297), (9, 0)] [q5.1] q5.2)
  else if (xna 3 (σ.1 297 8)) = 45 then ((X iReader_opens 0 [(2, 297)] [] σ).bind fun q6 => X iReader_readAtom 71 [(2, 297), (9, 0)] [q6.1] q6.2)
  else bif (xcm (σ.1 297 9) && xcm 19) then (if (σ.1 297 9) = 19 then (bif Nat.beq (xdp σ) 0 then none
      else (X iReader_readList 0 [(2, 297), (2, (σ.1 297 9)), (9, 0), (9, 0), (9, 0)] [] (xsetdp σ (xdp σ - 1))).bind fun q7 => X iReader_readAtom 121 [(2, 297), (9, 0)] [q7.1] (xsetdp q7.2 (xdp σ)))
    else bif (xcm (σ.1 297 9) && xcm 20) then (if (σ.1 297 9) = 20 then (bif Nat.beq (xdp σ) 0 then none
        else (X iReader_readList 0 [(2, 297), (2, (σ.1 297 9)), (9, 0), (9, 0), (9, 0)] [] (xsetdp σ (xdp σ - 1))).bind fun q8 => X iReader_readAtom 121 [(2, 297), (9, 0)] [q8.1] (xsetdp q8.2 (xdp σ)))
      else if (xna 3 (σ.1 297 8)) = 2 then ((X iReader_readWord 0 [(2, 297), (9, 0), (9, 0), (9, 0)] [] σ).bind fun q9 => X iReader_readAtom 134 [(2, 297), (9, 0)] [q9.1] q9.2)
      else if (σ.1 297 14) = (-1) then (if xin (σ.1 297 7) 401 then some ((2, 0), (xs σ 297 14 (σ.1 299 (σ.1 297 7).toNat)))
        else none)
      else some ((2, 0), σ))
    else none)
  else none :=
  xev_eq (E := xE1) (F := xFk) (P := xPg) (inl := [253, 254, 280]) (stop := [24, 42, 50, 53, 71, 82, 88, 121, 134]) 42 iReader_readAtom 0 [(2, 297), (9, 0)] [] σ
set_option maxRecDepth 20000 in
theorem qReader_readAtom_24 (v1 t0 t1 : Int) (vw0 : xAV) (σ : xS) : X iReader_readAtom 24 [vw0, (2, v1)] [(0, t0), (2, t1)] σ =
  bif xisO xE1 σ t1 7 then (xob (xwr xE1 σ t1 1 t0) none fun s1 => some ((2, v1), s1))
  else none :=
  xev_eq (E := xE1) (F := xFk) (P := xPg) (inl := [253, 254, 280]) (stop := [24, 42, 50, 53, 71, 82, 88, 121, 134]) 5 iReader_readAtom 24 [vw0, (2, v1)] [(0, t0), (2, t1)] σ
set_option maxRecDepth 20000 in
theorem qReader_readAtom_42 (t0 : Int) (vw1 : xAV) (σ : xS) : X iReader_readAtom 42 [(2, 297), vw1] [(0, t0)] σ =
  if t0 = 0 then some ((2, 0), σ)
  else bif Nat.beq (xdp σ) 0 then none
  else (X iReader_readEx 0 [(2, 297)] [] (xsetdp σ (xdp σ - 1))).bind fun q1 => X iReader_readAtom 50 [(2, 297), vw1] [q1.1, (2, 297)] (xsetdp q1.2 (xdp σ)) :=
  xev_eq (E := xE1) (F := xFk) (P := xPg) (inl := [253, 254, 280]) (stop := [24, 42, 50, 53, 71, 82, 88, 121, 134]) 6 iReader_readAtom 42 [(2, 297), vw1] [(0, t0)] σ
set_option maxRecDepth 20000 in
theorem qReader_readAtom_50 (t0 : Int) (vw0 vw1 : xAV) (σ : xS) : X iReader_readAtom 50 [vw0, vw1] [(2, t0), (2, 297)] σ =
  (X iReader_readToParen 0 [(2, 297), (2, t0)] [] σ).bind fun q1 => X iReader_readAtom 53 [vw0, vw1] [q1.1] q1.2 :=
  xev_eq (E := xE1) (F := xFk) (P := xPg) (inl := [253, 254, 280]) (stop := [24, 42, 50, 53, 71, 82, 88, 121, 134]) 3 iReader_readAtom 50 [vw0, vw1] [(2, t0), (2, 297)] σ
set_option maxRecDepth 20000 in
theorem qReader_readAtom_53 (t0 : Int) (vw0 vw1 : xAV) (σ : xS) : X iReader_readAtom 53 [vw0, vw1] [(2, t0)] σ =
  some ((2, t0), σ) :=
  xev_eq (E := xE1) (F := xFk) (P := xPg) (inl := [253, 254, 280]) (stop := [24, 42, 50, 53, 71, 82, 88, 121, 134]) 4 iReader_readAtom 53 [vw0, vw1] [(2, t0)] σ
set_option maxRecDepth 20000 in
theorem qReader_readAtom_71 (t0 : Int) (vw1 : xAV) (σ : xS) : X iReader_readAtom 71 [(2, 297), vw1] [(0, t0)] σ =
  if t0 = 0 then some ((2, 0), σ)
  else bif Nat.beq (xdp σ) 0 then none
  else (X iReader_readAtom 0 [(2, 297), (9, 0)] [] (xsetdp σ (xdp σ - 1))).bind fun q1 => X iReader_readAtom 82 [(2, 297), vw1] [q1.1, (2, 38), (2, 297)] (xsetdp q1.2 (xdp σ)) :=
  xev_eq (E := xE1) (F := xFk) (P := xPg) (inl := [253, 254, 280]) (stop := [24, 42, 50, 53, 71, 82, 88, 121, 134]) 7 iReader_readAtom 71 [(2, 297), vw1] [(0, t0)] σ
set_option maxRecDepth 20000 in
theorem qReader_readAtom_82 (t0 : Int) (vw0 vw1 : xAV) (σ : xS) : X iReader_readAtom 82 [vw0, vw1] [(2, t0), (2, 38), (2, 297)] σ =
  bif xisO xE1 (xal xE1 σ 7 8) ((xnew xE1 σ : Nat) : Int) 7 then (bif Nat.beq ((xnew xE1 σ : Nat) : Int).toNat 0 then none
    else bif xisO xE1 (xal xE1 σ 7 8) ((xnew xE1 σ : Nat) : Int) 7 then (xob (xwr xE1 (xal xE1 σ 7 8) ((xnew xE1 σ : Nat) : Int) 1 (-1)) none fun s1 => bif xisO xE1 s1 ((xnew xE1 σ : Nat) : Int) 7 then (xob (xwr xE1 s1 ((xnew xE1 σ : Nat) : Int) 4 108) none fun s2 => bif xisO xE1 s2 ((xnew xE1 σ : Nat) : Int) 7 then (xob (xwr xE1 s2 ((xnew xE1 σ : Nat) : Int) 0 38) none fun s3 => bif xisO xE1 s3 ((xnew xE1 σ : Nat) : Int) 7 then (xob (xwr xE1 s3 ((xnew xE1 σ : Nat) : Int) 6 t0) none fun s4 => (X iReader_closes 0 [(2, 297), (2, ((xnew xE1 σ : Nat) : Int))] [] s4).bind fun q5 => X iReader_readAtom 88 [vw0, vw1] [q5.1] q5.2)
          else none)
        else none)
      else none)
    else none)
  else none :=
  xev_eq (E := xE1) (F := xFk) (P := xPg) (inl := [253, 254, 280]) (stop := [24, 42, 50, 53, 71, 82, 88, 121, 134]) 26 iReader_readAtom 82 [vw0, vw1] [(2, t0), (2, 38), (2, 297)] σ
set_option maxRecDepth 20000 in
theorem qReader_readAtom_88 (t0 : Int) (vw0 vw1 : xAV) (σ : xS) : X iReader_readAtom 88 [vw0, vw1] [(2, t0)] σ =
  some ((2, t0), σ) :=
  xev_eq (E := xE1) (F := xFk) (P := xPg) (inl := [253, 254, 280]) (stop := [24, 42, 50, 53, 71, 82, 88, 121, 134]) 4 iReader_readAtom 88 [vw0, vw1] [(2, t0)] σ
set_option maxRecDepth 20000 in
theorem qReader_readAtom_121 (t0 : Int) (vw0 vw1 : xAV) (σ : xS) : X iReader_readAtom 121 [vw0, vw1] [(2, t0)] σ =
  some ((2, t0), σ) :=
  xev_eq (E := xE1) (F := xFk) (P := xPg) (inl := [253, 254, 280]) (stop := [24, 42, 50, 53, 71, 82, 88, 121, 134]) 3 iReader_readAtom 121 [vw0, vw1] [(2, t0)] σ
set_option maxRecDepth 20000 in
theorem qReader_readAtom_134 (t0 : Int) (vw0 vw1 : xAV) (σ : xS) : X iReader_readAtom 134 [vw0, vw1] [(2, t0)] σ =
  some ((2, t0), σ) :=
  xev_eq (E := xE1) (F := xFk) (P := xPg) (inl := [253, 254, 280]) (stop := [24, 42, 50, 53, 71, 82, 88, 121, 134]) 4 iReader_readAtom 134 [vw0, vw1] [(2, t0)] σ
set_option maxRecDepth 20000 in
theorem qReader_readToParen_0 (a1 : Int) (σ : xS) : X iReader_readToParen 0 [(2, 297), (2, a1)] [] σ =
  (X iReader_pass 0 [(2, 297), (0, 41)] [] σ).bind fun q1 => X iReader_readToParen 6 [(2, 297), (2, a1)] [q1.1] q1.2 :=
  xev_eq (E := xE1) (F := xFk) (P := xPg) (inl := []) (stop := [6, 14]) 5 iReader_readToParen 0 [(2, 297), (2, a1)] [] σ
set_option maxRecDepth 20000 in
theorem qReader_readToParen_6 (v1 t0 : Int) (σ : xS) : X iReader_readToParen 6 [(2, 297), (2, v1)] [(0, t0)] σ =
  if t0 = 0 then some ((2, 0), σ)
  else (X iReader_closes 0 [(2, 297), (2, v1)] [] σ).bind fun q1 => X iReader_readToParen 14 [(2, 297), (2, v1)] [q1.1] q1.2 :=
  xev_eq (E := xE1) (F := xFk) (P := xPg) (inl := []) (stop := [6, 14]) 6 iReader_readToParen 6 [(2, 297), (2, v1)] [(0, t0)] σ
set_option maxRecDepth 20000 in
theorem qReader_readToParen_14 (t0 : Int) (vw0 vw1 : xAV) (σ : xS) : X iReader_readToParen 14 [vw0, vw1] [(2, t0)] σ =
  some ((2, t0), σ) :=
  xev_eq (E := xE1) (F := xFk) (P := xPg) (inl := []) (stop := [6, 14]) 4 iReader_readToParen 14 [vw0, vw1] [(2, t0)] σ
set_option maxRecDepth 20000 in
theorem qReader_readList_0 (a1 : Int) (σ : xS) : X iReader_readList 0 [(2, 297), (2, a1), (9, 0), (9, 0), (9, 0)] [] σ =
  (X iReader_opens 0 [(2, 297)] [] σ).bind fun q1 => X iReader_readList 4 [(2, 297), (2, a1), (9, 0), (9, 0), (9, 0)] [q1.1] q1.2 :=
  xev_eq (E := xE1) (F := xFk) (P := xPg) (inl := [253, 254]) (stop := [4, 13, 22, 32, 58, 65, 68, 88]) 4 iReader_readList 0 [(2, 297), (2, a1), (9, 0), (9, 0), (9, 0)] [] σ
set_option maxRecDepth 20000 in
theorem qReader_readList_4 (v1 t0 : Int) (vw2 vw3 vw4 : xAV) (σ : xS) : X iReader_readList 4 [(2, 297), (2, v1), vw2, vw3, vw4] [(0, t0)] σ =
  if t0 = 0 then some ((2, 0), σ)
  else (X iReader_pass 0 [(2, 297), (0, 40)] [] σ).bind fun q1 => X iReader_readList 13 [(2, 297), (2, v1), vw2, vw3, vw4] [q1.1] q1.2 :=
  xev_eq (E := xE1) (F := xFk) (P := xPg) (inl := [253, 254]) (stop := [4, 13, 22, 32, 58, 65, 68, 88]) 6 iReader_readList 4 [(2, 297), (2, v1), vw2, vw3, vw4] [(0, t0)] σ
set_option maxRecDepth 20000 in
theorem qReader_readList_13 (v1 t0 : Int) (vw2 vw3 vw4 : xAV) (σ : xS) : X iReader_readList 13 [(2, 297), (2, v1), vw2, vw3, vw4] [(0, t0)] σ =
  if t0 = 0 then some ((2, 0), σ)
  else bif Nat.beq (xdp σ) 0 then none
  else (X iReader_readEx 0 [(2, 297)] [] (xsetdp σ (xdp σ - 1))).bind fun q1 => X iReader_readList 22 [(2, 297), (2, v1), vw2, vw3, vw4] [q1.1] (xsetdp q1.2 (xdp σ)) :=
  xev_eq (E := xE1) (F := xFk) (P := xPg) (inl := [253, 254]) (stop := [4, 13, 22, 32, 58, 65, 68, 88]) 5 iReader_readList 13 [(2, 297), (2, v1), vw2, vw3, vw4] [(0, t0)] σ
set_option maxRecDepth 20000 in
theorem qReader_readList_22 (v1 t0 : Int) (vw2 vw3 vw4 : xAV) (σ : xS) : X iReader_readList 22 [(2, 297), (2, v1), vw2, vw3, vw4] [(2, t0)] σ =
  bif xisO xE1 (xal xE1 σ 7 8) ((xnew xE1 σ : Nat) : Int) 7 then (bif Nat.beq ((xnew xE1 σ : Nat) : Int).toNat 0 then none
    else bif xisO xE1 (xal xE1 σ 7 8) ((xnew xE1 σ : Nat) : Int) 7 then (xob (xwr xE1 (xal xE1 σ 7 8) ((xnew xE1 σ : Nat) : Int) 1 (-1)) none fun s1 => bif xisO xE1 s1 ((xnew xE1 σ : Nat) : Int) 7 then (xob (xwr xE1 s1 ((xnew xE1 σ : Nat) : Int) 4 108) none fun s2 => bif xisO xE1 s2 ((xnew xE1 σ : Nat) : Int) 7 then (xob (xwr xE1 s2 ((xnew xE1 σ : Nat) : Int) 0 v1) none fun s3 => bif xisO xE1 s3 ((xnew xE1 σ : Nat) : Int) 7 then (xob (xwr xE1 s3 ((xnew xE1 σ : Nat) : Int) 6 t0) none fun s4 => X iReader_readList 32 [(2, 297), (2, v1), (2, t0), (2, ((xnew xE1 σ : Nat) : Int)), (0, 0)] [] s4)
          else none)
        else none)
      else none)
    else none)
  else none :=
  xev_eq (E := xE1) (F := xFk) (P := xPg) (inl := [253, 254]) (stop := [4, 13, 22, 32, 58, 65, 68, 88]) 31 iReader_readList 22 [(2, 297), (2, v1), vw2, vw3, vw4] [(2, t0)] σ
set_option maxRecDepth 20000 in
theorem qReader_readList_32 (v2 v3 v4 : Int) (vw1 : xAV) (σ : xS) : X iReader_readList 32 [(2, 297), vw1, (2, v2), (2, v3), (0, v4)] [] σ =
  if v4 < (σ.1 297 1) then (if v2 = 0 then (if v2 = 0 then X iReader_readList 88 [(2, 297), vw1, (2, v2), (2, v3), (0, v4)] [(2, 0)] σ
      else (X iReader_readToParen 0 [(2, 297), (2, v3)] [] σ).bind fun q1 => X iReader_readList 88 [(2, 297), vw1, (2, v2), (2, v3), (0, v4)] [q1.1] q1.2)
    else if (xna 3 (σ.1 297 8)) = 44 then ((X iReader_step 0 [(2, 297)] [] σ).bind fun q2 => X iReader_readList 58 [(2, 297), vw1, (2, v2), (2, v3), (0, v4)] [] q2.2)
    else if v2 = 0 then X iReader_readList 88 [(2, 297), vw1, (2, v2), (2, v3), (0, v4)] [(2, 0)] σ
    else (X iReader_readToParen 0 [(2, 297), (2, v3)] [] σ).bind fun q3 => X iReader_readList 88 [(2, 297), vw1, (2, v2), (2, v3), (0, v4)] [q3.1] q3.2)
  else if v2 = 0 then X iReader_readList 88 [(2, 297), vw1, (2, v2), (2, v3), (0, v4)] [(2, 0)] σ
  else (X iReader_readToParen 0 [(2, 297), (2, v3)] [] σ).bind fun q4 => X iReader_readList 88 [(2, 297), vw1, (2, v2), (2, v3), (0, v4)] [q4.1] q4.2 :=
  xev_eq (E := xE1) (F := xFk) (P := xPg) (inl := [253, 254]) (stop := [4, 13, 22, 32, 58, 65, 68, 88]) 17 iReader_readList 32 [(2, 297), vw1, (2, v2), (2, v3), (0, v4)] [] σ
set_option maxRecDepth 20000 in
theorem qReader_readList_58 (v2 v3 v4 : Int) (vw1 : xAV) (σ : xS) : X iReader_readList 58 [(2, 297), vw1, (2, v2), (2, v3), (0, v4)] [] σ =
  bif Nat.beq (xdp σ) 0 then none
  else (X iReader_readEx 0 [(2, 297)] [] (xsetdp σ (xdp σ - 1))).bind fun q1 => X iReader_readList 65 [(2, 297), vw1, (2, v2), (2, v3), (0, v4)] [q1.1, (0, 44), (2, v2)] (xsetdp q1.2 (xdp σ)) :=
  xev_eq (E := xE1) (F := xFk) (P := xPg) (inl := [253, 254]) (stop := [4, 13, 22, 32, 58, 65, 68, 88]) 6 iReader_readList 58 [(2, 297), vw1, (2, v2), (2, v3), (0, v4)] [] σ
set_option maxRecDepth 20000 in
theorem qReader_readList_65 (v3 v4 t0 t1 t2 : Int) (vw1 vw2 : xAV) (σ : xS) : X iReader_readList 65 [(2, 297), vw1, vw2, (2, v3), (0, v4)] [(2, t0), (0, t1), (2, t2)] σ =
  (X iReader_append 0 [(2, t2), (0, t1), (2, t0)] [] σ).bind fun q1 => X iReader_readList 68 [(2, 297), vw1, vw2, (2, v3), (0, v4)] [q1.1] q1.2 :=
  xev_eq (E := xE1) (F := xFk) (P := xPg) (inl := [253, 254]) (stop := [4, 13, 22, 32, 58, 65, 68, 88]) 3 iReader_readList 65 [(2, 297), vw1, vw2, (2, v3), (0, v4)] [(2, t0), (0, t1), (2, t2)] σ
set_option maxRecDepth 20000 in
theorem qReader_readList_68 (v3 v4 t0 : Int) (vw1 vw2 : xAV) (σ : xS) : X iReader_readList 68 [(2, 297), vw1, vw2, (2, v3), (0, v4)] [(2, t0)] σ =
  X iReader_readList 32 [(2, 297), (xkl vw1), (2, t0), (2, v3), (0, (xw (v4 + 1)))] [] σ :=
  xev_eq (E := xE1) (F := xFk) (P := xPg) (inl := [253, 254]) (stop := [4, 13, 22, 32, 58, 65, 68, 88]) 5 iReader_readList 68 [(2, 297), vw1, vw2, (2, v3), (0, v4)] [(2, t0)] σ
set_option maxRecDepth 20000 in
theorem qReader_readList_88 (t0 : Int) (vw0 vw1 vw2 vw3 vw4 : xAV) (σ : xS) : X iReader_readList 88 [vw0, vw1, vw2, vw3, vw4] [(2, t0)] σ =
  some ((2, t0), σ) :=
  xev_eq (E := xE1) (F := xFk) (P := xPg) (inl := [253, 254]) (stop := [4, 13, 22, 32, 58, 65, 68, 88]) 3 iReader_readList 88 [vw0, vw1, vw2, vw3, vw4] [(2, t0)] σ
set_option maxRecDepth 20000 in
theorem qReader_readWord_0 (σ : xS) : X iReader_readWord 0 [(2, 297), (9, 0), (9, 0), (9, 0)] [] σ =
  (X iReader_letHere 0 [(2, 297), (9, 0)] [] σ).bind fun q1 => X iReader_readWord 4 [(2, 297), (9, 0), (9, 0), (9, 0)] [q1.1] q1.2 :=
  xev_eq (E := xE1) (F := xFk) (P := xPg) (inl := [253, 280]) (stop := [4, 40, 99]) 4 iReader_readWord 0 [(2, 297), (9, 0), (9, 0), (9, 0)] [] σ
set_option maxRecDepth 20000 in
theorem qReader_readWord_4 (t0 : Int) (vw1 vw2 vw3 : xAV) (σ : xS) : X iReader_readWord 4 [(2, 297), vw1, vw2, vw3] [(2, t0)] σ =
  if (σ.1 297 9) = 0 then (if t0 = 0 then X iReader_readWord 40 [(2, 297), (2, t0), vw2, vw3] [(0, 0)] σ
    else X iReader_readWord 40 [(2, 297), (2, t0), vw2, vw3] [(0, 1)] σ)
  else xob (xfld xE1 σ (σ.1 297 9) 50 2) none fun w1 => if w1 = (-1) then X iReader_readWord 40 [(2, 297), (2, t0), vw2, vw3] [(0, 0)] σ
  else X iReader_readWord 40 [(2, 297), (2, t0), vw2, vw3] [(0, 1)] σ :=
  xev_eq (E := xE1) (F := xFk) (P := xPg) (inl := [253, 280]) (stop := [4, 40, 99]) 13 iReader_readWord 4 [(2, 297), vw1, vw2, vw3] [(2, t0)] σ
set_option maxRecDepth 20000 in
theorem qReader_readWord_40 (v1 t0 : Int) (vw2 vw3 : xAV) (σ : xS) : X iReader_readWord 40 [(2, 297), (2, v1), vw2, vw3] [(0, t0)] σ =
  if t0 = 0 then (if (σ.1 297 14) = (-1) then (if xin (σ.1 297 7) 401 then some ((2, 0), (xs σ 297 14 (σ.1 299 (σ.1 297 7).toNat)))
      else none)
    else some ((2, 0), σ))
  else if ((xal xE1 σ 7 8).1 297 9) = 0 then (bif xisO xE1 (xal xE1 σ 7 8) ((xnew xE1 σ : Nat) : Int) 7 then (bif Nat.beq ((xnew xE1 σ : Nat) : Int).toNat 0 then none
      else bif xisO xE1 (xal xE1 σ 7 8) ((xnew xE1 σ : Nat) : Int) 7 then (xob (xwr xE1 (xal xE1 σ 7 8) ((xnew xE1 σ : Nat) : Int) 1 (-1)) none fun s1 => bif xisO xE1 s1 ((xnew xE1 σ : Nat) : Int) 7 then (xob (xwr xE1 s1 ((xnew xE1 σ : Nat) : Int) 4 108) none fun s2 => bif xisO xE1 s2 ((xnew xE1 σ : Nat) : Int) 7 then (xob (xwr xE1 s2 ((xnew xE1 σ : Nat) : Int) 0 35) none fun s3 => if v1 = 0 then ((X iReader_step 0 [(2, 297)] [] s3).bind fun q4 => X iReader_readWord 99 [(2, 297), (2, v1), (0, t0), (2, ((xnew xE1 σ : Nat) : Int))] [] q4.2)
            else xob (xfld xE1 s3 v1 7 1) none fun w5 => bif xisO xE1 s3 ((xnew xE1 σ : Nat) : Int) 7 then (xob (xwr xE1 s3 ((xnew xE1 σ : Nat) : Int) 1 w5) none fun s6 => xob (xfld xE1 s6 v1 7 4) none fun w7 => bif xisO xE1 s6 ((xnew xE1 σ : Nat) : Int) 7 then (xob (xwr xE1 s6 ((xnew xE1 σ : Nat) : Int) 4 w7) none fun s8 => (X iReader_step 0 [(2, 297)] [] s8).bind fun q9 => X iReader_readWord 99 [(2, 297), (2, v1), (0, t0), (2, ((xnew xE1 σ : Nat) : Int))] [] q9.2)
              else none)
            else none)
          else none)
        else none)
      else none)
    else none)
  else bif xisO xE1 (xal xE1 σ 7 8) ((xnew xE1 σ : Nat) : Int) 7 then (bif Nat.beq ((xnew xE1 σ : Nat) : Int).toNat 0 then none
    else bif xisO xE1 (xal xE1 σ 7 8) ((xnew xE1 σ : Nat) : Int) 7 then (xob (xwr xE1 (xal xE1 σ 7 8) ((xnew xE1 σ : Nat) : Int) 1 (-1)) none fun s10 => bif xisO xE1 s10 ((xnew xE1 σ : Nat) : Int) 7 then (xob (xwr xE1 s10 ((xnew xE1 σ : Nat) : Int) 4 108) none fun s11 => bif xisO xE1 s11 ((xnew xE1 σ : Nat) : Int) 7 then (xob (xwr xE1 s11 ((xnew xE1 σ : Nat) : Int) 0 ((xal xE1 σ 7 8).1 297 9)) none fun s12 => if v1 = 0 then ((X iReader_step 0 [(2, 297)] [] s12).bind fun q13 => X iReader_readWord 99 [(2, 297), (2, v1), (0, t0), (2, ((xnew xE1 σ : Nat) : Int))] [] q13.2)
          else xob (xfld xE1 s12 v1 7 1) none fun w14 => bif xisO xE1 s12 ((xnew xE1 σ : Nat) : Int) 7 then (xob (xwr xE1 s12 ((xnew xE1 σ : Nat) : Int) 1 w14) none fun s15 => xob (xfld xE1 s15 v1 7 4) none fun w16 => bif xisO xE1 s15 ((xnew xE1 σ : Nat) : Int) 7 then (xob (xwr xE1 s15 ((xnew xE1 σ : Nat) : Int) 4 w16) none fun s17 => (X iReader_step 0 [(2, 297)] [] s17).bind fun q18 => X iReader_readWord 99 [(2, 297), (2, v1), (0, t0), (2, ((xnew xE1 σ : Nat) : Int))] [] q18.2)
            else none)
          else none)
        else none)
      else none)
    else none)
  else none :=
  xev_eq (E := xE1) (F := xFk) (P := xPg) (inl := [253, 280]) (stop := [4, 40, 99]) 38 iReader_readWord 40 [(2, 297), (2, v1), vw2, vw3] [(0, t0)] σ
set_option maxRecDepth 20000 in
theorem qReader_readWord_99 (v3 : Int) (vw0 vw1 vw2 : xAV) (σ : xS) : X iReader_readWord 99 [vw0, vw1, vw2, (2, v3)] [] σ =
  some ((2, v3), σ) :=
  xev_eq (E := xE1) (F := xFk) (P := xPg) (inl := [253, 280]) (stop := [4, 40, 99]) 4 iReader_readWord 99 [vw0, vw1, vw2, (2, v3)] [] σ
set_option maxRecDepth 20000 in
theorem qReader_readCond_0 (σ : xS) : X iReader_readCond 0 [(2, 297), (9, 0), (9, 0), (9, 0)] [] σ =
  bif Nat.beq (xdp σ) 0 then none
  else (X iReader_readAll2 0 [(2, 297), (9, 0), (9, 0), (9, 0)] [] (xsetdp σ (xdp σ - 1))).bind fun q1 => X iReader_readCond 4 [(2, 297), (9, 0), (9, 0), (9, 0)] [q1.1] (xsetdp q1.2 (xdp σ)) :=
  xev_eq (E := xE1) (F := xFk) (P := xPg) (inl := [253, 254]) (stop := [4, 31, 57, 64, 67]) 4 iReader_readCond 0 [(2, 297), (9, 0), (9, 0), (9, 0)] [] σ
set_option maxRecDepth 20000 in
theorem qReader_readCond_4 (t0 : Int) (vw1 vw2 vw3 : xAV) (σ : xS) : X iReader_readCond 4 [(2, 297), vw1, vw2, vw3] [(2, t0)] σ =
  if t0 = 0 then some ((2, t0), σ)
  else bif (xcm (σ.1 297 9) && xcm 21) then (if (σ.1 297 9) = 21 then (bif xisO xE1 (xal xE1 σ 7 8) ((xnew xE1 σ : Nat) : Int) 7 then (bif Nat.beq ((xnew xE1 σ : Nat) : Int).toNat 0 then none
        else bif xisO xE1 (xal xE1 σ 7 8) ((xnew xE1 σ : Nat) : Int) 7 then (xob (xwr xE1 (xal xE1 σ 7 8) ((xnew xE1 σ : Nat) : Int) 1 (-1)) none fun s1 => bif xisO xE1 s1 ((xnew xE1 σ : Nat) : Int) 7 then (xob (xwr xE1 s1 ((xnew xE1 σ : Nat) : Int) 4 108) none fun s2 => bif xisO xE1 s2 ((xnew xE1 σ : Nat) : Int) 7 then (xob (xwr xE1 s2 ((xnew xE1 σ : Nat) : Int) 0 21) none fun s3 => bif xisO xE1 s3 ((xnew xE1 σ : Nat) : Int) 7 then (xob (xwr xE1 s3 ((xnew xE1 σ : Nat) : Int) 6 t0) none fun s4 => X iReader_readCond 31 [(2, 297), (2, t0), (2, ((xnew xE1 σ : Nat) : Int)), (0, 0)] [] s4)
              else none)
            else none)
          else none)
        else none)
      else none)
    else some ((2, t0), σ))
  else none :=
  xev_eq (E := xE1) (F := xFk) (P := xPg) (inl := [253, 254]) (stop := [4, 31, 57, 64, 67]) 37 iReader_readCond 4 [(2, 297), vw1, vw2, vw3] [(2, t0)] σ
set_option maxRecDepth 20000 in
theorem qReader_readCond_31 (v1 v2 v3 : Int) (σ : xS) : X iReader_readCond 31 [(2, 297), (2, v1), (2, v2), (0, v3)] [] σ =
  if v3 < (σ.1 297 1) then (if v1 = 0 then (if v1 = 0 then some ((2, 0), σ)
      else some ((2, v2), σ))
    else bif (xcm (σ.1 297 9) && xcm 21) then (if (σ.1 297 9) = 21 then ((X iReader_step 0 [(2, 297)] [] σ).bind fun q1 => X iReader_readCond 57 [(2, 297), (2, v1), (2, v2), (0, v3)] [] q1.2)
      else if v1 = 0 then some ((2, 0), σ)
      else some ((2, v2), σ))
    else none)
  else if v1 = 0 then some ((2, 0), σ)
  else some ((2, v2), σ) :=
  xev_eq (E := xE1) (F := xFk) (P := xPg) (inl := [253, 254]) (stop := [4, 31, 57, 64, 67]) 17 iReader_readCond 31 [(2, 297), (2, v1), (2, v2), (0, v3)] [] σ
set_option maxRecDepth 20000 in
theorem qReader_readCond_57 (v1 v2 v3 : Int) (σ : xS) : X iReader_readCond 57 [(2, 297), (2, v1), (2, v2), (0, v3)] [] σ =
  bif Nat.beq (xdp σ) 0 then none
  else (X iReader_readAll2 0 [(2, 297), (9, 0), (9, 0), (9, 0)] [] (xsetdp σ (xdp σ - 1))).bind fun q1 => X iReader_readCond 64 [(2, 297), (2, v1), (2, v2), (0, v3)] [q1.1, (0, 32), (2, v1)] (xsetdp q1.2 (xdp σ)) :=
  xev_eq (E := xE1) (F := xFk) (P := xPg) (inl := [253, 254]) (stop := [4, 31, 57, 64, 67]) 6 iReader_readCond 57 [(2, 297), (2, v1), (2, v2), (0, v3)] [] σ
set_option maxRecDepth 20000 in
theorem qReader_readCond_64 (v2 v3 t0 t1 t2 : Int) (vw1 : xAV) (σ : xS) : X iReader_readCond 64 [(2, 297), vw1, (2, v2), (0, v3)] [(2, t0), (0, t1), (2, t2)] σ =
  (X iReader_append 0 [(2, t2), (0, t1), (2, t0)] [] σ).bind fun q1 => X iReader_readCond 67 [(2, 297), vw1, (2, v2), (0, v3)] [q1.1] q1.2 :=
  xev_eq (E := xE1) (F := xFk) (P := xPg) (inl := [253, 254]) (stop := [4, 31, 57, 64, 67]) 3 iReader_readCond 64 [(2, 297), vw1, (2, v2), (0, v3)] [(2, t0), (0, t1), (2, t2)] σ
set_option maxRecDepth 20000 in
theorem qReader_readCond_67 (v2 v3 t0 : Int) (vw1 : xAV) (σ : xS) : X iReader_readCond 67 [(2, 297), vw1, (2, v2), (0, v3)] [(2, t0)] σ =
  X iReader_readCond 31 [(2, 297), (2, t0), (2, v2), (0, (xw (v3 + 1)))] [] σ :=
  xev_eq (E := xE1) (F := xFk) (P := xPg) (inl := [253, 254]) (stop := [4, 31, 57, 64, 67]) 5 iReader_readCond 67 [(2, 297), vw1, (2, v2), (0, v3)] [(2, t0)] σ
set_option maxRecDepth 20000 in
theorem qReader_readAll2_0 (σ : xS) : X iReader_readAll2 0 [(2, 297), (9, 0), (9, 0), (9, 0)] [] σ =
  bif Nat.beq (xdp σ) 0 then none
  else (X iReader_readTest 0 [(2, 297), (9, 0), (9, 0), (9, 0)] [] (xsetdp σ (xdp σ - 1))).bind fun q1 => X iReader_readAll2 4 [(2, 297), (9, 0), (9, 0), (9, 0)] [q1.1] (xsetdp q1.2 (xdp σ)) :=
  xev_eq (E := xE1) (F := xFk) (P := xPg) (inl := [253, 254]) (stop := [4, 31, 57, 64, 67]) 4 iReader_readAll2 0 [(2, 297), (9, 0), (9, 0), (9, 0)] [] σ
set_option maxRecDepth 20000 in
theorem qReader_readAll2_4 (t0 : Int) (vw1 vw2 vw3 : xAV) (σ : xS) : X iReader_readAll2 4 [(2, 297), vw1, vw2, vw3] [(2, t0)] σ =
  if t0 = 0 then some ((2, t0), σ)
  else bif (xcm (σ.1 297 9) && xcm 22) then (if (σ.1 297 9) = 22 then (bif xisO xE1 (xal xE1 σ 7 8) ((xnew xE1 σ : Nat) : Int) 7 then (bif Nat.beq ((xnew xE1 σ : Nat) : Int).toNat 0 then none
        else bif xisO xE1 (xal xE1 σ 7 8) ((xnew xE1 σ : Nat) : Int) 7 then (xob (xwr xE1 (xal xE1 σ 7 8) ((xnew xE1 σ : Nat) : Int) 1 (-1)) none fun s1 => bif xisO xE1 s1 ((xnew xE1 σ : Nat) : Int) 7 then (xob (xwr xE1 s1 ((xnew xE1 σ : Nat) : Int) 4 108) none fun s2 => bif xisO xE1 s2 ((xnew xE1 σ : Nat) : Int) 7 then (xob (xwr xE1 s2 ((xnew xE1 σ : Nat) : Int) 0 22) none fun s3 => bif xisO xE1 s3 ((xnew xE1 σ : Nat) : Int) 7 then (xob (xwr xE1 s3 ((xnew xE1 σ : Nat) : Int) 6 t0) none fun s4 => X iReader_readAll2 31 [(2, 297), (2, t0), (2, ((xnew xE1 σ : Nat) : Int)), (0, 0)] [] s4)
              else none)
            else none)
          else none)
        else none)
      else none)
    else some ((2, t0), σ))
  else none :=
  xev_eq (E := xE1) (F := xFk) (P := xPg) (inl := [253, 254]) (stop := [4, 31, 57, 64, 67]) 37 iReader_readAll2 4 [(2, 297), vw1, vw2, vw3] [(2, t0)] σ
set_option maxRecDepth 20000 in
theorem qReader_readAll2_31 (v1 v2 v3 : Int) (σ : xS) : X iReader_readAll2 31 [(2, 297), (2, v1), (2, v2), (0, v3)] [] σ =
  if v3 < (σ.1 297 1) then (if v1 = 0 then (if v1 = 0 then some ((2, 0), σ)
      else some ((2, v2), σ))
    else bif (xcm (σ.1 297 9) && xcm 22) then (if (σ.1 297 9) = 22 then ((X iReader_step 0 [(2, 297)] [] σ).bind fun q1 => X iReader_readAll2 57 [(2, 297), (2, v1), (2, v2), (0, v3)] [] q1.2)
      else if v1 = 0 then some ((2, 0), σ)
      else some ((2, v2), σ))
    else none)
  else if v1 = 0 then some ((2, 0), σ)
  else some ((2, v2), σ) :=
  xev_eq (E := xE1) (F := xFk) (P := xPg) (inl := [253, 254]) (stop := [4, 31, 57, 64, 67]) 17 iReader_readAll2 31 [(2, 297), (2, v1), (2, v2), (0, v3)] [] σ
set_option maxRecDepth 20000 in
theorem qReader_readAll2_57 (v1 v2 v3 : Int) (σ : xS) : X iReader_readAll2 57 [(2, 297), (2, v1), (2, v2), (0, v3)] [] σ =
  bif Nat.beq (xdp σ) 0 then none
  else (X iReader_readTest 0 [(2, 297), (9, 0), (9, 0), (9, 0)] [] (xsetdp σ (xdp σ - 1))).bind fun q1 => X iReader_readAll2 64 [(2, 297), (2, v1), (2, v2), (0, v3)] [q1.1, (0, 32), (2, v1)] (xsetdp q1.2 (xdp σ)) :=
  xev_eq (E := xE1) (F := xFk) (P := xPg) (inl := [253, 254]) (stop := [4, 31, 57, 64, 67]) 6 iReader_readAll2 57 [(2, 297), (2, v1), (2, v2), (0, v3)] [] σ
set_option maxRecDepth 20000 in
theorem qReader_readAll2_64 (v2 v3 t0 t1 t2 : Int) (vw1 : xAV) (σ : xS) : X iReader_readAll2 64 [(2, 297), vw1, (2, v2), (0, v3)] [(2, t0), (0, t1), (2, t2)] σ =
  (X iReader_append 0 [(2, t2), (0, t1), (2, t0)] [] σ).bind fun q1 => X iReader_readAll2 67 [(2, 297), vw1, (2, v2), (0, v3)] [q1.1] q1.2 :=
  xev_eq (E := xE1) (F := xFk) (P := xPg) (inl := [253, 254]) (stop := [4, 31, 57, 64, 67]) 3 iReader_readAll2 64 [(2, 297), vw1, (2, v2), (0, v3)] [(2, t0), (0, t1), (2, t2)] σ
set_option maxRecDepth 20000 in
theorem qReader_readAll2_67 (v2 v3 t0 : Int) (vw1 : xAV) (σ : xS) : X iReader_readAll2 67 [(2, 297), vw1, (2, v2), (0, v3)] [(2, t0)] σ =
  X iReader_readAll2 31 [(2, 297), (2, t0), (2, v2), (0, (xw (v3 + 1)))] [] σ :=
  xev_eq (E := xE1) (F := xFk) (P := xPg) (inl := [253, 254]) (stop := [4, 31, 57, 64, 67]) 5 iReader_readAll2 67 [(2, 297), vw1, (2, v2), (0, v3)] [(2, t0)] σ
set_option maxRecDepth 20000 in
theorem qReader_readTest_0 (σ : xS) : X iReader_readTest 0 [(2, 297), (9, 0), (9, 0), (9, 0)] [] σ =
  bif (xcm (σ.1 297 9) && xcm 23) then (if (σ.1 297 9) = 23 then ((X iReader_opens 0 [(2, 297)] [] σ).bind fun q1 => X iReader_readTest 14 [(2, 297), (9, 0), (9, 0), (9, 0)] [q1.1] q1.2)
    else if (xna 3 (σ.1 297 8)) = 91 then ((X iReader_opens 0 [(2, 297)] [] σ).bind fun q2 => X iReader_readTest 49 [(2, 297), (9, 0), (9, 0), (9, 0)] [q2.1] q2.2)
    else bif Nat.beq (xdp σ) 0 then none
    else (X iReader_readSum 0 [(2, 297), (9, 0), (9, 0), (9, 0), (9, 0)] [] (xsetdp σ (xdp σ - 1))).bind fun q3 => X iReader_readTest 69 [(2, 297), (9, 0), (9, 0), (9, 0)] [q3.1] (xsetdp q3.2 (xdp σ)))
  else none :=
  xev_eq (E := xE1) (F := xFk) (P := xPg) (inl := [253, 254, 280]) (stop := [14, 25, 31, 49, 57, 60, 69, 115, 121, 124]) 12 iReader_readTest 0 [(2, 297), (9, 0), (9, 0), (9, 0)] [] σ
set_option maxRecDepth 20000 in
theorem qReader_readTest_14 (t0 : Int) (vw1 vw2 vw3 : xAV) (σ : xS) : X iReader_readTest 14 [(2, 297), vw1, vw2, vw3] [(0, t0)] σ =
  if t0 = 0 then some ((2, 0), σ)
  else bif Nat.beq (xdp σ) 0 then none
  else (X iReader_readTest 0 [(2, 297), (9, 0), (9, 0), (9, 0)] [] (xsetdp σ (xdp σ - 1))).bind fun q1 => X iReader_readTest 25 [(2, 297), vw1, vw2, vw3] [q1.1, (2, 23), (2, 297)] (xsetdp q1.2 (xdp σ)) :=
  xev_eq (E := xE1) (F := xFk) (P := xPg) (inl := [253, 254, 280]) (stop := [14, 25, 31, 49, 57, 60, 69, 115, 121, 124]) 7 iReader_readTest 14 [(2, 297), vw1, vw2, vw3] [(0, t0)] σ
set_option maxRecDepth 20000 in
theorem qReader_readTest_25 (t0 : Int) (vw0 vw1 vw2 vw3 : xAV) (σ : xS) : X iReader_readTest 25 [vw0, vw1, vw2, vw3] [(2, t0), (2, 23), (2, 297)] σ =
  bif xisO xE1 (xal xE1 σ 7 8) ((xnew xE1 σ : Nat) : Int) 7 then (bif Nat.beq ((xnew xE1 σ : Nat) : Int).toNat 0 then none
    else bif xisO xE1 (xal xE1 σ 7 8) ((xnew xE1 σ : Nat) : Int) 7 then (xob (xwr xE1 (xal xE1 σ 7 8) ((xnew xE1 σ : Nat) : Int) 1 (-1)) none fun s1 => bif xisO xE1 s1 ((xnew xE1 σ : Nat) : Int) 7 then (xob (xwr xE1 s1 ((xnew xE1 σ : Nat) : Int) 4 108) none fun s2 => bif xisO xE1 s2 ((xnew xE1 σ : Nat) : Int) 7 then (xob (xwr xE1 s2 ((xnew xE1 σ : Nat) : Int) 0 23) none fun s3 => bif xisO xE1 s3 ((xnew xE1 σ : Nat) : Int) 7 then (xob (xwr xE1 s3 ((xnew xE1 σ : Nat) : Int) 6 t0) none fun s4 => (X iReader_closes 0 [(2, 297), (2, ((xnew xE1 σ : Nat) : Int))] [] s4).bind fun q5 => X iReader_readTest 31 [vw0, vw1, vw2, vw3] [q5.1] q5.2)
          else none)
        else none)
      else none)
    else none)
  else none :=
  xev_eq (E := xE1) (F := xFk) (P := xPg) (inl := [253, 254, 280]) (stop := [14, 25, 31, 49, 57, 60, 69, 115, 121, 124]) 26 iReader_readTest 25 [vw0, vw1, vw2, vw3] [(2, t0), (2, 23), (2, 297)] σ
set_option maxRecDepth 20000 in
theorem qReader_readTest_31 (t0 : Int) (vw0 vw1 vw2 vw3 : xAV) (σ : xS) : X iReader_readTest 31 [vw0, vw1, vw2, vw3] [(2, t0)] σ =
  some ((2, t0), σ) :=
  xev_eq (E := xE1) (F := xFk) (P := xPg) (inl := [253, 254, 280]) (stop := [14, 25, 31, 49, 57, 60, 69, 115, 121, 124]) 4 iReader_readTest 31 [vw0, vw1, vw2, vw3] [(2, t0)] σ
set_option maxRecDepth 20000 in
theorem qReader_readTest_49 (t0 : Int) (vw1 vw2 vw3 : xAV) (σ : xS) : X iReader_readTest 49 [(2, 297), vw1, vw2, vw3] [(0, t0)] σ =
  if t0 = 0 then some ((2, 0), σ)
  else bif Nat.beq (xdp σ) 0 then none
  else (X iReader_readCond 0 [(2, 297), (9, 0), (9, 0), (9, 0)] [] (xsetdp σ (xdp σ - 1))).bind fun q1 => X iReader_readTest 57 [(2, 297), vw1, vw2, vw3] [q1.1, (2, 297)] (xsetdp q1.2 (xdp σ)) :=
  xev_eq (E := xE1) (F := xFk) (P := xPg) (inl := [253, 254, 280]) (stop := [14, 25, 31, 49, 57, 60, 69, 115, 121, 124]) 6 iReader_readTest 49 [(2, 297), vw1, vw2, vw3] [(0, t0)] σ
set_option maxRecDepth 20000 in
theorem qReader_readTest_57 (t0 : Int) (vw0 vw1 vw2 vw3 : xAV) (σ : xS) : X iReader_readTest 57 [vw0, vw1, vw2, vw3] [(2, t0), (2, 297)] σ =
  (X iReader_readToBracket 0 [(2, 297), (2, t0)] [] σ).bind fun q1 => X iReader_readTest 60 [vw0, vw1, vw2, vw3] [q1.1] q1.2 :=
  xev_eq (E := xE1) (F := xFk) (P := xPg) (inl := [253, 254, 280]) (stop := [14, 25, 31, 49, 57, 60, 69, 115, 121, 124]) 3 iReader_readTest 57 [vw0, vw1, vw2, vw3] [(2, t0), (2, 297)] σ
set_option maxRecDepth 20000 in
theorem qReader_readTest_60 (t0 : Int) (vw0 vw1 vw2 vw3 : xAV) (σ : xS) : X iReader_readTest 60 [vw0, vw1, vw2, vw3] [(2, t0)] σ =
  some ((2, t0), σ) :=
  xev_eq (E := xE1) (F := xFk) (P := xPg) (inl := [253, 254, 280]) (stop := [14, 25, 31, 49, 57, 60, 69, 115, 121, 124]) 4 iReader_readTest 60 [vw0, vw1, vw2, vw3] [(2, t0)] σ
set_option maxRecDepth 20000 in
theorem qReader_readTest_69 (t0 : Int) (vw1 vw2 vw3 : xAV) (σ : xS) : X iReader_readTest 69 [(2, 297), vw1, vw2, vw3] [(2, t0)] σ =
  if t0 = 0 then (if (σ.1 297 14) = (-1) then (if xin (σ.1 297 7) 401 then some ((2, 0), (xs σ 297 14 (σ.1 299 (σ.1 297 7).toNat)))
      else none)
    else some ((2, 0), σ))
  else if (xna 3 (σ.1 297 8)) = 60 then ((X iReader_step 0 [(2, 297)] [] σ).bind fun q1 => X iReader_readTest 115 [(2, 297), (2, t0), (0, (xna 3 (σ.1 297 8))), vw3] [] q1.2)
  else if (xna 3 (σ.1 297 8)) = 62 then ((X iReader_step 0 [(2, 297)] [] σ).bind fun q2 => X iReader_readTest 115 [(2, 297), (2, t0), (0, (xna 3 (σ.1 297 8))), vw3] [] q2.2)
  else if (xna 3 (σ.1 297 8)) = 61 then ((X iReader_step 0 [(2, 297)] [] σ).bind fun q3 => X iReader_readTest 115 [(2, 297), (2, t0), (0, (xna 3 (σ.1 297 8))), vw3] [] q3.2)
  else if (σ.1 297 14) = (-1) then (if xin (σ.1 297 7) 401 then some ((2, 0), (xs σ 297 14 (σ.1 299 (σ.1 297 7).toNat)))
    else none)
  else some ((2, 0), σ) :=
  xev_eq (E := xE1) (F := xFk) (P := xPg) (inl := [253, 254, 280]) (stop := [14, 25, 31, 49, 57, 60, 69, 115, 121, 124]) 33 iReader_readTest 69 [(2, 297), vw1, vw2, vw3] [(2, t0)] σ
set_option maxRecDepth 20000 in
theorem qReader_readTest_115 (v1 v2 : Int) (vw3 : xAV) (σ : xS) : X iReader_readTest 115 [(2, 297), (2, v1), (0, v2), vw3] [] σ =
  bif Nat.beq (xdp σ) 0 then none
  else (X iReader_readSum 0 [(2, 297), (9, 0), (9, 0), (9, 0), (9, 0)] [] (xsetdp σ (xdp σ - 1))).bind fun q1 => X iReader_readTest 121 [(2, 297), (2, v1), (0, v2), vw3] [q1.1, (0, v2), (2, v1)] (xsetdp q1.2 (xdp σ)) :=
  xev_eq (E := xE1) (F := xFk) (P := xPg) (inl := [253, 254, 280]) (stop := [14, 25, 31, 49, 57, 60, 69, 115, 121, 124]) 6 iReader_readTest 115 [(2, 297), (2, v1), (0, v2), vw3] [] σ
set_option maxRecDepth 20000 in
theorem qReader_readTest_121 (v1 t0 t1 t2 : Int) (vw0 vw2 vw3 : xAV) (σ : xS) : X iReader_readTest 121 [vw0, (2, v1), vw2, vw3] [(2, t0), (0, t1), (2, t2)] σ =
  (X iReader_append 0 [(2, t2), (0, t1), (2, t0)] [] σ).bind fun q1 => X iReader_readTest 124 [vw0, (2, v1), vw2, vw3] [q1.1] q1.2 :=
  xev_eq (E := xE1) (F := xFk) (P := xPg) (inl := [253, 254, 280]) (stop := [14, 25, 31, 49, 57, 60, 69, 115, 121, 124]) 3 iReader_readTest 121 [vw0, (2, v1), vw2, vw3] [(2, t0), (0, t1), (2, t2)] σ
set_option maxRecDepth 20000 in
theorem qReader_readTest_124 (v1 t0 : Int) (vw0 vw2 vw3 : xAV) (σ : xS) : X iReader_readTest 124 [vw0, (2, v1), vw2, vw3] [(2, t0)] σ =
  if t0 = 0 then some ((2, 0), σ)
  else bif xisO xE1 (xal xE1 σ 7 8) ((xnew xE1 σ : Nat) : Int) 7 then (bif Nat.beq ((xnew xE1 σ : Nat) : Int).toNat 0 then none
    else bif xisO xE1 (xal xE1 σ 7 8) ((xnew xE1 σ : Nat) : Int) 7 then (xob (xwr xE1 (xal xE1 σ 7 8) ((xnew xE1 σ : Nat) : Int) 1 (-1)) none fun s1 => bif xisO xE1 s1 ((xnew xE1 σ : Nat) : Int) 7 then (xob (xwr xE1 s1 ((xnew xE1 σ : Nat) : Int) 4 108) none fun s2 => bif xisO xE1 s2 ((xnew xE1 σ : Nat) : Int) 7 then (xob (xwr xE1 s2 ((xnew xE1 σ : Nat) : Int) 0 39) none fun s3 => bif xisO xE1 s3 ((xnew xE1 σ : Nat) : Int) 7 then (xob (xwr xE1 s3 ((xnew xE1 σ : Nat) : Int) 6 v1) none fun s4 => some ((2, ((xnew xE1 σ : Nat) : Int)), s4))
          else none)
        else none)
      else none)
    else none)
  else none :=
  xev_eq (E := xE1) (F := xFk) (P := xPg) (inl := [253, 254, 280]) (stop := [14, 25, 31, 49, 57, 60, 69, 115, 121, 124]) 31 iReader_readTest 124 [vw0, (2, v1), vw2, vw3] [(2, t0)] σ
set_option maxRecDepth 20000 in
theorem qReader_readToBracket_0 (a1 : Int) (σ : xS) : X iReader_readToBracket 0 [(2, 297), (2, a1)] [] σ =
  (X iReader_pass 0 [(2, 297), (0, 93)] [] σ).bind fun q1 => X iReader_readToBracket 6 [(2, 297), (2, a1)] [q1.1] q1.2 :=
  xev_eq (E := xE1) (F := xFk) (P := xPg) (inl := []) (stop := [6, 14]) 5 iReader_readToBracket 0 [(2, 297), (2, a1)] [] σ
set_option maxRecDepth 20000 in
theorem qReader_readToBracket_6 (v1 t0 : Int) (σ : xS) : X iReader_readToBracket 6 [(2, 297), (2, v1)] [(0, t0)] σ =
  if t0 = 0 then some ((2, 0), σ)
  else (X iReader_closes 0 [(2, 297), (2, v1)] [] σ).bind fun q1 => X iReader_readToBracket 14 [(2, 297), (2, v1)] [q1.1] q1.2 :=
  xev_eq (E := xE1) (F := xFk) (P := xPg) (inl := []) (stop := [6, 14]) 6 iReader_readToBracket 6 [(2, 297), (2, v1)] [(0, t0)] σ
set_option maxRecDepth 20000 in
theorem qReader_readToBracket_14 (t0 : Int) (vw0 vw1 : xAV) (σ : xS) : X iReader_readToBracket 14 [vw0, vw1] [(2, t0)] σ =
  some ((2, t0), σ) :=
  xev_eq (E := xE1) (F := xFk) (P := xPg) (inl := []) (stop := [6, 14]) 4 iReader_readToBracket 14 [vw0, vw1] [(2, t0)] σ

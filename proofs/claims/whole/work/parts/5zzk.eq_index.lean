/-! equations, written by a program (wip/whole/gen) -/
set_option maxRecDepth 20000 in
theorem qJS_indexOf1_0 (a0 a1 : Int) (σ : xS) : X iJS_indexOf1 0 [(2, a0), (0, a1)] [] σ =
  bif xisO xE1 σ a0 0 then ((X iJS_indexOf2 0 [(2, a0), (0, a1), (0, 0)] [] σ).bind fun q1 => X iJS_indexOf1 6 [(2, a0), (0, a1)] [q1.1] q1.2)
  else none :=
  xev_eq (E := xE1) (F := xFk) (P := xPg) (inl := []) (stop := [6]) 6 iJS_indexOf1 0 [(2, a0), (0, a1)] [] σ
set_option maxRecDepth 20000 in
theorem qJS_indexOf1_6 (t0 : Int) (vw0 vw1 : xAV) (σ : xS) : X iJS_indexOf1 6 [vw0, vw1] [(0, t0)] σ =
  some ((0, t0), σ) :=
  xev_eq (E := xE1) (F := xFk) (P := xPg) (inl := []) (stop := [6]) 3 iJS_indexOf1 6 [vw0, vw1] [(0, t0)] σ
set_option maxRecDepth 20000 in
theorem qJS_indexOf2_0 (a0 a1 a2 : Int) (σ : xS) : X iJS_indexOf2 0 [(2, a0), (0, a1), (0, a2)] [] σ =
  bif xisO xE1 σ a0 0 then (xob (xfld xE1 σ a0 0 1) none fun w1 => if (xna 2 w1) = 0 then (xob (xfld xE1 σ a0 0 0) none fun w2 => bif xisO xE1 σ a0 0 then (xob (xfld xE1 σ a0 0 0) none fun w3 => xob (xlen xE1 σ w3) none fun n4 => bif xisO xE1 σ a0 0 then (xob (xfld xE1 σ a0 0 1) none fun w5 => if (xna 2 (xna 2 w5)) = (xna 2 w5) then ((X iJL_indexOf 0 [(2, w2), (0, a1), (0, a2), (0, (xshr ((n4 : Nat) : Int) (xna 2 w5)))] [] σ).bind fun q6 => X iJS_indexOf2 20 [(2, a0), (0, a1), (0, a2)] [q6.1] q6.2)
          else none)
        else none)
      else none)
    else xob (xfld xE1 σ a0 0 0) none fun w7 => bif xisO xE1 σ a0 0 then (xob (xfld xE1 σ a0 0 0) none fun w8 => xob (xlen xE1 σ w8) none fun n9 => bif xisO xE1 σ a0 0 then (xob (xfld xE1 σ a0 0 1) none fun w10 => if (xna 2 (xna 2 w10)) = (xna 2 w10) then ((X iJU_indexOf 0 [(2, w7), (0, a1), (0, a2), (0, (xshr ((n9 : Nat) : Int) (xna 2 w10)))] [] σ).bind fun q11 => X iJS_indexOf2 36 [(2, a0), (0, a1), (0, a2)] [q11.1] q11.2)
        else none)
      else none)
    else none)
  else none :=
  xev_eq (E := xE1) (F := xFk) (P := xPg) (inl := [372, 376, 377]) (stop := [20, 36]) 33 iJS_indexOf2 0 [(2, a0), (0, a1), (0, a2)] [] σ
set_option maxRecDepth 20000 in
theorem qJS_indexOf2_20 (t0 : Int) (vw0 vw1 vw2 : xAV) (σ : xS) : X iJS_indexOf2 20 [vw0, vw1, vw2] [(0, t0)] σ =
  X iJS_indexOf2 36 [vw0, vw1, vw2] [(0, t0)] σ :=
  xev_eq (E := xE1) (F := xFk) (P := xPg) (inl := [372, 376, 377]) (stop := [20, 36]) 3 iJS_indexOf2 20 [vw0, vw1, vw2] [(0, t0)] σ
set_option maxRecDepth 20000 in
theorem qJS_indexOf2_36 (t0 : Int) (vw0 vw1 vw2 : xAV) (σ : xS) : X iJS_indexOf2 36 [vw0, vw1, vw2] [(0, t0)] σ =
  some ((0, t0), σ) :=
  xev_eq (E := xE1) (F := xFk) (P := xPg) (inl := [372, 376, 377]) (stop := [20, 36]) 3 iJS_indexOf2 36 [vw0, vw1, vw2] [(0, t0)] σ
set_option maxRecDepth 20000 in
theorem qJL_indexOf_0 (a0 a1 a2 a3 : Int) (σ : xS) : X iJL_indexOf 0 [(2, a0), (0, a1), (0, a2), (0, a3)] [] σ =
  if a1 < 0 then some ((0, (-1)), σ)
  else if 255 < a1 then some ((0, (-1)), σ)
  else xob (xlen xE1 σ a0) none fun n1 => if (xmm 0 a2 0) < (xmm 1 a3 ((n1 : Nat) : Int)) then ((X iJL_indexOfChar 0 [(2, a0), (0, a1), (0, (xmm 0 a2 0)), (0, (xmm 1 a3 ((n1 : Nat) : Int))), (9, 0), (9, 0)] [] σ).bind fun q2 => X iJL_indexOf 36 [(2, a0), (0, a1), (0, (xmm 0 a2 0)), (0, (xmm 1 a3 ((n1 : Nat) : Int)))] [q2.1] q2.2)
  else some ((0, (-1)), σ) :=
  xev_eq (E := xE1) (F := xFk) (P := xPg) (inl := [386]) (stop := [36]) 30 iJL_indexOf 0 [(2, a0), (0, a1), (0, a2), (0, a3)] [] σ
set_option maxRecDepth 20000 in
theorem qJL_indexOf_36 (t0 : Int) (vw0 vw1 vw2 vw3 : xAV) (σ : xS) : X iJL_indexOf 36 [vw0, vw1, vw2, vw3] [(0, t0)] σ =
  some ((0, t0), σ) :=
  xev_eq (E := xE1) (F := xFk) (P := xPg) (inl := [386]) (stop := [36]) 3 iJL_indexOf 36 [vw0, vw1, vw2, vw3] [(0, t0)] σ
set_option maxRecDepth 20000 in
theorem qJL_indexOfChar_0 (a0 a1 a2 a3 : Int) (σ : xS) : X iJL_indexOfChar 0 [(2, a0), (0, a1), (0, a2), (0, a3), (9, 0), (9, 0)] [] σ =
  X iJL_indexOfChar 7 [(2, a0), (0, a1), (0, a2), (0, a3), (0, (xna 2 a1)), (0, a2)] [] σ :=
  xev_eq (E := xE1) (F := xFk) (P := xPg) (inl := []) (stop := [7]) 7 iJL_indexOfChar 0 [(2, a0), (0, a1), (0, a2), (0, a3), (9, 0), (9, 0)] [] σ
set_option maxRecDepth 20000 in
theorem qJL_indexOfChar_7 (v0 v3 v4 v5 : Int) (vw1 vw2 : xAV) (σ : xS) : X iJL_indexOfChar 7 [(2, v0), vw1, vw2, (0, v3), (0, v4), (0, v5)] [] σ =
  if v5 < v3 then (xob (xarr xE1 σ v0 2) none fun n1 => if xin v5 n1 then (if (xna 2 (xag xE1 σ v0 v5.toNat)) = v4 then some ((0, v5), σ)
      else X iJL_indexOfChar 7 [(2, v0), vw1, vw2, (0, v3), (0, v4), (0, (xw (v5 + 1)))] [] σ)
    else none)
  else some ((0, (-1)), σ) :=
  xev_eq (E := xE1) (F := xFk) (P := xPg) (inl := []) (stop := [7]) 12 iJL_indexOfChar 7 [(2, v0), vw1, vw2, (0, v3), (0, v4), (0, v5)] [] σ

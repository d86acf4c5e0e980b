/-! equations, written by a program (wip/whole/gen) -/
set_option maxRecDepth 20000 in
theorem qJA_init_0 (a0 a1 : Int) (σ : xS) : X iJA_init 0 [(2, a0), (0, a1)] [] σ =
  bif Nat.beq a0.toNat 0 then none
  else if 0 ≤ a1 ∧ a1 ≤ 100000 then (bif xisO xE1 (xal xE1 σ 102 a1.toNat) a0 1 then (xob (xwr xE1 (xal xE1 σ 102 a1.toNat) a0 0 ((xnew xE1 σ : Nat) : Int)) none fun s1 => bif xisO xE1 s1 a0 1 then (xob (xwr xE1 s1 a0 1 0) none fun s2 => some ((9, 0), s2))
      else none)
    else none)
  else none :=
  xev_eq (E := xE1) (F := xFk) (P := xPg) (inl := [407, 408]) (stop := []) 15 iJA_init 0 [(2, a0), (0, a1)] [] σ
set_option maxRecDepth 20000 in
theorem qJA_append1_0 (a0 a1 : Int) (σ : xS) : X iJA_append1 0 [(2, a0), (0, a1)] [] σ =
  xob (xfld xE1 σ a0 1 3) none fun w1 => bif xisO xE1 σ a0 1 then ((X iJA_ensureCapacityInternal 0 [(2, a0), (0, (xw (w1 + 1))), (9, 0)] [] σ).bind fun q2 => X iJA_append1 10 [(2, a0), (0, a1)] [] q2.2)
  else none :=
  xev_eq (E := xE1) (F := xFk) (P := xPg) (inl := [349, 371, 385, 394, 406, 409, 410, 422]) (stop := [10, 56]) 8 iJA_append1 0 [(2, a0), (0, a1)] [] σ
set_option maxRecDepth 20000 in
theorem qJA_append1_10 (v0 v1 : Int) (σ : xS) : X iJA_append1 10 [(2, v0), (0, v1)] [] σ =
  bif xisO xE1 σ v0 1 then (xob (xfld xE1 σ v0 1 1) none fun w1 => if (xna 2 w1) = 0 then (if 255 < v1 then (bif xisO xE1 σ v0 1 then (xob (xfld xE1 σ v0 1 1) none fun w2 => if (xna 2 w2) = 0 then (bif xisO xE1 σ v0 1 then ((X iJA_inflate 0 [(2, v0), (9, 0)] [] σ).bind fun q3 => X iJA_append1 56 [(2, v0), (0, v1)] [] q3.2)
            else none)
          else X iJA_append1 56 [(2, v0), (0, v1)] [] σ)
        else none)
      else xob (xfld xE1 σ v0 1 0) none fun w4 => xob (xfld xE1 σ v0 1 3) none fun w5 => bif xisO xE1 σ v0 1 then (xob (xwr xE1 σ v0 3 (xw (w5 + 1))) none fun s6 => xob (xarr xE1 s6 w4 2) none fun n7 => if xin w5 n7 then (xob (xwr xE1 s6 w4 w5.toNat (xna 2 (xna 2 v1))) none fun s8 => some ((2, v0), s8))
        else none)
      else none)
    else bif xisO xE1 σ v0 1 then (xob (xfld xE1 σ v0 1 1) none fun w9 => if (xna 2 w9) = 0 then (bif xisO xE1 σ v0 1 then ((X iJA_inflate 0 [(2, v0), (9, 0)] [] σ).bind fun q10 => X iJA_append1 56 [(2, v0), (0, v1)] [] q10.2)
        else none)
      else X iJA_append1 56 [(2, v0), (0, v1)] [] σ)
    else none)
  else none :=
  xev_eq (E := xE1) (F := xFk) (P := xPg) (inl := [349, 371, 385, 394, 406, 409, 410, 422]) (stop := [10, 56]) 37 iJA_append1 10 [(2, v0), (0, v1)] [] σ
set_option maxRecDepth 20000 in
theorem qJA_append1_56 (v0 v1 : Int) (σ : xS) : X iJA_append1 56 [(2, v0), (0, v1)] [] σ =
  xob (xfld xE1 σ v0 1 0) none fun w1 => xob (xfld xE1 σ v0 1 3) none fun w2 => bif xisO xE1 σ v0 1 then (xob (xwr xE1 σ v0 3 (xw (w2 + 1))) none fun s3 => xob (xlen xE1 s3 w1) none fun n4 => if w2 < 0 then none
    else if w2 < (xshr ((n4 : Nat) : Int) 1) then none
    else none)
  else none :=
  xev_eq (E := xE1) (F := xFk) (P := xPg) (inl := [349, 371, 385, 394, 406, 409, 410, 422]) (stop := [10, 56]) 44 iJA_append1 56 [(2, v0), (0, v1)] [] σ
set_option maxRecDepth 20000 in
theorem qJA_append2_0 (a0 a1 : Int) (σ : xS) : X iJA_append2 0 [(2, a0), (0, a1), (9, 0), (9, 0)] [] σ =
  xob (xfld xE1 σ a0 1 3) none fun w1 => (X iJI_stringSize 0 [(0, a1), (9, 0), (9, 0), (9, 0)] [] σ).bind fun q2 => X iJA_append2 10 [(2, a0), (0, a1), (0, w1), (9, 0)] [q2.1, (0, w1)] q2.2 :=
  xev_eq (E := xE1) (F := xFk) (P := xPg) (inl := [349]) (stop := [10, 17, 33, 47]) 8 iJA_append2 0 [(2, a0), (0, a1), (9, 0), (9, 0)] [] σ
set_option maxRecDepth 20000 in
theorem qJA_append2_10 (v0 v1 v2 t0 t1 : Int) (vw3 : xAV) (σ : xS) : X iJA_append2 10 [(2, v0), (0, v1), (0, v2), vw3] [(0, t0), (0, t1)] σ =
  bif xisO xE1 σ v0 1 then ((X iJA_ensureCapacityInternal 0 [(2, v0), (0, (xw (t1 + t0))), (9, 0)] [] σ).bind fun q1 => X iJA_append2 17 [(2, v0), (0, v1), (0, v2), (0, (xw (t1 + t0)))] [] q1.2)
  else none :=
  xev_eq (E := xE1) (F := xFk) (P := xPg) (inl := [349]) (stop := [10, 17, 33, 47]) 7 iJA_append2 10 [(2, v0), (0, v1), (0, v2), vw3] [(0, t0), (0, t1)] σ
set_option maxRecDepth 20000 in
theorem qJA_append2_17 (v0 v1 v2 v3 : Int) (σ : xS) : X iJA_append2 17 [(2, v0), (0, v1), (0, v2), (0, v3)] [] σ =
  bif xisO xE1 σ v0 1 then (xob (xfld xE1 σ v0 1 1) none fun w1 => if (xna 2 w1) = 0 then (xob (xfld xE1 σ v0 1 0) none fun w2 => (X iJI_getChars 0 [(0, v1), (0, v3), (2, w2), (9, 0), (9, 0), (9, 0), (9, 0)] [] σ).bind fun q3 => X iJA_append2 33 [(2, v0), (0, v1), (0, v2), (0, v3)] [q3.1] q3.2)
    else xob (xfld xE1 σ v0 1 0) none fun w4 => (X iJU_getChars1 0 [(0, v1), (0, v2), (0, v3), (2, w4), (9, 0)] [] σ).bind fun q5 => X iJA_append2 47 [(2, v0), (0, v1), (0, v2), (0, v3)] [q5.1] q5.2)
  else none :=
  xev_eq (E := xE1) (F := xFk) (P := xPg) (inl := [349]) (stop := [10, 17, 33, 47]) 18 iJA_append2 17 [(2, v0), (0, v1), (0, v2), (0, v3)] [] σ
set_option maxRecDepth 20000 in
theorem qJA_append2_33 (v0 v3 t0 : Int) (vw1 vw2 : xAV) (σ : xS) : X iJA_append2 33 [(2, v0), vw1, vw2, (0, v3)] [(0, t0)] σ =
  bif xisO xE1 σ v0 1 then (xob (xwr xE1 σ v0 3 v3) none fun s1 => some ((2, v0), s1))
  else none :=
  xev_eq (E := xE1) (F := xFk) (P := xPg) (inl := [349]) (stop := [10, 17, 33, 47]) 9 iJA_append2 33 [(2, v0), vw1, vw2, (0, v3)] [(0, t0)] σ
set_option maxRecDepth 20000 in
theorem qJA_append2_47 (v0 v3 t0 : Int) (vw1 vw2 : xAV) (σ : xS) : X iJA_append2 47 [(2, v0), vw1, vw2, (0, v3)] [(0, t0)] σ =
  bif xisO xE1 σ v0 1 then (xob (xwr xE1 σ v0 3 v3) none fun s1 => some ((2, v0), s1))
  else none :=
  xev_eq (E := xE1) (F := xFk) (P := xPg) (inl := [349]) (stop := [10, 17, 33, 47]) 8 iJA_append2 47 [(2, v0), vw1, vw2, (0, v3)] [(0, t0)] σ
set_option maxRecDepth 20000 in
theorem qJA_append3_0 (a0 a1 : Int) (σ : xS) : X iJA_append3 0 [(2, a0), (2, a1), (9, 0)] [] σ =
  if a1 = 0 then (bif xisO xE1 σ a0 1 then ((X iJA_appendNull 0 [(2, a0), (9, 0), (9, 0)] [] σ).bind fun q1 => X iJA_append3 8 [(2, a0), (2, a1), (9, 0)] [q1.1] q1.2)
    else none)
  else bif xisO xE1 σ a1 0 then (xob (xfld xE1 σ a1 0 0) none fun w2 => xob (xlen xE1 σ w2) none fun n3 => bif xisO xE1 σ a1 0 then (xob (xfld xE1 σ a1 0 1) none fun w4 => if (xna 2 (xna 2 w4)) = (xna 2 w4) then (xob (xfld xE1 σ a0 1 3) none fun w5 => bif xisO xE1 σ a0 1 then ((X iJA_ensureCapacityInternal 0 [(2, a0), (0, (xw (w5 + (xshr ((n3 : Nat) : Int) (xna 2 w4))))), (9, 0)] [] σ).bind fun q6 => X iJA_append3 24 [(2, a0), (2, a1), (0, (xshr ((n3 : Nat) : Int) (xna 2 w4)))] [] q6.2)
        else none)
      else none)
    else none)
  else none :=
  xev_eq (E := xE1) (F := xFk) (P := xPg) (inl := [372, 377]) (stop := [8, 24, 33]) 26 iJA_append3 0 [(2, a0), (2, a1), (9, 0)] [] σ
set_option maxRecDepth 20000 in
theorem qJA_append3_8 (t0 : Int) (vw0 vw1 vw2 : xAV) (σ : xS) : X iJA_append3 8 [vw0, vw1, vw2] [(2, t0)] σ =
  some ((2, t0), σ) :=
  xev_eq (E := xE1) (F := xFk) (P := xPg) (inl := [372, 377]) (stop := [8, 24, 33]) 3 iJA_append3 8 [vw0, vw1, vw2] [(2, t0)] σ
set_option maxRecDepth 20000 in
theorem qJA_append3_24 (v0 v1 v2 : Int) (σ : xS) : X iJA_append3 24 [(2, v0), (2, v1), (0, v2)] [] σ =
  xob (xfld xE1 σ v0 1 3) none fun w1 => bif xisO xE1 σ v0 1 then ((X iJA_putStringAt 0 [(2, v0), (0, w1), (2, v1)] [] σ).bind fun q2 => X iJA_append3 33 [(2, v0), (2, v1), (0, v2)] [] q2.2)
  else none :=
  xev_eq (E := xE1) (F := xFk) (P := xPg) (inl := [372, 377]) (stop := [8, 24, 33]) 7 iJA_append3 24 [(2, v0), (2, v1), (0, v2)] [] σ
set_option maxRecDepth 20000 in
theorem qJA_append3_33 (v0 v2 : Int) (vw1 : xAV) (σ : xS) : X iJA_append3 33 [(2, v0), vw1, (0, v2)] [] σ =
  xob (xfld xE1 σ v0 1 3) none fun w1 => bif xisO xE1 σ v0 1 then (xob (xwr xE1 σ v0 3 (xw (w1 + v2))) none fun s2 => some ((2, v0), s2))
  else none :=
  xev_eq (E := xE1) (F := xFk) (P := xPg) (inl := [372, 377]) (stop := [8, 24, 33]) 10 iJA_append3 33 [(2, v0), vw1, (0, v2)] [] σ
set_option maxRecDepth 20000 in
theorem qJA_charAt_0 (a0 a1 : Int) (σ : xS) : X iJA_charAt 0 [(2, a0), (0, a1), (9, 0), (9, 0), (9, 0)] [] σ =
  xob (xfld xE1 σ a0 1 1) none fun w1 => xob (xfld xE1 σ a0 1 0) none fun w2 => xob (xfld xE1 σ a0 1 3) none fun w3 => xob (xlen xE1 σ w2) none fun n4 => if a1 < 0 then none
  else if a1 < (xmm 1 w3 (xshr ((n4 : Nat) : Int) (xna 2 w1))) then (if (xna 2 w1) = 0 then (xob (xarr xE1 σ w2 2) none fun n5 => if xin a1 n5 then (if (xna 3 (xna 3 (xiand (xna 2 (xag xE1 σ w2 a1.toNat)) 255))) = (xna 3 (xiand (xna 2 (xag xE1 σ w2 a1.toNat)) 255)) then some ((0, (xna 3 (xiand (xna 2 (xag xE1 σ w2 a1.toNat)) 255))), σ)
        else none)
      else none)
    else none)
  else none :=
  xev_eq (E := xE1) (F := xFk) (P := xPg) (inl := [371, 398, 406, 422]) (stop := []) 41 iJA_charAt 0 [(2, a0), (0, a1), (9, 0), (9, 0), (9, 0)] [] σ
set_option maxRecDepth 20000 in
theorem qJA_ensureCapacityInternal_0 (a0 a1 : Int) (σ : xS) : X iJA_ensureCapacityInternal 0 [(2, a0), (0, a1), (9, 0)] [] σ =
  xob (xfld xE1 σ a0 1 0) none fun w1 => xob (xlen xE1 σ w1) none fun n2 => xob (xfld xE1 σ a0 1 1) none fun w3 => if 0 < (xw (a1 - (xshr ((n2 : Nat) : Int) (xna 2 w3)))) then (xob (xfld xE1 σ a0 1 0) none fun w4 => bif xisO xE1 σ a0 1 then ((X iJA_newCapacity 0 [(2, a0), (0, a1), (9, 0), (9, 0), (9, 0), (9, 0)] [] σ).bind fun q5 => X iJA_ensureCapacityInternal 27 [(2, a0), (0, a1), (0, (xshr ((n2 : Nat) : Int) (xna 2 w3)))] [q5.1, (2, w4), (2, a0)] q5.2)
    else none)
  else some ((9, 0), σ) :=
  xev_eq (E := xE1) (F := xFk) (P := xPg) (inl := []) (stop := [27, 35]) 19 iJA_ensureCapacityInternal 0 [(2, a0), (0, a1), (9, 0)] [] σ
set_option maxRecDepth 20000 in
theorem qJA_ensureCapacityInternal_27 (v0 t0 t1 t2 : Int) (vw1 vw2 : xAV) (σ : xS) : X iJA_ensureCapacityInternal 27 [(2, v0), vw1, vw2] [(0, t0), (2, t1), (2, t2)] σ =
  xob (xfld xE1 σ v0 1 1) none fun w1 => (X iJR_copyOf 0 [(2, t1), (0, (xshl t0 (xna 2 w1))), (9, 0)] [] σ).bind fun q2 => X iJA_ensureCapacityInternal 35 [(2, v0), vw1, vw2] [q2.1, (2, t2)] q2.2 :=
  xev_eq (E := xE1) (F := xFk) (P := xPg) (inl := []) (stop := [27, 35]) 6 iJA_ensureCapacityInternal 27 [(2, v0), vw1, vw2] [(0, t0), (2, t1), (2, t2)] σ
set_option maxRecDepth 20000 in
theorem qJA_ensureCapacityInternal_35 (t0 t1 : Int) (vw0 vw1 vw2 : xAV) (σ : xS) : X iJA_ensureCapacityInternal 35 [vw0, vw1, vw2] [(2, t0), (2, t1)] σ =
  bif xisO xE1 σ t1 1 then (xob (xwr xE1 σ t1 0 t0) none fun s1 => some ((9, 0), s1))
  else none :=
  xev_eq (E := xE1) (F := xFk) (P := xPg) (inl := []) (stop := [27, 35]) 4 iJA_ensureCapacityInternal 35 [vw0, vw1, vw2] [(2, t0), (2, t1)] σ
set_option maxRecDepth 20000 in
theorem qJA_inflateIfNeededFor_0 (a0 a1 : Int) (σ : xS) : X iJA_inflateIfNeededFor 0 [(2, a0), (2, a1)] [] σ =
  xob (xfld xE1 σ a0 1 1) none fun w1 => bif xisO xE1 σ a1 0 then (xob (xfld xE1 σ a1 0 1) none fun w2 => if (xna 2 (xna 2 w2)) = (xna 2 w2) then (if (xna 2 w1) = (xna 2 w2) then X iJA_inflateIfNeededFor 21 [(2, a0), (2, a1)] [] σ
      else bif xisO xE1 σ a0 1 then ((X iJA_inflate 0 [(2, a0), (9, 0)] [] σ).bind fun q3 => X iJA_inflateIfNeededFor 21 [(2, a0), (2, a1)] [] q3.2)
      else none)
    else none)
  else none :=
  xev_eq (E := xE1) (F := xFk) (P := xPg) (inl := [372]) (stop := [21]) 17 iJA_inflateIfNeededFor 0 [(2, a0), (2, a1)] [] σ
set_option maxRecDepth 20000 in
theorem qJA_inflateIfNeededFor_21 (vw0 vw1 : xAV) (σ : xS) : X iJA_inflateIfNeededFor 21 [vw0, vw1] [] σ =
  some ((9, 0), σ) :=
  xev_eq (E := xE1) (F := xFk) (P := xPg) (inl := [372]) (stop := [21]) 3 iJA_inflateIfNeededFor 21 [vw0, vw1] [] σ
set_option maxRecDepth 20000 in
theorem qJA_newCapacity_0 (a0 a1 : Int) (σ : xS) : X iJA_newCapacity 0 [(2, a0), (0, a1), (9, 0), (9, 0), (9, 0), (9, 0)] [] σ =
  xob (xfld xE1 σ a0 1 0) none fun w1 => xob (xlen xE1 σ w1) none fun n2 => xob (xfld xE1 σ a0 1 1) none fun w3 => xob (xfld xE1 σ a0 1 1) none fun w4 => (X iJX_newLength 0 [(0, ((n2 : Nat) : Int)), (0, (xw ((xshl a1 (xna 2 w3)) - ((n2 : Nat) : Int)))), (0, (xw (((n2 : Nat) : Int) + (xshl 2 (xna 2 w4))))), (9, 0)] [] σ).bind fun q5 => X iJA_newCapacity 32 [(2, a0), (0, a1), (0, ((n2 : Nat) : Int)), (0, (xshl a1 (xna 2 w3))), (0, (xw ((xshl a1 (xna 2 w3)) - ((n2 : Nat) : Int)))), (9, 0)] [q5.1] q5.2 :=
  xev_eq (E := xE1) (F := xFk) (P := xPg) (inl := []) (stop := [32]) 24 iJA_newCapacity 0 [(2, a0), (0, a1), (9, 0), (9, 0), (9, 0), (9, 0)] [] σ
set_option maxRecDepth 20000 in
theorem qJA_newCapacity_32 (v0 t0 : Int) (vw1 vw2 vw3 vw4 vw5 : xAV) (σ : xS) : X iJA_newCapacity 32 [(2, v0), vw1, vw2, vw3, vw4, vw5] [(0, t0)] σ =
  if t0 = 2147483647 then none
  else xob (xfld xE1 σ v0 1 1) none fun w1 => some ((0, (xshr t0 (xna 2 w1))), σ) :=
  xev_eq (E := xE1) (F := xFk) (P := xPg) (inl := []) (stop := [32]) 11 iJA_newCapacity 32 [(2, v0), vw1, vw2, vw3, vw4, vw5] [(0, t0)] σ
set_option maxRecDepth 20000 in
theorem qJA_putStringAt_0 (a0 a1 a2 : Int) (σ : xS) : X iJA_putStringAt 0 [(2, a0), (0, a1), (2, a2)] [] σ =
  bif xisO xE1 σ a0 1 then ((X iJA_inflateIfNeededFor 0 [(2, a0), (2, a2)] [] σ).bind fun q1 => X iJA_putStringAt 5 [(2, a0), (0, a1), (2, a2)] [] q1.2)
  else none :=
  xev_eq (E := xE1) (F := xFk) (P := xPg) (inl := []) (stop := [5, 18]) 5 iJA_putStringAt 0 [(2, a0), (0, a1), (2, a2)] [] σ
set_option maxRecDepth 20000 in
theorem qJA_putStringAt_5 (v0 v1 v2 : Int) (σ : xS) : X iJA_putStringAt 5 [(2, v0), (0, v1), (2, v2)] [] σ =
  xob (xfld xE1 σ v0 1 0) none fun w1 => xob (xfld xE1 σ v0 1 1) none fun w2 => bif xisO xE1 σ v2 0 then ((X iJS_getBytes 0 [(2, v2), (2, w1), (0, v1), (0, (xna 2 w2))] [] σ).bind fun q3 => X iJA_putStringAt 18 [(2, v0), (0, v1), (2, v2)] [] q3.2)
  else none :=
  xev_eq (E := xE1) (F := xFk) (P := xPg) (inl := []) (stop := [5, 18]) 9 iJA_putStringAt 5 [(2, v0), (0, v1), (2, v2)] [] σ
set_option maxRecDepth 20000 in
theorem qJA_putStringAt_18 (vw0 vw1 vw2 : xAV) (σ : xS) : X iJA_putStringAt 18 [vw0, vw1, vw2] [] σ =
  some ((9, 0), σ) :=
  xev_eq (E := xE1) (F := xFk) (P := xPg) (inl := []) (stop := [5, 18]) 3 iJA_putStringAt 18 [vw0, vw1, vw2] [] σ
set_option maxRecDepth 20000 in
theorem qJI_getChars_0 (a0 a1 a2 : Int) (σ : xS) : X iJI_getChars 0 [(0, a0), (0, a1), (2, a2), (9, 0), (9, 0), (9, 0), (9, 0)] [] σ =
  if a0 < 0 then X iJI_getChars 22 [(0, a0), (0, a1), (2, a2), (9, 0), (9, 0), (0, a1), (0, 1)] [] σ
  else X iJI_getChars 22 [(0, (xw (-a0))), (0, a1), (2, a2), (9, 0), (9, 0), (0, a1), (0, 0)] [] σ :=
  xev_eq (E := xE1) (F := xFk) (P := xPg) (inl := []) (stop := [22]) 13 iJI_getChars 0 [(0, a0), (0, a1), (2, a2), (9, 0), (9, 0), (9, 0), (9, 0)] [] σ
set_option maxRecDepth 20000 in
theorem qJI_getChars_22 (v0 v2 v5 v6 : Int) (vw1 vw3 vw4 : xAV) (σ : xS) : X iJI_getChars 22 [(0, v0), vw1, (2, v2), vw3, vw4, (0, v5), (0, v6)] [] σ =
  if (-100) < v0 then (if xin (xw (-v0)) 100 then (xob (xarr xE1 σ v2 2) none fun n1 => if xin (xw (v5 + (-1))) n1 then (xob (xwr xE1 σ v2 (xw (v5 + (-1))).toNat (xna 2 (xna 2 (xag xE1 σ 140 (xw (-v0)).toNat)))) none fun s2 => if v0 < (-9) then (if xin (xw (-v0)) 100 then (xob (xarr xE1 s2 v2 2) none fun n3 => if xin (xw ((xw (v5 + (-1))) + (-1))) n3 then (xob (xwr xE1 s2 v2 (xw ((xw (v5 + (-1))) + (-1))).toNat (xna 2 (xna 2 (xag xE1 s2 141 (xw (-v0)).toNat)))) none fun s4 => if v6 = 0 then some ((0, (xw ((xw (v5 + (-1))) + (-1)))), s4)
              else xob (xarr xE1 s4 v2 2) none fun n5 => if xin (xw ((xw ((xw (v5 + (-1))) + (-1))) + (-1))) n5 then (xob (xwr xE1 s4 v2 (xw ((xw ((xw (v5 + (-1))) + (-1))) + (-1))).toNat 45) none fun s6 => some ((0, (xw ((xw ((xw (v5 + (-1))) + (-1))) + (-1)))), s6))
              else none)
            else none)
          else none)
        else if v6 = 0 then some ((0, (xw (v5 + (-1)))), s2)
        else xob (xarr xE1 s2 v2 2) none fun n7 => if xin (xw ((xw (v5 + (-1))) + (-1))) n7 then (xob (xwr xE1 s2 v2 (xw ((xw (v5 + (-1))) + (-1))).toNat 45) none fun s8 => some ((0, (xw ((xw (v5 + (-1))) + (-1)))), s8))
        else none)
      else none)
    else none)
  else if xin (xw ((xw ((xw (Int.tdiv v0 100)) * 100)) - v0)) 100 then (xob (xarr xE1 σ v2 2) none fun n9 => if xin (xw (v5 + (-1))) n9 then (xob (xwr xE1 σ v2 (xw (v5 + (-1))).toNat (xna 2 (xna 2 (xag xE1 σ 140 (xw ((xw ((xw (Int.tdiv v0 100)) * 100)) - v0)).toNat)))) none fun s10 => if xin (xw ((xw ((xw (Int.tdiv v0 100)) * 100)) - v0)) 100 then (xob (xarr xE1 s10 v2 2) none fun n11 => if xin (xw ((xw (v5 + (-1))) + (-1))) n11 then (xob (xwr xE1 s10 v2 (xw ((xw (v5 + (-1))) + (-1))).toNat (xna 2 (xna 2 (xag xE1 s10 141 (xw ((xw ((xw (Int.tdiv v0 100)) * 100)) - v0)).toNat)))) none fun s12 => X iJI_getChars 22 [(0, (xw (Int.tdiv v0 100))), vw1, (2, v2), (0, (xw (Int.tdiv v0 100))), (0, (xw ((xw ((xw (Int.tdiv v0 100)) * 100)) - v0))), (0, (xw ((xw (v5 + (-1))) + (-1)))), (0, v6)] [] s12)
        else none)
      else none)
    else none)
  else none :=
  xev_eq (E := xE1) (F := xFk) (P := xPg) (inl := []) (stop := [22]) 33 iJI_getChars 22 [(0, v0), vw1, (2, v2), vw3, vw4, (0, v5), (0, v6)] [] σ
set_option maxRecDepth 20000 in
theorem qJI_stringSize_0 (a0 : Int) (σ : xS) : X iJI_stringSize 0 [(0, a0), (9, 0), (9, 0), (9, 0)] [] σ =
  if a0 < 0 then X iJI_stringSize 16 [(0, a0), (0, 1), (0, (-10)), (0, 1)] [] σ
  else X iJI_stringSize 16 [(0, (xw (-a0))), (0, 0), (0, (-10)), (0, 1)] [] σ :=
  xev_eq (E := xE1) (F := xFk) (P := xPg) (inl := []) (stop := [16]) 15 iJI_stringSize 0 [(0, a0), (9, 0), (9, 0), (9, 0)] [] σ
set_option maxRecDepth 20000 in
theorem qJI_stringSize_16 (v0 v1 v2 v3 : Int) (σ : xS) : X iJI_stringSize 16 [(0, v0), (0, v1), (0, v2), (0, v3)] [] σ =
  if v3 < 10 then (if v2 < v0 then some ((0, (xw (v3 + v1))), σ)
    else X iJI_stringSize 16 [(0, v0), (0, v1), (0, (xw (10 * v2))), (0, (xw (v3 + 1)))] [] σ)
  else some ((0, (xw (10 + v1))), σ) :=
  xev_eq (E := xE1) (F := xFk) (P := xPg) (inl := []) (stop := [16]) 14 iJI_stringSize 16 [(0, v0), (0, v1), (0, v2), (0, v3)] [] σ
set_option maxRecDepth 20000 in
theorem qJS_init1_0 (a0 a1 a2 : Int) (σ : xS) : X iJS_init1 0 [(2, a0), (2, a1), (2, a2), (9, 0), (9, 0)] [] σ =
  bif Nat.beq a0.toNat 0 then none
  else bif xisO xE1 σ a1 1 then (xob (xfld xE1 σ a1 1 0) none fun w1 => bif xisO xE1 σ a1 1 then (bif xisO xE1 σ a1 1 then (xob (xfld xE1 σ a1 1 3) none fun w2 => bif xisO xE1 σ a1 1 then (xob (xfld xE1 σ a1 1 1) none fun w3 => if (xna 2 w3) = 0 then (bif xisO xE1 σ a0 0 then (xob (xwr xE1 σ a0 1 0) none fun s4 => (X iJR_copyOfRange 0 [(2, w1), (0, 0), (0, w2)] [] s4).bind fun q5 => X iJS_init1 35 [(2, a0), (2, a1), (2, a2), (2, w1), (0, w2)] [q5.1, (2, a0)] q5.2)
            else none)
          else xob (xfld xE1 σ a1 1 2) none fun w6 => if (xna 4 w6) = 0 then (bif xisO xE1 σ a0 0 then (xob (xwr xE1 σ a0 1 1) none fun s7 => (X iJR_copyOfRange 0 [(2, w1), (0, 0), (0, (xshl w2 1))] [] s7).bind fun q8 => X iJS_init1 94 [(2, a0), (2, a1), (2, a2), (2, w1), (0, w2)] [q8.1, (2, a0)] q8.2)
            else none)
          else (X iJU_compress1 0 [(2, w1), (0, 0), (0, w2), (9, 0), (9, 0), (9, 0)] [] σ).bind fun q9 => X iJS_init1 62 [(2, a0), (2, a1), (2, a2), (2, w1), (0, w2)] [q9.1, (2, a0)] q9.2)
        else none)
      else none)
    else none)
  else none :=
  xev_eq (E := xE1) (F := xFk) (P := xPg) (inl := [346, 349, 350, 383, 395]) (stop := [35, 62, 94]) 44 iJS_init1 0 [(2, a0), (2, a1), (2, a2), (9, 0), (9, 0)] [] σ
set_option maxRecDepth 20000 in
theorem qJS_init1_35 (t0 t1 : Int) (vw0 vw1 vw2 vw3 vw4 : xAV) (σ : xS) : X iJS_init1 35 [vw0, vw1, vw2, vw3, vw4] [(2, t0), (2, t1)] σ =
  bif xisO xE1 σ t1 0 then (xob (xwr xE1 σ t1 0 t0) none fun s1 => some ((9, 0), s1))
  else none :=
  xev_eq (E := xE1) (F := xFk) (P := xPg) (inl := [346, 349, 350, 383, 395]) (stop := [35, 62, 94]) 5 iJS_init1 35 [vw0, vw1, vw2, vw3, vw4] [(2, t0), (2, t1)] σ
set_option maxRecDepth 20000 in
theorem qJS_init1_62 (v0 v4 t0 t1 : Int) (vw1 vw2 vw3 : xAV) (σ : xS) : X iJS_init1 62 [(2, v0), vw1, vw2, vw3, (0, v4)] [(2, t0), (2, t1)] σ =
  bif xisO xE1 σ t1 0 then (xob (xwr xE1 σ t1 0 t0) none fun s1 => xob (xfld xE1 s1 v0 0 0) none fun w2 => xob (xlen xE1 s1 w2) none fun n3 => if (xna 2 (xna 2 (xushr (xw (v4 - ((n3 : Nat) : Int))) 31))) = (xna 2 (xushr (xw (v4 - ((n3 : Nat) : Int))) 31)) then (bif xisO xE1 s1 v0 0 then (if (xna 2 (xna 2 (xushr (xw (v4 - ((n3 : Nat) : Int))) 31))) = (xna 2 (xushr (xw (v4 - ((n3 : Nat) : Int))) 31)) then (xob (xwr xE1 s1 v0 1 (xna 2 (xushr (xw (v4 - ((n3 : Nat) : Int))) 31))) none fun s4 => some ((9, 0), s4))
        else none)
      else none)
    else none)
  else none :=
  xev_eq (E := xE1) (F := xFk) (P := xPg) (inl := [346, 349, 350, 383, 395]) (stop := [35, 62, 94]) 18 iJS_init1 62 [(2, v0), vw1, vw2, vw3, (0, v4)] [(2, t0), (2, t1)] σ
set_option maxRecDepth 20000 in
theorem qJS_init1_94 (t0 t1 : Int) (vw0 vw1 vw2 vw3 vw4 : xAV) (σ : xS) : X iJS_init1 94 [vw0, vw1, vw2, vw3, vw4] [(2, t0), (2, t1)] σ =
  bif xisO xE1 σ t1 0 then (xob (xwr xE1 σ t1 0 t0) none fun s1 => some ((9, 0), s1))
  else none :=
  xev_eq (E := xE1) (F := xFk) (P := xPg) (inl := [346, 349, 350, 383, 395]) (stop := [35, 62, 94]) 4 iJS_init1 94 [vw0, vw1, vw2, vw3, vw4] [(2, t0), (2, t1)] σ
set_option maxRecDepth 20000 in
theorem qJS_init2_0 (a0 a1 : Int) (σ : xS) : X iJS_init2 0 [(2, a0), (2, a1)] [] σ =
  bif xisO xE1 σ a0 0 then ((X iJS_init1 0 [(2, a0), (2, a1), (2, 0), (9, 0), (9, 0)] [] σ).bind fun q1 => X iJS_init2 6 [(2, a0), (2, a1)] [] q1.2)
  else none :=
  xev_eq (E := xE1) (F := xFk) (P := xPg) (inl := []) (stop := [6]) 6 iJS_init2 0 [(2, a0), (2, a1)] [] σ
set_option maxRecDepth 20000 in
theorem qJS_init2_6 (vw0 vw1 : xAV) (σ : xS) : X iJS_init2 6 [vw0, vw1] [] σ =
  some ((9, 0), σ) :=
  xev_eq (E := xE1) (F := xFk) (P := xPg) (inl := []) (stop := [6]) 3 iJS_init2 6 [vw0, vw1] [] σ
set_option maxRecDepth 20000 in
theorem qJS_getBytes_0 (a0 a1 a2 a3 : Int) (σ : xS) : X iJS_getBytes 0 [(2, a0), (2, a1), (0, a2), (0, a3)] [] σ =
  bif xisO xE1 σ a0 0 then (xob (xfld xE1 σ a0 0 1) none fun w1 => if (xna 2 (xna 2 w1)) = (xna 2 w1) then (if (xna 2 w1) = a3 then (xob (xfld xE1 σ a0 0 0) none fun w2 => xob (xfld xE1 σ a0 0 0) none fun w3 => xob (xlen xE1 σ w3) none fun n4 => xob (xarr xE1 σ w2 2) none fun n5 => xob (xarr xE1 σ a1 2) none fun n6 => if (((0 : Int) ≤ 0 ∧ (0 : Int) ≤ (xshl a2 a3)) ∧ (0 : Int) ≤ ((n4 : Nat) : Int)) ∧ (0 + ((n4 : Nat) : Int) ≤ (n5 : Int) ∧ (xshl a2 a3) + ((n4 : Nat) : Int) ≤ (n6 : Int)) then (bif (Nat.ble xNC a1.toNat && !Nat.beq w2.toNat a1.toNat) then X iJS_getBytes 43 [(2, a0), (2, a1), (0, a2), (0, a3)] [] (xcopy xE1 σ w2.toNat 0 a1.toNat (xshl a2 a3).toNat ((n4 : Nat) : Int).toNat)
          else none)
        else none)
      else xob (xfld xE1 σ a0 0 0) none fun w7 => xob (xfld xE1 σ a0 0 0) none fun w8 => xob (xlen xE1 σ w8) none fun n9 => (X iJL_inflate 0 [(2, w7), (0, 0), (2, a1), (0, a2), (0, ((n9 : Nat) : Int))] [] σ).bind fun q10 => X iJS_getBytes 43 [(2, a0), (2, a1), (0, a2), (0, a3)] [] q10.2)
    else none)
  else none :=
  xev_eq (E := xE1) (F := xFk) (P := xPg) (inl := [372]) (stop := [43]) 24 iJS_getBytes 0 [(2, a0), (2, a1), (0, a2), (0, a3)] [] σ
set_option maxRecDepth 20000 in
theorem qJS_getBytes_43 (vw0 vw1 vw2 vw3 : xAV) (σ : xS) : X iJS_getBytes 43 [vw0, vw1, vw2, vw3] [] σ =
  some ((9, 0), σ) :=
  xev_eq (E := xE1) (F := xFk) (P := xPg) (inl := [372]) (stop := [43]) 3 iJS_getBytes 43 [vw0, vw1, vw2, vw3] [] σ
set_option maxRecDepth 20000 in
theorem qJB_init_0 (a0 : Int) (σ : xS) : X iJB_init 0 [(2, a0)] [] σ =
  bif xisO xE1 σ a0 1 then (bif Nat.beq a0.toNat 0 then none
    else bif xisO xE1 (xal xE1 σ 102 16) a0 1 then (xob (xwr xE1 (xal xE1 σ 102 16) a0 0 ((xnew xE1 σ : Nat) : Int)) none fun s1 => bif xisO xE1 s1 a0 1 then (xob (xwr xE1 s1 a0 1 0) none fun s2 => some ((9, 0), s2))
      else none)
    else none)
  else none :=
  xev_eq (E := xE1) (F := xFk) (P := xPg) (inl := [339, 407, 408]) (stop := []) 19 iJB_init 0 [(2, a0)] [] σ
set_option maxRecDepth 20000 in
theorem qJB_append1_0 (a0 a1 : Int) (σ : xS) : X iJB_append1 0 [(2, a0), (0, a1)] [] σ =
  bif xisO xE1 σ a0 1 then ((X iJA_append1 0 [(2, a0), (0, a1)] [] σ).bind fun q1 => X iJB_append1 5 [(2, a0), (0, a1)] [q1.1] q1.2)
  else none :=
  xev_eq (E := xE1) (F := xFk) (P := xPg) (inl := []) (stop := [5]) 5 iJB_append1 0 [(2, a0), (0, a1)] [] σ
set_option maxRecDepth 20000 in
theorem qJB_append1_5 (v0 t0 : Int) (vw1 : xAV) (σ : xS) : X iJB_append1 5 [(2, v0), vw1] [(2, t0)] σ =
  some ((2, v0), σ) :=
  xev_eq (E := xE1) (F := xFk) (P := xPg) (inl := []) (stop := [5]) 5 iJB_append1 5 [(2, v0), vw1] [(2, t0)] σ
set_option maxRecDepth 20000 in
theorem qJB_append2_0 (a0 a1 : Int) (σ : xS) : X iJB_append2 0 [(2, a0), (0, a1)] [] σ =
  bif xisO xE1 σ a0 1 then ((X iJA_append2 0 [(2, a0), (0, a1), (9, 0), (9, 0)] [] σ).bind fun q1 => X iJB_append2 5 [(2, a0), (0, a1)] [q1.1] q1.2)
  else none :=
  xev_eq (E := xE1) (F := xFk) (P := xPg) (inl := []) (stop := [5]) 5 iJB_append2 0 [(2, a0), (0, a1)] [] σ
set_option maxRecDepth 20000 in
theorem qJB_append2_5 (v0 t0 : Int) (vw1 : xAV) (σ : xS) : X iJB_append2 5 [(2, v0), vw1] [(2, t0)] σ =
  some ((2, v0), σ) :=
  xev_eq (E := xE1) (F := xFk) (P := xPg) (inl := []) (stop := [5]) 5 iJB_append2 5 [(2, v0), vw1] [(2, t0)] σ
set_option maxRecDepth 20000 in
theorem qJB_append3_0 (a0 a1 : Int) (σ : xS) : X iJB_append3 0 [(2, a0), (2, a1)] [] σ =
  bif xisO xE1 σ a0 1 then ((X iJA_append3 0 [(2, a0), (2, a1), (9, 0)] [] σ).bind fun q1 => X iJB_append3 5 [(2, a0), (2, a1)] [q1.1] q1.2)
  else none :=
  xev_eq (E := xE1) (F := xFk) (P := xPg) (inl := []) (stop := [5]) 5 iJB_append3 0 [(2, a0), (2, a1)] [] σ
set_option maxRecDepth 20000 in
theorem qJB_append3_5 (v0 t0 : Int) (vw1 : xAV) (σ : xS) : X iJB_append3 5 [(2, v0), vw1] [(2, t0)] σ =
  some ((2, v0), σ) :=
  xev_eq (E := xE1) (F := xFk) (P := xPg) (inl := []) (stop := [5]) 5 iJB_append3 5 [(2, v0), vw1] [(2, t0)] σ
set_option maxRecDepth 20000 in
theorem qJB_charAt_0 (a0 a1 : Int) (σ : xS) : X iJB_charAt 0 [(2, a0), (0, a1)] [] σ =
  bif xisO xE1 σ a0 1 then ((X iJA_charAt 0 [(2, a0), (0, a1), (9, 0), (9, 0), (9, 0)] [] σ).bind fun q1 => X iJB_charAt 5 [(2, a0), (0, a1)] [q1.1] q1.2)
  else none :=
  xev_eq (E := xE1) (F := xFk) (P := xPg) (inl := []) (stop := [5]) 5 iJB_charAt 0 [(2, a0), (0, a1)] [] σ
set_option maxRecDepth 20000 in
theorem qJB_charAt_5 (t0 : Int) (vw0 vw1 : xAV) (σ : xS) : X iJB_charAt 5 [vw0, vw1] [(0, t0)] σ =
  if (xna 3 t0) = t0 then some ((0, t0), σ)
  else none :=
  xev_eq (E := xE1) (F := xFk) (P := xPg) (inl := []) (stop := [5]) 3 iJB_charAt 5 [vw0, vw1] [(0, t0)] σ
set_option maxRecDepth 20000 in
theorem qJB_length_0 (a0 : Int) (σ : xS) : X iJB_length 0 [(2, a0)] [] σ =
  bif xisO xE1 σ a0 1 then (xob (xfld xE1 σ a0 1 3) none fun w1 => some ((0, w1), σ))
  else none :=
  xev_eq (E := xE1) (F := xFk) (P := xPg) (inl := [350]) (stop := []) 8 iJB_length 0 [(2, a0)] [] σ
set_option maxRecDepth 20000 in
theorem qJB_toString_0 (a0 : Int) (σ : xS) : X iJB_toString 0 [(2, a0)] [] σ =
  bif xisO xE1 (xal xE1 σ 0 4) ((xnew xE1 σ : Nat) : Int) 0 then ((X iJS_init2 0 [(2, ((xnew xE1 σ : Nat) : Int)), (2, a0)] [] (xal xE1 σ 0 4)).bind fun q1 => X iJB_toString 8 [(2, a0)] [(2, ((xnew xE1 σ : Nat) : Int))] q1.2)
  else none :=
  xev_eq (E := xE1) (F := xFk) (P := xPg) (inl := []) (stop := [8]) 6 iJB_toString 0 [(2, a0)] [] σ
set_option maxRecDepth 20000 in
theorem qJB_toString_8 (t0 : Int) (vw0 : xAV) (σ : xS) : X iJB_toString 8 [vw0] [(2, t0)] σ =
  some ((2, t0), σ) :=
  xev_eq (E := xE1) (F := xFk) (P := xPg) (inl := []) (stop := [8]) 3 iJB_toString 8 [vw0] [(2, t0)] σ
set_option maxRecDepth 20000 in
theorem qJR_copyOfRange_0 (a0 a1 a2 : Int) (σ : xS) : X iJR_copyOfRange 0 [(2, a0), (0, a1), (0, a2)] [] σ =
  if a1 = 0 then (xob (xlen xE1 σ a0) none fun n1 => if a2 = ((n1 : Nat) : Int) then (xob (xarr xE1 σ a0 2) none fun n2 => bif Nat.ble xNC a0.toNat then some ((2, ((xnew xE1 σ : Nat) : Int)), (xcopy xE1 (xal xE1 σ 102 n2) a0.toNat 0 (xnew xE1 σ) 0 n2))
      else none)
    else if a2 < a1 then none
    else if 0 ≤ (xw (a2 - a1)) ∧ (xw (a2 - a1)) ≤ 100000 then (xob (xlen xE1 (xal xE1 σ 102 (xw (a2 - a1)).toNat) a0) none fun n3 => xob (xarr xE1 (xal xE1 σ 102 (xw (a2 - a1)).toNat) a0 2) none fun n4 => xob (xarr xE1 (xal xE1 σ 102 (xw (a2 - a1)).toNat) ((xnew xE1 σ : Nat) : Int) 2) none fun n5 => if (((0 : Int) ≤ a1 ∧ (0 : Int) ≤ 0) ∧ (0 : Int) ≤ (xmm 1 (xw (((n3 : Nat) : Int) - a1)) (xw (a2 - a1)))) ∧ (a1 + (xmm 1 (xw (((n3 : Nat) : Int) - a1)) (xw (a2 - a1))) ≤ (n4 : Int) ∧ 0 + (xmm 1 (xw (((n3 : Nat) : Int) - a1)) (xw (a2 - a1))) ≤ (n5 : Int)) then (bif (Nat.ble xNC ((xnew xE1 σ : Nat) : Int).toNat && !Nat.beq a0.toNat ((xnew xE1 σ : Nat) : Int).toNat) then some ((2, ((xnew xE1 σ : Nat) : Int)), (xcopy xE1 (xal xE1 σ 102 (xw (a2 - a1)).toNat) a0.toNat a1.toNat ((xnew xE1 σ : Nat) : Int).toNat 0 (xmm 1 (xw (((n3 : Nat) : Int) - a1)) (xw (a2 - a1))).toNat))
        else none)
      else none)
    else none)
  else if a2 < a1 then none
  else if 0 ≤ (xw (a2 - a1)) ∧ (xw (a2 - a1)) ≤ 100000 then (xob (xlen xE1 (xal xE1 σ 102 (xw (a2 - a1)).toNat) a0) none fun n6 => xob (xarr xE1 (xal xE1 σ 102 (xw (a2 - a1)).toNat) a0 2) none fun n7 => xob (xarr xE1 (xal xE1 σ 102 (xw (a2 - a1)).toNat) ((xnew xE1 σ : Nat) : Int) 2) none fun n8 => if (((0 : Int) ≤ a1 ∧ (0 : Int) ≤ 0) ∧ (0 : Int) ≤ (xmm 1 (xw (((n6 : Nat) : Int) - a1)) (xw (a2 - a1)))) ∧ (a1 + (xmm 1 (xw (((n6 : Nat) : Int) - a1)) (xw (a2 - a1))) ≤ (n7 : Int) ∧ 0 + (xmm 1 (xw (((n6 : Nat) : Int) - a1)) (xw (a2 - a1))) ≤ (n8 : Int)) then (bif (Nat.ble xNC ((xnew xE1 σ : Nat) : Int).toNat && !Nat.beq a0.toNat ((xnew xE1 σ : Nat) : Int).toNat) then some ((2, ((xnew xE1 σ : Nat) : Int)), (xcopy xE1 (xal xE1 σ 102 (xw (a2 - a1)).toNat) a0.toNat a1.toNat ((xnew xE1 σ : Nat) : Int).toNat 0 (xmm 1 (xw (((n6 : Nat) : Int) - a1)) (xw (a2 - a1))).toNat))
      else none)
    else none)
  else none :=
  xev_eq (E := xE1) (F := xFk) (P := xPg) (inl := [412, 415]) (stop := []) 40 iJR_copyOfRange 0 [(2, a0), (0, a1), (0, a2)] [] σ
set_option maxRecDepth 20000 in
theorem qJX_newLength_0 (a0 a1 a2 : Int) (σ : xS) : X iJX_newLength 0 [(0, a0), (0, a1), (0, a2), (9, 0)] [] σ =
  if 0 < (xw (a0 + (xmm 0 a1 a2))) then (if 2147483639 < (xw (a0 + (xmm 0 a1 a2))) then ((X iJX_hugeLength 0 [(0, a0), (0, a1), (9, 0)] [] σ).bind fun q1 => X iJX_newLength 26 [(0, a0), (0, a1), (0, a2), (0, (xw (a0 + (xmm 0 a1 a2))))] [q1.1] q1.2)
    else some ((0, (xw (a0 + (xmm 0 a1 a2)))), σ))
  else (X iJX_hugeLength 0 [(0, a0), (0, a1), (9, 0)] [] σ).bind fun q2 => X iJX_newLength 26 [(0, a0), (0, a1), (0, a2), (0, (xw (a0 + (xmm 0 a1 a2))))] [q2.1] q2.2 :=
  xev_eq (E := xE1) (F := xFk) (P := xPg) (inl := []) (stop := [26]) 17 iJX_newLength 0 [(0, a0), (0, a1), (0, a2), (9, 0)] [] σ
set_option maxRecDepth 20000 in
theorem qJX_newLength_26 (t0 : Int) (vw0 vw1 vw2 vw3 : xAV) (σ : xS) : X iJX_newLength 26 [vw0, vw1, vw2, vw3] [(0, t0)] σ =
  some ((0, t0), σ) :=
  xev_eq (E := xE1) (F := xFk) (P := xPg) (inl := []) (stop := [26]) 3 iJX_newLength 26 [vw0, vw1, vw2, vw3] [(0, t0)] σ
set_option maxRecDepth 20000 in
theorem qJR_copyOf_0 (a0 a1 : Int) (σ : xS) : X iJR_copyOf 0 [(2, a0), (0, a1), (9, 0)] [] σ =
  xob (xlen xE1 σ a0) none fun n1 => if a1 = ((n1 : Nat) : Int) then (xob (xarr xE1 σ a0 2) none fun n2 => bif Nat.ble xNC a0.toNat then some ((2, ((xnew xE1 σ : Nat) : Int)), (xcopy xE1 (xal xE1 σ 102 n2) a0.toNat 0 (xnew xE1 σ) 0 n2))
    else none)
  else if 0 ≤ a1 ∧ a1 ≤ 100000 then (xob (xlen xE1 (xal xE1 σ 102 a1.toNat) a0) none fun n3 => xob (xarr xE1 (xal xE1 σ 102 a1.toNat) a0 2) none fun n4 => xob (xarr xE1 (xal xE1 σ 102 a1.toNat) ((xnew xE1 σ : Nat) : Int) 2) none fun n5 => if (((0 : Int) ≤ 0 ∧ (0 : Int) ≤ 0) ∧ (0 : Int) ≤ (xmm 1 ((n3 : Nat) : Int) a1)) ∧ (0 + (xmm 1 ((n3 : Nat) : Int) a1) ≤ (n4 : Int) ∧ 0 + (xmm 1 ((n3 : Nat) : Int) a1) ≤ (n5 : Int)) then (bif (Nat.ble xNC ((xnew xE1 σ : Nat) : Int).toNat && !Nat.beq a0.toNat ((xnew xE1 σ : Nat) : Int).toNat) then some ((2, ((xnew xE1 σ : Nat) : Int)), (xcopy xE1 (xal xE1 σ 102 a1.toNat) a0.toNat 0 ((xnew xE1 σ : Nat) : Int).toNat 0 (xmm 1 ((n3 : Nat) : Int) a1).toNat))
      else none)
    else none)
  else none :=
  xev_eq (E := xE1) (F := xFk) (P := xPg) (inl := []) (stop := []) 20 iJR_copyOf 0 [(2, a0), (0, a1), (9, 0)] [] σ

/-! equations, written by a program (wip/whole/gen) -/
set_option maxRecDepth 20000 in
theorem qM_isMixed_0 (a1 a2 : Int) (σ : xS) : X iM_isMixed 0 [(2, 305), (0, a1), (0, a2), (9, 0), (9, 0)] [] σ =
  (X iM_termsOn 0 [(2, 305), (0, (σ.1 305 0)), (9, 0), (9, 0)] [] σ).bind fun q1 => X iM_isMixed 8 [(2, 305), (0, a1), (0, a2), (9, 0), (9, 0)] [q1.1] q1.2 :=
  xev_eq (E := xE1) (F := xFk) (P := xPg) (inl := []) (stop := [8, 23]) 6 iM_isMixed 0 [(2, 305), (0, a1), (0, a2), (9, 0), (9, 0)] [] σ
set_option maxRecDepth 20000 in
theorem qM_isMixed_8 (v1 v2 t0 : Int) (vw3 vw4 : xAV) (σ : xS) : X iM_isMixed 8 [(2, 305), (0, v1), (0, v2), vw3, vw4] [(0, t0)] σ =
  if t0 < 0 then some ((0, 0), σ)
  else if xin t0 8 then X iM_isMixed 23 [(2, 305), (0, v1), (0, v2), (0, t0), (0, (σ.1 341 t0.toNat))] [] σ
  else none :=
  xev_eq (E := xE1) (F := xFk) (P := xPg) (inl := []) (stop := [8, 23]) 10 iM_isMixed 8 [(2, 305), (0, v1), (0, v2), vw3, vw4] [(0, t0)] σ
set_option maxRecDepth 20000 in
theorem qM_isMixed_23 (v1 v2 v3 v4 : Int) (σ : xS) : X iM_isMixed 23 [(2, 305), (0, v1), (0, v2), (0, v3), (0, v4)] [] σ =
  if xin v3 8 then (if xin v3 8 then (if v4 < (xw ((σ.1 341 v3.toNat) + (σ.1 342 v3.toNat))) then (if xin v4 200 then (if (σ.1 344 v4.toNat) = 5 then (if xin v4 200 then (if (σ.1 345 v4.toNat) = v1 then (if xin v4 200 then (if (σ.1 346 v4.toNat) = v2 then some ((0, 1), σ)
                  else if xin v4 200 then (if (σ.1 345 v4.toNat) = v2 then (if xin v4 200 then (if (σ.1 346 v4.toNat) = v1 then some ((0, 1), σ)
                        else X iM_isMixed 23 [(2, 305), (0, v1), (0, v2), (0, v3), (0, (xw (v4 + 1)))] [] σ)
                      else none)
                    else X iM_isMixed 23 [(2, 305), (0, v1), (0, v2), (0, v3), (0, (xw (v4 + 1)))] [] σ)
                  else none)
                else none)
              else if xin v4 200 then (if (σ.1 345 v4.toNat) = v2 then (if xin v4 200 then (if (σ.1 346 v4.toNat) = v1 then some ((0, 1), σ)
                    else X iM_isMixed 23 [(2, 305), (0, v1), (0, v2), (0, v3), (0, (xw (v4 + 1)))] [] σ)
                  else none)
                else X iM_isMixed 23 [(2, 305), (0, v1), (0, v2), (0, v3), (0, (xw (v4 + 1)))] [] σ)
              else none)
            else none)
          else X iM_isMixed 23 [(2, 305), (0, v1), (0, v2), (0, v3), (0, (xw (v4 + 1)))] [] σ)
        else none)
      else some ((0, 0), σ))
    else none)
  else none :=
  xev_eq (E := xE1) (F := xFk) (P := xPg) (inl := []) (stop := [8, 23]) 45 iM_isMixed 23 [(2, 305), (0, v1), (0, v2), (0, v3), (0, v4)] [] σ

/-! the constructors' runs, by reckoning, in pieces -/
theorem orv_st {w w' : List (Nat × Nat × Int)} {TY TY' : List (Nat × Nat)} {SL SL' : Nat} (l : List xop) (h : (w.all fun q => Nat.blt q.1 (200 + TY.length)) = true) (hk : ook (200 + TY.length) l = true) (hw : owr l ++ w = w') (ht : TY ++ oty l = TY') (hs : SL + osl l = SL') (L : Nat) (Xs : Nat → Int) : orv xE0 l (rdw w, TY, SL, 1300, L, Xs) = (rdw w', TY', SL', 1300, L, Xs) := by
  have e := (orv_eq (E := xE0) (w := w) (σ := (rdw w, TY, SL, 1300, L, Xs)) rfl (fun q hq => by
    have := List.all_eq_true.mp h q hq
    unfold Nat.blt at this
    exact Nat.le_of_ble_eq_true this) l hk).1
  rw [e, ← hw, ← ht, ← hs]

set_option maxRecDepth 1000000 in
set_option maxHeartbeats 40000000 in
theorem q0s_0 (m : Nat → Nat → Int) (L : Nat) (Xs : Nat → Int) : xEx xE0 xFk xPg 306 0 [(2, 201)] [] (m, xFTf.take 2, 20, 1300, L, Xs) = xEx xE0 xFk xPg 306 44 [(2, 201)] [] (orv xE0 [(1, 201, 4, (.ofNat (nat_lit 206))), (0, 100, 6, (.ofNat (nat_lit 0))), (1, 201, 3, (.ofNat (nat_lit 205))), (0, 100, 6, (.ofNat (nat_lit 0))), (1, 201, 2, (.ofNat (nat_lit 204))), (0, 100, 6, (.ofNat (nat_lit 0))), (1, 201, 1, (.ofNat (nat_lit 203))), (0, 100, 6, (.ofNat (nat_lit 0))), (1, 201, 0, (.ofNat (nat_lit 202))), (0, 100, 6, (.ofNat (nat_lit 0)))] (m, xFTf.take 2, 20, 1300, L, Xs)) :=
  xev_eq (E := xE0) (F := xFk) (P := xPg) (inl := []) (stop := [44]) 23 306 0 [(2, 201)] [] (m, xFTf.take 2, 20, 1300, L, Xs)
set_option maxRecDepth 100000 in
theorem q0n_0 (L : Nat) (Xs : Nat → Int) : xEx xE0 xFk xPg 306 0 [(2, 201)] [] (rdw (wA.drop 218), xFTf.take 2, 20, 1300, L, Xs) = xEx xE0 xFk xPg 306 44 [(2, 201)] [] (rdw (wA.drop 213), xFTf.take 7, 50, 1300, L, Xs) := by
  rw [q0s_0, orv_st (w' := wA.drop 213) (TY' := xFTf.take 7) (SL' := 50) [(1, 201, 4, (.ofNat (nat_lit 206))), (0, 100, 6, (.ofNat (nat_lit 0))), (1, 201, 3, (.ofNat (nat_lit 205))), (0, 100, 6, (.ofNat (nat_lit 0))), (1, 201, 2, (.ofNat (nat_lit 204))), (0, 100, 6, (.ofNat (nat_lit 0))), (1, 201, 1, (.ofNat (nat_lit 203))), (0, 100, 6, (.ofNat (nat_lit 0))), (1, 201, 0, (.ofNat (nat_lit 202))), (0, 100, 6, (.ofNat (nat_lit 0)))] (by decide +kernel) (by decide +kernel) (by decide +kernel) (by decide +kernel) (by decide +kernel)]
set_option maxRecDepth 1000000 in
set_option maxHeartbeats 40000000 in
theorem q0s_1 (m : Nat → Nat → Int) (L : Nat) (Xs : Nat → Int) : xEx xE0 xFk xPg 306 44 [(2, 201)] [] (m, xFTf.take 7, 50, 1300, L, Xs) = some (((9, 0) : xAV), (orv xE0 [(1, 201, 7, (.ofNat (nat_lit 208))), (0, 100, 9001, (.ofNat (nat_lit 0))), (1, 201, 6, (.ofNat (nat_lit 207))), (0, 100, 6, (.ofNat (nat_lit 0)))] (m, xFTf.take 7, 50, 1300, L, Xs))) :=
  xev_eq (E := xE0) (F := xFk) (P := xPg) (inl := []) (stop := []) 10 306 44 [(2, 201)] [] (m, xFTf.take 7, 50, 1300, L, Xs)
set_option maxRecDepth 100000 in
theorem q0n_1 (L : Nat) (Xs : Nat → Int) : xEx xE0 xFk xPg 306 44 [(2, 201)] [] (rdw (wA.drop 213), xFTf.take 7, 50, 1300, L, Xs) = some (((9, 0) : xAV), (rdw (wA.drop 211), xFTf.take 9, 9057, 1300, L, Xs)) := by
  rw [q0s_1, orv_st (w' := wA.drop 211) (TY' := xFTf.take 9) (SL' := 9057) [(1, 201, 7, (.ofNat (nat_lit 208))), (0, 100, 9001, (.ofNat (nat_lit 0))), (1, 201, 6, (.ofNat (nat_lit 207))), (0, 100, 6, (.ofNat (nat_lit 0)))] (by decide +kernel) (by decide +kernel) (by decide +kernel) (by decide +kernel) (by decide +kernel)]
set_option maxRecDepth 1000000 in
set_option maxHeartbeats 40000000 in
theorem q0s_2 (m : Nat → Nat → Int) (L : Nat) (Xs : Nat → Int) : xEx xE0 xFk xPg 126 0 [(2, 200)] [] (m, xFTf.take 1, 11, 1300, L, Xs) = (xEx xE0 xFk xPg 306 0 [(2, 201)] [] (orv xE0 [(0, 9, 9, (.ofNat (nat_lit 0)))] (m, xFTf.take 1, 11, 1300, L, Xs))).bind fun q => xEx xE0 xFk xPg 126 12 [(2, 200)] [(2, 201), (2, 200)] q.2 :=
  xev_eq (E := xE0) (F := xFk) (P := xPg) (inl := []) (stop := [12]) 7 126 0 [(2, 200)] [] (m, xFTf.take 1, 11, 1300, L, Xs)
set_option maxRecDepth 100000 in
theorem q0n_2 (L : Nat) (Xs : Nat → Int) : xEx xE0 xFk xPg 126 0 [(2, 200)] [] (rdw (wA.drop 218), xFTf.take 1, 11, 1300, L, Xs) = (xEx xE0 xFk xPg 306 0 [(2, 201)] [] (rdw (wA.drop 218), xFTf.take 2, 20, 1300, L, Xs)).bind fun q => xEx xE0 xFk xPg 126 12 [(2, 200)] [(2, 201), (2, 200)] q.2 := by
  rw [q0s_2, orv_st (w' := wA.drop 218) (TY' := xFTf.take 2) (SL' := 20) [(0, 9, 9, (.ofNat (nat_lit 0)))] (by decide +kernel) (by decide +kernel) (by decide +kernel) (by decide +kernel) (by decide +kernel)]
set_option maxRecDepth 1000000 in
set_option maxHeartbeats 40000000 in
theorem q0s_3 (m : Nat → Nat → Int) (L : Nat) (Xs : Nat → Int) : xEx xE0 xFk xPg 210 0 [(2, 209)] [] (m, xFTf.take 10, 9066, 1300, L, Xs) = xEx xE0 xFk xPg 210 44 [(2, 209)] [] (orv xE0 [(1, 209, 5, (.ofNat (nat_lit 214))), (0, 100, 8, (.ofNat (nat_lit 0))), (1, 209, 3, (.ofNat (nat_lit 213))), (0, 100, 8, (.ofNat (nat_lit 0))), (1, 209, 2, (.ofNat (nat_lit 212))), (0, 100, 8, (.ofNat (nat_lit 0))), (1, 209, 1, (.ofNat (nat_lit 211))), (0, 100, 8, (.ofNat (nat_lit 0))), (1, 209, 0, (.ofNat (nat_lit 210))), (0, 100, 8, (.ofNat (nat_lit 0)))] (m, xFTf.take 10, 9066, 1300, L, Xs)) :=
  xev_eq (E := xE0) (F := xFk) (P := xPg) (inl := []) (stop := [44]) 23 210 0 [(2, 209)] [] (m, xFTf.take 10, 9066, 1300, L, Xs)
set_option maxRecDepth 100000 in
theorem q0n_3 (L : Nat) (Xs : Nat → Int) : xEx xE0 xFk xPg 210 0 [(2, 209)] [] (rdw (wA.drop 210), xFTf.take 10, 9066, 1300, L, Xs) = xEx xE0 xFk xPg 210 44 [(2, 209)] [] (rdw (wA.drop 205), xFTf.take 15, 9106, 1300, L, Xs) := by
  rw [q0s_3, orv_st (w' := wA.drop 205) (TY' := xFTf.take 15) (SL' := 9106) [(1, 209, 5, (.ofNat (nat_lit 214))), (0, 100, 8, (.ofNat (nat_lit 0))), (1, 209, 3, (.ofNat (nat_lit 213))), (0, 100, 8, (.ofNat (nat_lit 0))), (1, 209, 2, (.ofNat (nat_lit 212))), (0, 100, 8, (.ofNat (nat_lit 0))), (1, 209, 1, (.ofNat (nat_lit 211))), (0, 100, 8, (.ofNat (nat_lit 0))), (1, 209, 0, (.ofNat (nat_lit 210))), (0, 100, 8, (.ofNat (nat_lit 0)))] (by decide +kernel) (by decide +kernel) (by decide +kernel) (by decide +kernel) (by decide +kernel)]
set_option maxRecDepth 1000000 in
set_option maxHeartbeats 40000000 in
theorem q0s_4 (m : Nat → Nat → Int) (L : Nat) (Xs : Nat → Int) : xEx xE0 xFk xPg 210 44 [(2, 209)] [] (m, xFTf.take 15, 9106, 1300, L, Xs) = some (((9, 0) : xAV), (orv xE0 [(1, 209, 6, (.ofNat (nat_lit 215))), (0, 100, 8, (.ofNat (nat_lit 0)))] (m, xFTf.take 15, 9106, 1300, L, Xs))) :=
  xev_eq (E := xE0) (F := xFk) (P := xPg) (inl := []) (stop := []) 6 210 44 [(2, 209)] [] (m, xFTf.take 15, 9106, 1300, L, Xs)
set_option maxRecDepth 100000 in
theorem q0n_4 (L : Nat) (Xs : Nat → Int) : xEx xE0 xFk xPg 210 44 [(2, 209)] [] (rdw (wA.drop 205), xFTf.take 15, 9106, 1300, L, Xs) = some (((9, 0) : xAV), (rdw (wA.drop 204), xFTf.take 16, 9114, 1300, L, Xs)) := by
  rw [q0s_4, orv_st (w' := wA.drop 204) (TY' := xFTf.take 16) (SL' := 9114) [(1, 209, 6, (.ofNat (nat_lit 215))), (0, 100, 8, (.ofNat (nat_lit 0)))] (by decide +kernel) (by decide +kernel) (by decide +kernel) (by decide +kernel) (by decide +kernel)]
set_option maxRecDepth 1000000 in
set_option maxHeartbeats 40000000 in
theorem q0s_5 (m : Nat → Nat → Int) (L : Nat) (Xs : Nat → Int) : xEx xE0 xFk xPg 126 12 [(2, 200)] [(2, 201), (2, 200)] (m, xFTf.take 9, 9057, 1300, L, Xs) = (xEx xE0 xFk xPg 210 0 [(2, 209)] [] (orv xE0 [(0, 4, 9, (.ofNat (nat_lit 0))), (1, 200, 0, (.ofNat (nat_lit 201)))] (m, xFTf.take 9, 9057, 1300, L, Xs))).bind fun q => xEx xE0 xFk xPg 126 23 [(2, 200)] [(2, 209), (2, 200)] q.2 :=
  xev_eq (E := xE0) (F := xFk) (P := xPg) (inl := []) (stop := [23]) 6 126 12 [(2, 200)] [(2, 201), (2, 200)] (m, xFTf.take 9, 9057, 1300, L, Xs)
set_option maxRecDepth 100000 in
theorem q0n_5 (L : Nat) (Xs : Nat → Int) : xEx xE0 xFk xPg 126 12 [(2, 200)] [(2, 201), (2, 200)] (rdw (wA.drop 211), xFTf.take 9, 9057, 1300, L, Xs) = (xEx xE0 xFk xPg 210 0 [(2, 209)] [] (rdw (wA.drop 210), xFTf.take 10, 9066, 1300, L, Xs)).bind fun q => xEx xE0 xFk xPg 126 23 [(2, 200)] [(2, 209), (2, 200)] q.2 := by
  rw [q0s_5, orv_st (w' := wA.drop 210) (TY' := xFTf.take 10) (SL' := 9066) [(0, 4, 9, (.ofNat (nat_lit 0))), (1, 200, 0, (.ofNat (nat_lit 201)))] (by decide +kernel) (by decide +kernel) (by decide +kernel) (by decide +kernel) (by decide +kernel)]
set_option maxRecDepth 1000000 in
set_option maxHeartbeats 40000000 in
theorem q0s_6 (m : Nat → Nat → Int) (L : Nat) (Xs : Nat → Int) : xEx xE0 xFk xPg 179 0 [(2, 216)] [] (m, xFTf.take 17, 9130, 1300, L, Xs) = xEx xE0 xFk xPg 179 49 [(2, 216)] [] (orv xE0 [(1, 216, 5, (.ofNat (nat_lit 221))), (0, 100, 150, (.ofNat (nat_lit 0))), (1, 216, 4, (.ofNat (nat_lit 220))), (0, 100, 150, (.ofNat (nat_lit 0))), (1, 216, 3, (.ofNat (nat_lit 219))), (0, 100, 150, (.ofNat (nat_lit 0))), (1, 216, 2, (.ofNat (nat_lit 218))), (0, 100, 150, (.ofNat (nat_lit 0))), (1, 216, 1, (.ofNat (nat_lit 217))), (0, 100, 150, (.ofNat (nat_lit 0)))] (m, xFTf.take 17, 9130, 1300, L, Xs)) :=
  xev_eq (E := xE0) (F := xFk) (P := xPg) (inl := []) (stop := [49]) 23 179 0 [(2, 216)] [] (m, xFTf.take 17, 9130, 1300, L, Xs)
set_option maxRecDepth 100000 in
theorem q0n_6 (L : Nat) (Xs : Nat → Int) : xEx xE0 xFk xPg 179 0 [(2, 216)] [] (rdw (wA.drop 203), xFTf.take 17, 9130, 1300, L, Xs) = xEx xE0 xFk xPg 179 49 [(2, 216)] [] (rdw (wA.drop 198), xFTf.take 22, 9880, 1300, L, Xs) := by
  rw [q0s_6, orv_st (w' := wA.drop 198) (TY' := xFTf.take 22) (SL' := 9880) [(1, 216, 5, (.ofNat (nat_lit 221))), (0, 100, 150, (.ofNat (nat_lit 0))), (1, 216, 4, (.ofNat (nat_lit 220))), (0, 100, 150, (.ofNat (nat_lit 0))), (1, 216, 3, (.ofNat (nat_lit 219))), (0, 100, 150, (.ofNat (nat_lit 0))), (1, 216, 2, (.ofNat (nat_lit 218))), (0, 100, 150, (.ofNat (nat_lit 0))), (1, 216, 1, (.ofNat (nat_lit 217))), (0, 100, 150, (.ofNat (nat_lit 0)))] (by decide +kernel) (by decide +kernel) (by decide +kernel) (by decide +kernel) (by decide +kernel)]
set_option maxRecDepth 1000000 in
set_option maxHeartbeats 40000000 in
theorem q0s_7 (m : Nat → Nat → Int) (L : Nat) (Xs : Nat → Int) : xEx xE0 xFk xPg 179 49 [(2, 216)] [] (m, xFTf.take 22, 9880, 1300, L, Xs) = xEx xE0 xFk xPg 179 94 [(2, 216)] [] (orv xE0 [(1, 216, 11, (.ofNat (nat_lit 226))), (0, 100, 600, (.ofNat (nat_lit 0))), (1, 216, 10, (.ofNat (nat_lit 225))), (0, 100, 600, (.ofNat (nat_lit 0))), (1, 216, 9, (.ofNat (nat_lit 224))), (0, 100, 600, (.ofNat (nat_lit 0))), (1, 216, 8, (.ofNat (nat_lit 223))), (0, 100, 600, (.ofNat (nat_lit 0))), (1, 216, 7, (.ofNat (nat_lit 222))), (0, 100, 600, (.ofNat (nat_lit 0)))] (m, xFTf.take 22, 9880, 1300, L, Xs)) :=
  xev_eq (E := xE0) (F := xFk) (P := xPg) (inl := []) (stop := [94]) 21 179 49 [(2, 216)] [] (m, xFTf.take 22, 9880, 1300, L, Xs)
set_option maxRecDepth 100000 in
theorem q0n_7 (L : Nat) (Xs : Nat → Int) : xEx xE0 xFk xPg 179 49 [(2, 216)] [] (rdw (wA.drop 198), xFTf.take 22, 9880, 1300, L, Xs) = xEx xE0 xFk xPg 179 94 [(2, 216)] [] (rdw (wA.drop 193), xFTf.take 27, 12880, 1300, L, Xs) := by
  rw [q0s_7, orv_st (w' := wA.drop 193) (TY' := xFTf.take 27) (SL' := 12880) [(1, 216, 11, (.ofNat (nat_lit 226))), (0, 100, 600, (.ofNat (nat_lit 0))), (1, 216, 10, (.ofNat (nat_lit 225))), (0, 100, 600, (.ofNat (nat_lit 0))), (1, 216, 9, (.ofNat (nat_lit 224))), (0, 100, 600, (.ofNat (nat_lit 0))), (1, 216, 8, (.ofNat (nat_lit 223))), (0, 100, 600, (.ofNat (nat_lit 0))), (1, 216, 7, (.ofNat (nat_lit 222))), (0, 100, 600, (.ofNat (nat_lit 0)))] (by decide +kernel) (by decide +kernel) (by decide +kernel) (by decide +kernel) (by decide +kernel)]
set_option maxRecDepth 1000000 in
set_option maxHeartbeats 40000000 in
theorem q0s_8 (m : Nat → Nat → Int) (L : Nat) (Xs : Nat → Int) : xEx xE0 xFk xPg 179 94 [(2, 216)] [] (m, xFTf.take 27, 12880, 1300, L, Xs) = some (((9, 0) : xAV), (orv xE0 [(1, 216, 13, (.ofNat (nat_lit 228))), (0, 100, 600, (.ofNat (nat_lit 0))), (1, 216, 12, (.ofNat (nat_lit 227))), (0, 100, 600, (.ofNat (nat_lit 0)))] (m, xFTf.take 27, 12880, 1300, L, Xs))) :=
  xev_eq (E := xE0) (F := xFk) (P := xPg) (inl := []) (stop := []) 10 179 94 [(2, 216)] [] (m, xFTf.take 27, 12880, 1300, L, Xs)
set_option maxRecDepth 100000 in
theorem q0n_8 (L : Nat) (Xs : Nat → Int) : xEx xE0 xFk xPg 179 94 [(2, 216)] [] (rdw (wA.drop 193), xFTf.take 27, 12880, 1300, L, Xs) = some (((9, 0) : xAV), (rdw (wA.drop 191), xFTf.take 29, 14080, 1300, L, Xs)) := by
  rw [q0s_8, orv_st (w' := wA.drop 191) (TY' := xFTf.take 29) (SL' := 14080) [(1, 216, 13, (.ofNat (nat_lit 228))), (0, 100, 600, (.ofNat (nat_lit 0))), (1, 216, 12, (.ofNat (nat_lit 227))), (0, 100, 600, (.ofNat (nat_lit 0)))] (by decide +kernel) (by decide +kernel) (by decide +kernel) (by decide +kernel) (by decide +kernel)]
set_option maxRecDepth 1000000 in
set_option maxHeartbeats 40000000 in
theorem q0s_9 (m : Nat → Nat → Int) (L : Nat) (Xs : Nat → Int) : xEx xE0 xFk xPg 126 23 [(2, 200)] [(2, 209), (2, 200)] (m, xFTf.take 16, 9114, 1300, L, Xs) = (xEx xE0 xFk xPg 179 0 [(2, 216)] [] (orv xE0 [(0, 2, 16, (.ofNat (nat_lit 0))), (1, 200, 1, (.ofNat (nat_lit 209)))] (m, xFTf.take 16, 9114, 1300, L, Xs))).bind fun q => xEx xE0 xFk xPg 126 34 [(2, 200)] [(2, 216), (2, 200)] q.2 :=
  xev_eq (E := xE0) (F := xFk) (P := xPg) (inl := []) (stop := [34]) 6 126 23 [(2, 200)] [(2, 209), (2, 200)] (m, xFTf.take 16, 9114, 1300, L, Xs)
set_option maxRecDepth 100000 in
theorem q0n_9 (L : Nat) (Xs : Nat → Int) : xEx xE0 xFk xPg 126 23 [(2, 200)] [(2, 209), (2, 200)] (rdw (wA.drop 204), xFTf.take 16, 9114, 1300, L, Xs) = (xEx xE0 xFk xPg 179 0 [(2, 216)] [] (rdw (wA.drop 203), xFTf.take 17, 9130, 1300, L, Xs)).bind fun q => xEx xE0 xFk xPg 126 34 [(2, 200)] [(2, 216), (2, 200)] q.2 := by
  rw [q0s_9, orv_st (w' := wA.drop 203) (TY' := xFTf.take 17) (SL' := 9130) [(0, 2, 16, (.ofNat (nat_lit 0))), (1, 200, 1, (.ofNat (nat_lit 209)))] (by decide +kernel) (by decide +kernel) (by decide +kernel) (by decide +kernel) (by decide +kernel)]
set_option maxRecDepth 1000000 in
set_option maxHeartbeats 40000000 in
theorem q0s_10 (m : Nat → Nat → Int) (L : Nat) (Xs : Nat → Int) : xEx xE0 xFk xPg 200 0 [(2, 229), (2, 216)] [] (m, xFTf.take 30, 14098, 1300, L, Xs) = xEx xE0 xFk xPg 200 49 [(2, 229), (2, 216)] [] (orv xE0 [(1, 229, 7, (.ofNat (nat_lit 234))), (0, 100, 60, (.ofNat (nat_lit 0))), (1, 229, 5, (.ofNat (nat_lit 233))), (0, 100, 60, (.ofNat (nat_lit 0))), (1, 229, 4, (.ofNat (nat_lit 232))), (0, 100, 60, (.ofNat (nat_lit 0))), (1, 229, 3, (.ofNat (nat_lit 231))), (0, 100, 60, (.ofNat (nat_lit 0))), (1, 229, 2, (.ofNat (nat_lit 100))), (1, 229, 1, (.ofNat (nat_lit 230))), (0, 100, 4, (.ofNat (nat_lit 0)))] (m, xFTf.take 30, 14098, 1300, L, Xs)) :=
  xev_eq (E := xE0) (F := xFk) (P := xPg) (inl := []) (stop := [49]) 26 200 0 [(2, 229), (2, 216)] [] (m, xFTf.take 30, 14098, 1300, L, Xs)
set_option maxRecDepth 100000 in
theorem q0n_10 (L : Nat) (Xs : Nat → Int) : xEx xE0 xFk xPg 200 0 [(2, 229), (2, 216)] [] (rdw (wA.drop 190), xFTf.take 30, 14098, 1300, L, Xs) = xEx xE0 xFk xPg 200 49 [(2, 229), (2, 216)] [] (rdw (wA.drop 184), xFTf.take 35, 14342, 1300, L, Xs) := by
  rw [q0s_10, orv_st (w' := wA.drop 184) (TY' := xFTf.take 35) (SL' := 14342) [(1, 229, 7, (.ofNat (nat_lit 234))), (0, 100, 60, (.ofNat (nat_lit 0))), (1, 229, 5, (.ofNat (nat_lit 233))), (0, 100, 60, (.ofNat (nat_lit 0))), (1, 229, 4, (.ofNat (nat_lit 232))), (0, 100, 60, (.ofNat (nat_lit 0))), (1, 229, 3, (.ofNat (nat_lit 231))), (0, 100, 60, (.ofNat (nat_lit 0))), (1, 229, 2, (.ofNat (nat_lit 100))), (1, 229, 1, (.ofNat (nat_lit 230))), (0, 100, 4, (.ofNat (nat_lit 0)))] (by decide +kernel) (by decide +kernel) (by decide +kernel) (by decide +kernel) (by decide +kernel)]
set_option maxRecDepth 1000000 in
set_option maxHeartbeats 40000000 in
theorem q0s_11 (m : Nat → Nat → Int) (L : Nat) (Xs : Nat → Int) : xEx xE0 xFk xPg 200 49 [(2, 229), (2, 216)] [] (m, xFTf.take 35, 14342, 1300, L, Xs) = xEx xE0 xFk xPg 200 89 [(2, 229), (2, 216)] [] (orv xE0 [(1, 229, 13, (.ofNat (nat_lit 239))), (0, 100, 60, (.ofNat (nat_lit 0))), (1, 229, 11, (.ofNat (nat_lit 238))), (0, 100, 60, (.ofNat (nat_lit 0))), (1, 229, 10, (.ofNat (nat_lit 237))), (0, 100, 60, (.ofNat (nat_lit 0))), (1, 229, 9, (.ofNat (nat_lit 236))), (0, 100, 60, (.ofNat (nat_lit 0))), (1, 229, 8, (.ofNat (nat_lit 235))), (0, 100, 60, (.ofNat (nat_lit 0)))] (m, xFTf.take 35, 14342, 1300, L, Xs)) :=
  xev_eq (E := xE0) (F := xFk) (P := xPg) (inl := []) (stop := [89]) 21 200 49 [(2, 229), (2, 216)] [] (m, xFTf.take 35, 14342, 1300, L, Xs)
set_option maxRecDepth 100000 in
theorem q0n_11 (L : Nat) (Xs : Nat → Int) : xEx xE0 xFk xPg 200 49 [(2, 229), (2, 216)] [] (rdw (wA.drop 184), xFTf.take 35, 14342, 1300, L, Xs) = xEx xE0 xFk xPg 200 89 [(2, 229), (2, 216)] [] (rdw (wA.drop 179), xFTf.take 40, 14642, 1300, L, Xs) := by
  rw [q0s_11, orv_st (w' := wA.drop 179) (TY' := xFTf.take 40) (SL' := 14642) [(1, 229, 13, (.ofNat (nat_lit 239))), (0, 100, 60, (.ofNat (nat_lit 0))), (1, 229, 11, (.ofNat (nat_lit 238))), (0, 100, 60, (.ofNat (nat_lit 0))), (1, 229, 10, (.ofNat (nat_lit 237))), (0, 100, 60, (.ofNat (nat_lit 0))), (1, 229, 9, (.ofNat (nat_lit 236))), (0, 100, 60, (.ofNat (nat_lit 0))), (1, 229, 8, (.ofNat (nat_lit 235))), (0, 100, 60, (.ofNat (nat_lit 0)))] (by decide +kernel) (by decide +kernel) (by decide +kernel) (by decide +kernel) (by decide +kernel)]
set_option maxRecDepth 1000000 in
set_option maxHeartbeats 40000000 in
theorem q0s_12 (m : Nat → Nat → Int) (L : Nat) (Xs : Nat → Int) : xEx xE0 xFk xPg 416 0 [(2, 230), (0, 1), (9, 0), (9, 0)] [] (m, xFTf.take 43, 14822, 1300, L, Xs) = some (((9, 0) : xAV), (orv xE0 [(1, 230, 3, (.ofNat (nat_lit 1))), (1, 230, 2, (.ofNat (nat_lit 1))), (1, 230, 1, (.ofNat (nat_lit 1))), (1, 230, 0, (.ofNat (nat_lit 1)))] (m, xFTf.take 43, 14822, 1300, L, Xs))) :=
  xev_eq (E := xE0) (F := xFk) (P := xPg) (inl := []) (stop := []) 46 416 0 [(2, 230), (0, 1), (9, 0), (9, 0)] [] (m, xFTf.take 43, 14822, 1300, L, Xs)
set_option maxRecDepth 100000 in
theorem q0n_12 (L : Nat) (Xs : Nat → Int) : xEx xE0 xFk xPg 416 0 [(2, 230), (0, 1), (9, 0), (9, 0)] [] (rdw (wA.drop 175), xFTf.take 43, 14822, 1300, L, Xs) = some (((9, 0) : xAV), (rdw (wA.drop 171), xFTf.take 43, 14822, 1300, L, Xs)) := by
  rw [q0s_12, orv_st (w' := wA.drop 171) (TY' := xFTf.take 43) (SL' := 14822) [(1, 230, 3, (.ofNat (nat_lit 1))), (1, 230, 2, (.ofNat (nat_lit 1))), (1, 230, 1, (.ofNat (nat_lit 1))), (1, 230, 0, (.ofNat (nat_lit 1)))] (by decide +kernel) (by decide +kernel) (by decide +kernel) (by decide +kernel) (by decide +kernel)]
set_option maxRecDepth 1000000 in
set_option maxHeartbeats 40000000 in
theorem q0s_13 (L : Nat) (Xs : Nat → Int) : xEx xE0 xFk xPg 200 89 [(2, 229), (2, 216)] [] (rdw (wA.drop 179), xFTf.take 40, 14642, 1300, L, Xs) = (xEx xE0 xFk xPg 416 0 [(2, 230), (0, 1), (9, 0), (9, 0)] [] (orv xE0 [(1, 229, 0, (.ofNat (nat_lit 216))), (1, 229, 16, (.ofNat (nat_lit 242))), (0, 100, 60, (.ofNat (nat_lit 0))), (1, 229, 15, (.ofNat (nat_lit 241))), (0, 100, 60, (.ofNat (nat_lit 0))), (1, 229, 14, (.ofNat (nat_lit 240))), (0, 100, 60, (.ofNat (nat_lit 0)))] (rdw (wA.drop 179), xFTf.take 40, 14642, 1300, L, Xs))).bind fun q => xEx xE0 xFk xPg 200 126 [(2, 229), (2, 216)] [] q.2 :=
  xev_eq (E := xE0) (F := xFk) (P := xPg) (inl := []) (stop := [126]) 20 200 89 [(2, 229), (2, 216)] [] (rdw (wA.drop 179), xFTf.take 40, 14642, 1300, L, Xs)
set_option maxRecDepth 100000 in
theorem q0n_13 (L : Nat) (Xs : Nat → Int) : xEx xE0 xFk xPg 200 89 [(2, 229), (2, 216)] [] (rdw (wA.drop 179), xFTf.take 40, 14642, 1300, L, Xs) = (xEx xE0 xFk xPg 416 0 [(2, 230), (0, 1), (9, 0), (9, 0)] [] (rdw (wA.drop 175), xFTf.take 43, 14822, 1300, L, Xs)).bind fun q => xEx xE0 xFk xPg 200 126 [(2, 229), (2, 216)] [] q.2 := by
  rw [q0s_13, orv_st (w' := wA.drop 175) (TY' := xFTf.take 43) (SL' := 14822) [(1, 229, 0, (.ofNat (nat_lit 216))), (1, 229, 16, (.ofNat (nat_lit 242))), (0, 100, 60, (.ofNat (nat_lit 0))), (1, 229, 15, (.ofNat (nat_lit 241))), (0, 100, 60, (.ofNat (nat_lit 0))), (1, 229, 14, (.ofNat (nat_lit 240))), (0, 100, 60, (.ofNat (nat_lit 0)))] (by decide +kernel) (by decide +kernel) (by decide +kernel) (by decide +kernel) (by decide +kernel)]
set_option maxRecDepth 1000000 in
set_option maxHeartbeats 40000000 in
theorem q0s_14 (m : Nat → Nat → Int) (L : Nat) (Xs : Nat → Int) : xEx xE0 xFk xPg 200 126 [(2, 229), (2, 216)] [] (m, xFTf.take 43, 14822, 1300, L, Xs) = some (((9, 0) : xAV), (orv xE0 [] (m, xFTf.take 43, 14822, 1300, L, Xs))) :=
  xev_eq (E := xE0) (F := xFk) (P := xPg) (inl := []) (stop := []) 2 200 126 [(2, 229), (2, 216)] [] (m, xFTf.take 43, 14822, 1300, L, Xs)
set_option maxRecDepth 100000 in
theorem q0n_14 (L : Nat) (Xs : Nat → Int) : xEx xE0 xFk xPg 200 126 [(2, 229), (2, 216)] [] (rdw (wA.drop 171), xFTf.take 43, 14822, 1300, L, Xs) = some (((9, 0) : xAV), (rdw (wA.drop 171), xFTf.take 43, 14822, 1300, L, Xs)) := by
  rw [q0s_14, orv_st (w' := wA.drop 171) (TY' := xFTf.take 43) (SL' := 14822) [] (by decide +kernel) (by decide +kernel) (by decide +kernel) (by decide +kernel) (by decide +kernel)]
set_option maxRecDepth 1000000 in
set_option maxHeartbeats 40000000 in
theorem q0s_15 (m : Nat → Nat → Int) (L : Nat) (Xs : Nat → Int) : xEx xE0 xFk xPg 126 34 [(2, 200)] [(2, 216), (2, 200)] (m, xFTf.take 29, 14080, 1300, L, Xs) = (xEx xE0 xFk xPg 200 0 [(2, 229), (2, 216)] [] (orv xE0 [(0, 3, 18, (.ofNat (nat_lit 0))), (1, 200, 2, (.ofNat (nat_lit 216)))] (m, xFTf.take 29, 14080, 1300, L, Xs))).bind fun q => xEx xE0 xFk xPg 126 49 [(2, 200)] [(2, 229), (2, 200)] q.2 :=
  xev_eq (E := xE0) (F := xFk) (P := xPg) (inl := []) (stop := [49]) 8 126 34 [(2, 200)] [(2, 216), (2, 200)] (m, xFTf.take 29, 14080, 1300, L, Xs)
set_option maxRecDepth 100000 in
theorem q0n_15 (L : Nat) (Xs : Nat → Int) : xEx xE0 xFk xPg 126 34 [(2, 200)] [(2, 216), (2, 200)] (rdw (wA.drop 191), xFTf.take 29, 14080, 1300, L, Xs) = (xEx xE0 xFk xPg 200 0 [(2, 229), (2, 216)] [] (rdw (wA.drop 190), xFTf.take 30, 14098, 1300, L, Xs)).bind fun q => xEx xE0 xFk xPg 126 49 [(2, 200)] [(2, 229), (2, 200)] q.2 := by
  rw [q0s_15, orv_st (w' := wA.drop 190) (TY' := xFTf.take 30) (SL' := 14098) [(0, 3, 18, (.ofNat (nat_lit 0))), (1, 200, 2, (.ofNat (nat_lit 216)))] (by decide +kernel) (by decide +kernel) (by decide +kernel) (by decide +kernel) (by decide +kernel)]
set_option maxRecDepth 1000000 in
set_option maxHeartbeats 40000000 in
theorem q0s_16 (m : Nat → Nat → Int) (L : Nat) (Xs : Nat → Int) : xEx xE0 xFk xPg 219 0 [(2, 243), (2, 201), (2, 209), (2, 216), (2, 229)] [] (m, xFTf.take 44, 14833, 1300, L, Xs) = xEx xE0 xFk xPg 219 25 [(2, 243), (2, 201), (2, 209), (2, 216), (2, 229)] [] (orv xE0 [(1, 243, 6, (.ofNat (nat_lit 245))), (1, 245, 7, (.ofNat (nat_lit 253))), (0, 100, 42, (.ofNat (nat_lit 0))), (1, 245, 6, (.ofNat (nat_lit 252))), (0, 100, 42, (.ofNat (nat_lit 0))), (1, 245, 5, (.ofNat (nat_lit 251))), (0, 100, 42, (.ofNat (nat_lit 0))), (1, 245, 4, (.ofNat (nat_lit 250))), (0, 100, 42, (.ofNat (nat_lit 0))), (1, 245, 3, (.ofNat (nat_lit 249))), (0, 100, 42, (.ofNat (nat_lit 0))), (1, 245, 2, (.ofNat (nat_lit 248))), (0, 100, 42, (.ofNat (nat_lit 0))), (1, 245, 1, (.ofNat (nat_lit 247))), (0, 100, 42, (.ofNat (nat_lit 0))), (1, 245, 0, (.ofNat (nat_lit 246))), (0, 100, 42, (.ofNat (nat_lit 0))), (0, 107, 8, (.ofNat (nat_lit 0))), (1, 243, 4, (.ofNat (nat_lit 244))), (0, 106, 8, (.ofNat (nat_lit 0)))] (m, xFTf.take 44, 14833, 1300, L, Xs)) :=
  xev_eq (E := xE0) (F := xFk) (P := xPg) (inl := []) (stop := [25]) 12 219 0 [(2, 243), (2, 201), (2, 209), (2, 216), (2, 229)] [] (m, xFTf.take 44, 14833, 1300, L, Xs)
set_option maxRecDepth 100000 in
theorem q0n_16 (L : Nat) (Xs : Nat → Int) : xEx xE0 xFk xPg 219 0 [(2, 243), (2, 201), (2, 209), (2, 216), (2, 229)] [] (rdw (wA.drop 170), xFTf.take 44, 14833, 1300, L, Xs) = xEx xE0 xFk xPg 219 25 [(2, 243), (2, 201), (2, 209), (2, 216), (2, 229)] [] (rdw (wA.drop 160), xFTf.take 54, 15185, 1300, L, Xs) := by
  rw [q0s_16, orv_st (w' := wA.drop 160) (TY' := xFTf.take 54) (SL' := 15185) [(1, 243, 6, (.ofNat (nat_lit 245))), (1, 245, 7, (.ofNat (nat_lit 253))), (0, 100, 42, (.ofNat (nat_lit 0))), (1, 245, 6, (.ofNat (nat_lit 252))), (0, 100, 42, (.ofNat (nat_lit 0))), (1, 245, 5, (.ofNat (nat_lit 251))), (0, 100, 42, (.ofNat (nat_lit 0))), (1, 245, 4, (.ofNat (nat_lit 250))), (0, 100, 42, (.ofNat (nat_lit 0))), (1, 245, 3, (.ofNat (nat_lit 249))), (0, 100, 42, (.ofNat (nat_lit 0))), (1, 245, 2, (.ofNat (nat_lit 248))), (0, 100, 42, (.ofNat (nat_lit 0))), (1, 245, 1, (.ofNat (nat_lit 247))), (0, 100, 42, (.ofNat (nat_lit 0))), (1, 245, 0, (.ofNat (nat_lit 246))), (0, 100, 42, (.ofNat (nat_lit 0))), (0, 107, 8, (.ofNat (nat_lit 0))), (1, 243, 4, (.ofNat (nat_lit 244))), (0, 106, 8, (.ofNat (nat_lit 0)))] (by decide +kernel) (by decide +kernel) (by decide +kernel) (by decide +kernel) (by decide +kernel)]
set_option maxRecDepth 1000000 in
set_option maxHeartbeats 40000000 in
theorem q0s_17 (m : Nat → Nat → Int) (L : Nat) (Xs : Nat → Int) : xEx xE0 xFk xPg 219 25 [(2, 243), (2, 201), (2, 209), (2, 216), (2, 229)] [] (m, xFTf.take 54, 15185, 1300, L, Xs) = xEx xE0 xFk xPg 219 64 [(2, 243), (2, 201), (2, 209), (2, 216), (2, 229)] [] (orv xE0 [(1, 243, 1, (.ofNat (nat_lit 209))), (1, 243, 0, (.ofNat (nat_lit 201))), (1, 243, 10, (.ofNat (nat_lit 257))), (0, 101, 3, (.ofNat (nat_lit 0))), (1, 243, 9, (.ofNat (nat_lit 256))), (0, 101, 3, (.ofNat (nat_lit 0))), (1, 243, 8, (.ofNat (nat_lit 255))), (0, 101, 3, (.ofNat (nat_lit 0))), (1, 243, 7, (.ofNat (nat_lit 254))), (0, 101, 10, (.ofNat (nat_lit 0)))] (m, xFTf.take 54, 15185, 1300, L, Xs)) :=
  xev_eq (E := xE0) (F := xFk) (P := xPg) (inl := []) (stop := [64]) 23 219 25 [(2, 243), (2, 201), (2, 209), (2, 216), (2, 229)] [] (m, xFTf.take 54, 15185, 1300, L, Xs)
set_option maxRecDepth 100000 in
theorem q0n_17 (L : Nat) (Xs : Nat → Int) : xEx xE0 xFk xPg 219 25 [(2, 243), (2, 201), (2, 209), (2, 216), (2, 229)] [] (rdw (wA.drop 160), xFTf.take 54, 15185, 1300, L, Xs) = xEx xE0 xFk xPg 219 64 [(2, 243), (2, 201), (2, 209), (2, 216), (2, 229)] [] (rdw (wA.drop 154), xFTf.take 58, 15204, 1300, L, Xs) := by
  rw [q0s_17, orv_st (w' := wA.drop 154) (TY' := xFTf.take 58) (SL' := 15204) [(1, 243, 1, (.ofNat (nat_lit 209))), (1, 243, 0, (.ofNat (nat_lit 201))), (1, 243, 10, (.ofNat (nat_lit 257))), (0, 101, 3, (.ofNat (nat_lit 0))), (1, 243, 9, (.ofNat (nat_lit 256))), (0, 101, 3, (.ofNat (nat_lit 0))), (1, 243, 8, (.ofNat (nat_lit 255))), (0, 101, 3, (.ofNat (nat_lit 0))), (1, 243, 7, (.ofNat (nat_lit 254))), (0, 101, 10, (.ofNat (nat_lit 0)))] (by decide +kernel) (by decide +kernel) (by decide +kernel) (by decide +kernel) (by decide +kernel)]
set_option maxRecDepth 1000000 in
set_option maxHeartbeats 40000000 in
theorem q0s_18 (m : Nat → Nat → Int) (L : Nat) (Xs : Nat → Int) : xEx xE0 xFk xPg 219 64 [(2, 243), (2, 201), (2, 209), (2, 216), (2, 229)] [] (m, xFTf.take 58, 15204, 1300, L, Xs) = some (((9, 0) : xAV), (orv xE0 [(1, 243, 3, (.ofNat (nat_lit 229))), (1, 243, 2, (.ofNat (nat_lit 216)))] (m, xFTf.take 58, 15204, 1300, L, Xs))) :=
  xev_eq (E := xE0) (F := xFk) (P := xPg) (inl := []) (stop := []) 8 219 64 [(2, 243), (2, 201), (2, 209), (2, 216), (2, 229)] [] (m, xFTf.take 58, 15204, 1300, L, Xs)
set_option maxRecDepth 100000 in
theorem q0n_18 (L : Nat) (Xs : Nat → Int) : xEx xE0 xFk xPg 219 64 [(2, 243), (2, 201), (2, 209), (2, 216), (2, 229)] [] (rdw (wA.drop 154), xFTf.take 58, 15204, 1300, L, Xs) = some (((9, 0) : xAV), (rdw (wA.drop 152), xFTf.take 58, 15204, 1300, L, Xs)) := by
  rw [q0s_18, orv_st (w' := wA.drop 152) (TY' := xFTf.take 58) (SL' := 15204) [(1, 243, 3, (.ofNat (nat_lit 229))), (1, 243, 2, (.ofNat (nat_lit 216)))] (by decide +kernel) (by decide +kernel) (by decide +kernel) (by decide +kernel) (by decide +kernel)]
set_option maxRecDepth 1000000 in
set_option maxHeartbeats 40000000 in
theorem q0s_19 (L : Nat) (Xs : Nat → Int) : xEx xE0 xFk xPg 126 49 [(2, 200)] [(2, 229), (2, 200)] (rdw (wA.drop 171), xFTf.take 43, 14822, 1300, L, Xs) = (xEx xE0 xFk xPg 219 0 [(2, 243), (2, 201), (2, 209), (2, 216), (2, 229)] [] (orv xE0 [(0, 5, 11, (.ofNat (nat_lit 0))), (1, 200, 3, (.ofNat (nat_lit 229)))] (rdw (wA.drop 171), xFTf.take 43, 14822, 1300, L, Xs))).bind fun q => xEx xE0 xFk xPg 126 76 [(2, 200)] [(2, 243), (2, 200)] q.2 :=
  xev_eq (E := xE0) (F := xFk) (P := xPg) (inl := []) (stop := [76]) 14 126 49 [(2, 200)] [(2, 229), (2, 200)] (rdw (wA.drop 171), xFTf.take 43, 14822, 1300, L, Xs)
set_option maxRecDepth 100000 in
theorem q0n_19 (L : Nat) (Xs : Nat → Int) : xEx xE0 xFk xPg 126 49 [(2, 200)] [(2, 229), (2, 200)] (rdw (wA.drop 171), xFTf.take 43, 14822, 1300, L, Xs) = (xEx xE0 xFk xPg 219 0 [(2, 243), (2, 201), (2, 209), (2, 216), (2, 229)] [] (rdw (wA.drop 170), xFTf.take 44, 14833, 1300, L, Xs)).bind fun q => xEx xE0 xFk xPg 126 76 [(2, 200)] [(2, 243), (2, 200)] q.2 := by
  rw [q0s_19, orv_st (w' := wA.drop 170) (TY' := xFTf.take 44) (SL' := 14833) [(0, 5, 11, (.ofNat (nat_lit 0))), (1, 200, 3, (.ofNat (nat_lit 229)))] (by decide +kernel) (by decide +kernel) (by decide +kernel) (by decide +kernel) (by decide +kernel)]
set_option maxRecDepth 1000000 in
set_option maxHeartbeats 40000000 in
theorem q0s_20 (m : Nat → Nat → Int) (L : Nat) (Xs : Nat → Int) : xEx xE0 xFk xPg 243 0 [(2, 258), (2, 201)] [] (m, xFTf.take 59, 15224, 1300, L, Xs) = xEx xE0 xFk xPg 243 46 [(2, 258), (2, 201)] [] (orv xE0 [(1, 258, 7, (.ofNat (nat_lit 263))), (0, 100, 7, (.ofNat (nat_lit 0))), (1, 258, 6, (.ofNat (nat_lit 262))), (0, 100, 7, (.ofNat (nat_lit 0))), (1, 258, 5, (.ofNat (nat_lit 1))), (1, 258, 3, (.ofNat (nat_lit 261))), (0, 100, 3, (.ofNat (nat_lit 0))), (1, 258, 2, (.ofNat (nat_lit 260))), (0, 100, 3, (.ofNat (nat_lit 0))), (1, 258, 1, (.ofNat (nat_lit 259))), (0, 100, 3, (.ofNat (nat_lit 0)))] (m, xFTf.take 59, 15224, 1300, L, Xs)) :=
  xev_eq (E := xE0) (F := xFk) (P := xPg) (inl := []) (stop := [46]) 26 243 0 [(2, 258), (2, 201)] [] (m, xFTf.take 59, 15224, 1300, L, Xs)
set_option maxRecDepth 100000 in
theorem q0n_20 (L : Nat) (Xs : Nat → Int) : xEx xE0 xFk xPg 243 0 [(2, 258), (2, 201)] [] (rdw (wA.drop 151), xFTf.take 59, 15224, 1300, L, Xs) = xEx xE0 xFk xPg 243 46 [(2, 258), (2, 201)] [] (rdw (wA.drop 145), xFTf.take 64, 15247, 1300, L, Xs) := by
  rw [q0s_20, orv_st (w' := wA.drop 145) (TY' := xFTf.take 64) (SL' := 15247) [(1, 258, 7, (.ofNat (nat_lit 263))), (0, 100, 7, (.ofNat (nat_lit 0))), (1, 258, 6, (.ofNat (nat_lit 262))), (0, 100, 7, (.ofNat (nat_lit 0))), (1, 258, 5, (.ofNat (nat_lit 1))), (1, 258, 3, (.ofNat (nat_lit 261))), (0, 100, 3, (.ofNat (nat_lit 0))), (1, 258, 2, (.ofNat (nat_lit 260))), (0, 100, 3, (.ofNat (nat_lit 0))), (1, 258, 1, (.ofNat (nat_lit 259))), (0, 100, 3, (.ofNat (nat_lit 0)))] (by decide +kernel) (by decide +kernel) (by decide +kernel) (by decide +kernel) (by decide +kernel)]
set_option maxRecDepth 1000000 in
set_option maxHeartbeats 40000000 in
theorem q0s_21 (m : Nat → Nat → Int) (L : Nat) (Xs : Nat → Int) : xEx xE0 xFk xPg 243 46 [(2, 258), (2, 201)] [] (m, xFTf.take 64, 15247, 1300, L, Xs) = xEx xE0 xFk xPg 243 83 [(2, 258), (2, 201)] [] (orv xE0 [(1, 258, 14, (.ofNat (nat_lit 268))), (0, 100, 7, (.ofNat (nat_lit 0))), (1, 258, 13, (.ofNat (nat_lit 267))), (0, 100, 3, (.ofNat (nat_lit 0))), (1, 258, 12, (.ofNat (nat_lit 266))), (0, 100, 3, (.ofNat (nat_lit 0))), (1, 258, 11, (.ofNat (nat_lit 265))), (0, 100, 3, (.ofNat (nat_lit 0))), (1, 258, 8, (.ofNat (nat_lit 264))), (0, 100, 7, (.ofNat (nat_lit 0)))] (m, xFTf.take 64, 15247, 1300, L, Xs)) :=
  xev_eq (E := xE0) (F := xFk) (P := xPg) (inl := []) (stop := [83]) 21 243 46 [(2, 258), (2, 201)] [] (m, xFTf.take 64, 15247, 1300, L, Xs)
set_option maxRecDepth 100000 in
theorem q0n_21 (L : Nat) (Xs : Nat → Int) : xEx xE0 xFk xPg 243 46 [(2, 258), (2, 201)] [] (rdw (wA.drop 145), xFTf.take 64, 15247, 1300, L, Xs) = xEx xE0 xFk xPg 243 83 [(2, 258), (2, 201)] [] (rdw (wA.drop 140), xFTf.take 69, 15270, 1300, L, Xs) := by
  rw [q0s_21, orv_st (w' := wA.drop 140) (TY' := xFTf.take 69) (SL' := 15270) [(1, 258, 14, (.ofNat (nat_lit 268))), (0, 100, 7, (.ofNat (nat_lit 0))), (1, 258, 13, (.ofNat (nat_lit 267))), (0, 100, 3, (.ofNat (nat_lit 0))), (1, 258, 12, (.ofNat (nat_lit 266))), (0, 100, 3, (.ofNat (nat_lit 0))), (1, 258, 11, (.ofNat (nat_lit 265))), (0, 100, 3, (.ofNat (nat_lit 0))), (1, 258, 8, (.ofNat (nat_lit 264))), (0, 100, 7, (.ofNat (nat_lit 0)))] (by decide +kernel) (by decide +kernel) (by decide +kernel) (by decide +kernel) (by decide +kernel)]
set_option maxRecDepth 1000000 in
set_option maxHeartbeats 40000000 in
theorem q0s_22 (m : Nat → Nat → Int) (L : Nat) (Xs : Nat → Int) : xEx xE0 xFk xPg 243 83 [(2, 258), (2, 201)] [] (m, xFTf.take 69, 15270, 1300, L, Xs) = some (((9, 0) : xAV), (orv xE0 [(1, 258, 0, (.ofNat (nat_lit 201))), (1, 258, 17, (.ofNat (nat_lit 271))), (0, 100, 7, (.ofNat (nat_lit 0))), (1, 258, 16, (.ofNat (nat_lit 270))), (0, 100, 7, (.ofNat (nat_lit 0))), (1, 258, 15, (.ofNat (nat_lit 269))), (0, 100, 7, (.ofNat (nat_lit 0)))] (m, xFTf.take 69, 15270, 1300, L, Xs))) :=
  xev_eq (E := xE0) (F := xFk) (P := xPg) (inl := []) (stop := []) 17 243 83 [(2, 258), (2, 201)] [] (m, xFTf.take 69, 15270, 1300, L, Xs)
set_option maxRecDepth 100000 in
theorem q0n_22 (L : Nat) (Xs : Nat → Int) : xEx xE0 xFk xPg 243 83 [(2, 258), (2, 201)] [] (rdw (wA.drop 140), xFTf.take 69, 15270, 1300, L, Xs) = some (((9, 0) : xAV), (rdw (wA.drop 136), xFTf.take 72, 15291, 1300, L, Xs)) := by
  rw [q0s_22, orv_st (w' := wA.drop 136) (TY' := xFTf.take 72) (SL' := 15291) [(1, 258, 0, (.ofNat (nat_lit 201))), (1, 258, 17, (.ofNat (nat_lit 271))), (0, 100, 7, (.ofNat (nat_lit 0))), (1, 258, 16, (.ofNat (nat_lit 270))), (0, 100, 7, (.ofNat (nat_lit 0))), (1, 258, 15, (.ofNat (nat_lit 269))), (0, 100, 7, (.ofNat (nat_lit 0)))] (by decide +kernel) (by decide +kernel) (by decide +kernel) (by decide +kernel) (by decide +kernel)]
set_option maxRecDepth 1000000 in
set_option maxHeartbeats 40000000 in
theorem q0s_23 (L : Nat) (Xs : Nat → Int) : xEx xE0 xFk xPg 126 76 [(2, 200)] [(2, 243), (2, 200)] (rdw (wA.drop 152), xFTf.take 58, 15204, 1300, L, Xs) = (xEx xE0 xFk xPg 243 0 [(2, 258), (2, 201)] [] (orv xE0 [(0, 6, 20, (.ofNat (nat_lit 0))), (1, 200, 4, (.ofNat (nat_lit 243)))] (rdw (wA.drop 152), xFTf.take 58, 15204, 1300, L, Xs))).bind fun q => xEx xE0 xFk xPg 126 91 [(2, 200)] [(2, 258), (2, 200)] q.2 :=
  xev_eq (E := xE0) (F := xFk) (P := xPg) (inl := []) (stop := [91]) 8 126 76 [(2, 200)] [(2, 243), (2, 200)] (rdw (wA.drop 152), xFTf.take 58, 15204, 1300, L, Xs)
set_option maxRecDepth 100000 in
theorem q0n_23 (L : Nat) (Xs : Nat → Int) : xEx xE0 xFk xPg 126 76 [(2, 200)] [(2, 243), (2, 200)] (rdw (wA.drop 152), xFTf.take 58, 15204, 1300, L, Xs) = (xEx xE0 xFk xPg 243 0 [(2, 258), (2, 201)] [] (rdw (wA.drop 151), xFTf.take 59, 15224, 1300, L, Xs)).bind fun q => xEx xE0 xFk xPg 126 91 [(2, 200)] [(2, 258), (2, 200)] q.2 := by
  rw [q0s_23, orv_st (w' := wA.drop 151) (TY' := xFTf.take 59) (SL' := 15224) [(0, 6, 20, (.ofNat (nat_lit 0))), (1, 200, 4, (.ofNat (nat_lit 243)))] (by decide +kernel) (by decide +kernel) (by decide +kernel) (by decide +kernel) (by decide +kernel)]
set_option maxRecDepth 1000000 in
set_option maxHeartbeats 40000000 in
theorem q0s_24 (m : Nat → Nat → Int) (L : Nat) (Xs : Nat → Int) : xEx xE0 xFk xPg 315 0 [(2, 272)] [] (m, xFTf.take 73, 15298, 1300, L, Xs) = xEx xE0 xFk xPg 315 46 [(2, 272)] [] (orv xE0 [(1, 272, 5, (.ofNat (nat_lit 274))), (1, 274, 10, (.ofNat (nat_lit 285))), (0, 100, 51, (.ofNat (nat_lit 0))), (1, 274, 9, (.ofNat (nat_lit 284))), (0, 100, 51, (.ofNat (nat_lit 0))), (1, 274, 8, (.ofNat (nat_lit 283))), (0, 100, 51, (.ofNat (nat_lit 0))), (1, 274, 7, (.ofNat (nat_lit 282))), (0, 100, 51, (.ofNat (nat_lit 0))), (1, 274, 6, (.ofNat (nat_lit 281))), (0, 100, 51, (.ofNat (nat_lit 0))), (1, 274, 5, (.ofNat (nat_lit 280))), (0, 100, 51, (.ofNat (nat_lit 0))), (1, 274, 4, (.ofNat (nat_lit 279))), (0, 100, 51, (.ofNat (nat_lit 0))), (1, 274, 3, (.ofNat (nat_lit 278))), (0, 100, 51, (.ofNat (nat_lit 0))), (1, 274, 2, (.ofNat (nat_lit 277))), (0, 100, 51, (.ofNat (nat_lit 0))), (1, 274, 1, (.ofNat (nat_lit 276))), (0, 100, 51, (.ofNat (nat_lit 0))), (1, 274, 0, (.ofNat (nat_lit 275))), (0, 100, 51, (.ofNat (nat_lit 0))), (0, 107, 11, (.ofNat (nat_lit 0))), (1, 272, 4, (.ofNat (nat_lit 273))), (0, 100, 10, (.ofNat (nat_lit 0))), (1, 272, 3, (.ofNat (nat_lit 3))), (1, 272, 2, (.ofNat (nat_lit 1))), (1, 272, 1, (.ofNat (nat_lit 50))), (1, 272, 0, (.ofNat (nat_lit 10)))] (m, xFTf.take 73, 15298, 1300, L, Xs)) :=
  xev_eq (E := xE0) (F := xFk) (P := xPg) (inl := []) (stop := [46]) 24 315 0 [(2, 272)] [] (m, xFTf.take 73, 15298, 1300, L, Xs)
set_option maxRecDepth 100000 in
theorem q0n_24 (L : Nat) (Xs : Nat → Int) : xEx xE0 xFk xPg 315 0 [(2, 272)] [] (rdw (wA.drop 135), xFTf.take 73, 15298, 1300, L, Xs) = xEx xE0 xFk xPg 315 46 [(2, 272)] [] (rdw (wA.drop 118), xFTf.take 86, 15880, 1300, L, Xs) := by
  rw [q0s_24, orv_st (w' := wA.drop 118) (TY' := xFTf.take 86) (SL' := 15880) [(1, 272, 5, (.ofNat (nat_lit 274))), (1, 274, 10, (.ofNat (nat_lit 285))), (0, 100, 51, (.ofNat (nat_lit 0))), (1, 274, 9, (.ofNat (nat_lit 284))), (0, 100, 51, (.ofNat (nat_lit 0))), (1, 274, 8, (.ofNat (nat_lit 283))), (0, 100, 51, (.ofNat (nat_lit 0))), (1, 274, 7, (.ofNat (nat_lit 282))), (0, 100, 51, (.ofNat (nat_lit 0))), (1, 274, 6, (.ofNat (nat_lit 281))), (0, 100, 51, (.ofNat (nat_lit 0))), (1, 274, 5, (.ofNat (nat_lit 280))), (0, 100, 51, (.ofNat (nat_lit 0))), (1, 274, 4, (.ofNat (nat_lit 279))), (0, 100, 51, (.ofNat (nat_lit 0))), (1, 274, 3, (.ofNat (nat_lit 278))), (0, 100, 51, (.ofNat (nat_lit 0))), (1, 274, 2, (.ofNat (nat_lit 277))), (0, 100, 51, (.ofNat (nat_lit 0))), (1, 274, 1, (.ofNat (nat_lit 276))), (0, 100, 51, (.ofNat (nat_lit 0))), (1, 274, 0, (.ofNat (nat_lit 275))), (0, 100, 51, (.ofNat (nat_lit 0))), (0, 107, 11, (.ofNat (nat_lit 0))), (1, 272, 4, (.ofNat (nat_lit 273))), (0, 100, 10, (.ofNat (nat_lit 0))), (1, 272, 3, (.ofNat (nat_lit 3))), (1, 272, 2, (.ofNat (nat_lit 1))), (1, 272, 1, (.ofNat (nat_lit 50))), (1, 272, 0, (.ofNat (nat_lit 10)))] (by decide +kernel) (by decide +kernel) (by decide +kernel) (by decide +kernel) (by decide +kernel)]
set_option maxRecDepth 1000000 in
set_option maxHeartbeats 40000000 in
theorem q0s_25 (m : Nat → Nat → Int) (L : Nat) (Xs : Nat → Int) : xEx xE0 xFk xPg 315 46 [(2, 272)] [] (m, xFTf.take 86, 15880, 1300, L, Xs) = xEx xE0 xFk xPg 315 58 [(2, 272)] [] (orv xE0 [(1, 272, 6, (.ofNat (nat_lit 286))), (1, 286, 9, (.ofNat (nat_lit 296))), (0, 100, 51, (.ofNat (nat_lit 0))), (1, 286, 8, (.ofNat (nat_lit 295))), (0, 100, 51, (.ofNat (nat_lit 0))), (1, 286, 7, (.ofNat (nat_lit 294))), (0, 100, 51, (.ofNat (nat_lit 0))), (1, 286, 6, (.ofNat (nat_lit 293))), (0, 100, 51, (.ofNat (nat_lit 0))), (1, 286, 5, (.ofNat (nat_lit 292))), (0, 100, 51, (.ofNat (nat_lit 0))), (1, 286, 4, (.ofNat (nat_lit 291))), (0, 100, 51, (.ofNat (nat_lit 0))), (1, 286, 3, (.ofNat (nat_lit 290))), (0, 100, 51, (.ofNat (nat_lit 0))), (1, 286, 2, (.ofNat (nat_lit 289))), (0, 100, 51, (.ofNat (nat_lit 0))), (1, 286, 1, (.ofNat (nat_lit 288))), (0, 100, 51, (.ofNat (nat_lit 0))), (1, 286, 0, (.ofNat (nat_lit 287))), (0, 100, 51, (.ofNat (nat_lit 0))), (0, 107, 10, (.ofNat (nat_lit 0)))] (m, xFTf.take 86, 15880, 1300, L, Xs)) :=
  xev_eq (E := xE0) (F := xFk) (P := xPg) (inl := []) (stop := [58]) 6 315 46 [(2, 272)] [] (m, xFTf.take 86, 15880, 1300, L, Xs)
set_option maxRecDepth 100000 in
theorem q0n_25 (L : Nat) (Xs : Nat → Int) : xEx xE0 xFk xPg 315 46 [(2, 272)] [] (rdw (wA.drop 118), xFTf.take 86, 15880, 1300, L, Xs) = xEx xE0 xFk xPg 315 58 [(2, 272)] [] (rdw (wA.drop 107), xFTf.take 97, 16400, 1300, L, Xs) := by
  rw [q0s_25, orv_st (w' := wA.drop 107) (TY' := xFTf.take 97) (SL' := 16400) [(1, 272, 6, (.ofNat (nat_lit 286))), (1, 286, 9, (.ofNat (nat_lit 296))), (0, 100, 51, (.ofNat (nat_lit 0))), (1, 286, 8, (.ofNat (nat_lit 295))), (0, 100, 51, (.ofNat (nat_lit 0))), (1, 286, 7, (.ofNat (nat_lit 294))), (0, 100, 51, (.ofNat (nat_lit 0))), (1, 286, 6, (.ofNat (nat_lit 293))), (0, 100, 51, (.ofNat (nat_lit 0))), (1, 286, 5, (.ofNat (nat_lit 292))), (0, 100, 51, (.ofNat (nat_lit 0))), (1, 286, 4, (.ofNat (nat_lit 291))), (0, 100, 51, (.ofNat (nat_lit 0))), (1, 286, 3, (.ofNat (nat_lit 290))), (0, 100, 51, (.ofNat (nat_lit 0))), (1, 286, 2, (.ofNat (nat_lit 289))), (0, 100, 51, (.ofNat (nat_lit 0))), (1, 286, 1, (.ofNat (nat_lit 288))), (0, 100, 51, (.ofNat (nat_lit 0))), (1, 286, 0, (.ofNat (nat_lit 287))), (0, 100, 51, (.ofNat (nat_lit 0))), (0, 107, 10, (.ofNat (nat_lit 0)))] (by decide +kernel) (by decide +kernel) (by decide +kernel) (by decide +kernel) (by decide +kernel)]
set_option maxRecDepth 1000000 in
set_option maxHeartbeats 40000000 in
theorem q0s_26 (m : Nat → Nat → Int) (L : Nat) (Xs : Nat → Int) : xEx xE0 xFk xPg 315 58 [(2, 272)] [] (m, xFTf.take 97, 16400, 1300, L, Xs) = some (((9, 0) : xAV), (orv xE0 [] (m, xFTf.take 97, 16400, 1300, L, Xs))) :=
  xev_eq (E := xE0) (F := xFk) (P := xPg) (inl := []) (stop := []) 2 315 58 [(2, 272)] [] (m, xFTf.take 97, 16400, 1300, L, Xs)
set_option maxRecDepth 100000 in
theorem q0n_26 (L : Nat) (Xs : Nat → Int) : xEx xE0 xFk xPg 315 58 [(2, 272)] [] (rdw (wA.drop 107), xFTf.take 97, 16400, 1300, L, Xs) = some (((9, 0) : xAV), (rdw (wA.drop 107), xFTf.take 97, 16400, 1300, L, Xs)) := by
  rw [q0s_26, orv_st (w' := wA.drop 107) (TY' := xFTf.take 97) (SL' := 16400) [] (by decide +kernel) (by decide +kernel) (by decide +kernel) (by decide +kernel) (by decide +kernel)]
set_option maxRecDepth 1000000 in
set_option maxHeartbeats 40000000 in
theorem q0s_27 (m : Nat → Nat → Int) (L : Nat) (Xs : Nat → Int) : xEx xE0 xFk xPg 126 91 [(2, 200)] [(2, 258), (2, 200)] (m, xFTf.take 72, 15291, 1300, L, Xs) = (xEx xE0 xFk xPg 315 0 [(2, 272)] [] (orv xE0 [(0, 10, 7, (.ofNat (nat_lit 0))), (1, 200, 5, (.ofNat (nat_lit 258)))] (m, xFTf.take 72, 15291, 1300, L, Xs))).bind fun q => xEx xE0 xFk xPg 126 102 [(2, 200)] [(2, 272), (2, 200)] q.2 :=
  xev_eq (E := xE0) (F := xFk) (P := xPg) (inl := []) (stop := [102]) 6 126 91 [(2, 200)] [(2, 258), (2, 200)] (m, xFTf.take 72, 15291, 1300, L, Xs)
set_option maxRecDepth 100000 in
theorem q0n_27 (L : Nat) (Xs : Nat → Int) : xEx xE0 xFk xPg 126 91 [(2, 200)] [(2, 258), (2, 200)] (rdw (wA.drop 136), xFTf.take 72, 15291, 1300, L, Xs) = (xEx xE0 xFk xPg 315 0 [(2, 272)] [] (rdw (wA.drop 135), xFTf.take 73, 15298, 1300, L, Xs)).bind fun q => xEx xE0 xFk xPg 126 102 [(2, 200)] [(2, 272), (2, 200)] q.2 := by
  rw [q0s_27, orv_st (w' := wA.drop 135) (TY' := xFTf.take 73) (SL' := 15298) [(0, 10, 7, (.ofNat (nat_lit 0))), (1, 200, 5, (.ofNat (nat_lit 258)))] (by decide +kernel) (by decide +kernel) (by decide +kernel) (by decide +kernel) (by decide +kernel)]
set_option maxRecDepth 1000000 in
set_option maxHeartbeats 40000000 in
theorem q0s_28 (m : Nat → Nat → Int) (L : Nat) (Xs : Nat → Int) : xEx xE0 xFk xPg 268 0 [(2, 297)] [] (m, xFTf.take 98, 16415, 1300, L, Xs) = xEx xE0 xFk xPg 268 47 [(2, 297)] [] (orv xE0 [(1, 297, 5, (.ofNat (nat_lit 302))), (0, 100, 401, (.ofNat (nat_lit 0))), (1, 297, 4, (.ofNat (nat_lit 301))), (0, 103, 401, (.ofNat (nat_lit 0))), (1, 297, 3, (.ofNat (nat_lit 300))), (0, 100, 401, (.ofNat (nat_lit 0))), (1, 297, 2, (.ofNat (nat_lit 299))), (0, 100, 401, (.ofNat (nat_lit 0))), (1, 297, 0, (.ofNat (nat_lit 298))), (0, 103, 0, (.ofNat (nat_lit 0)))] (m, xFTf.take 98, 16415, 1300, L, Xs)) :=
  xev_eq (E := xE0) (F := xFk) (P := xPg) (inl := []) (stop := [47]) 23 268 0 [(2, 297)] [] (m, xFTf.take 98, 16415, 1300, L, Xs)
set_option maxRecDepth 100000 in
theorem q0n_28 (L : Nat) (Xs : Nat → Int) : xEx xE0 xFk xPg 268 0 [(2, 297)] [] (rdw (wA.drop 106), xFTf.take 98, 16415, 1300, L, Xs) = xEx xE0 xFk xPg 268 47 [(2, 297)] [] (rdw (wA.drop 101), xFTf.take 103, 18019, 1300, L, Xs) := by
  rw [q0s_28, orv_st (w' := wA.drop 101) (TY' := xFTf.take 103) (SL' := 18019) [(1, 297, 5, (.ofNat (nat_lit 302))), (0, 100, 401, (.ofNat (nat_lit 0))), (1, 297, 4, (.ofNat (nat_lit 301))), (0, 103, 401, (.ofNat (nat_lit 0))), (1, 297, 3, (.ofNat (nat_lit 300))), (0, 100, 401, (.ofNat (nat_lit 0))), (1, 297, 2, (.ofNat (nat_lit 299))), (0, 100, 401, (.ofNat (nat_lit 0))), (1, 297, 0, (.ofNat (nat_lit 298))), (0, 103, 0, (.ofNat (nat_lit 0)))] (by decide +kernel) (by decide +kernel) (by decide +kernel) (by decide +kernel) (by decide +kernel)]
set_option maxRecDepth 1000000 in
set_option maxHeartbeats 40000000 in
theorem q0s_29 (m : Nat → Nat → Int) (L : Nat) (Xs : Nat → Int) : xEx xE0 xFk xPg 268 47 [(2, 297)] [] (m, xFTf.take 103, 18019, 1300, L, Xs) = some (((9, 0) : xAV), (orv xE0 [(1, 297, 6, (.ofNat (nat_lit 303))), (0, 105, 401, (.ofNat (nat_lit 0)))] (m, xFTf.take 103, 18019, 1300, L, Xs))) :=
  xev_eq (E := xE0) (F := xFk) (P := xPg) (inl := []) (stop := []) 6 268 47 [(2, 297)] [] (m, xFTf.take 103, 18019, 1300, L, Xs)
set_option maxRecDepth 100000 in
theorem q0n_29 (L : Nat) (Xs : Nat → Int) : xEx xE0 xFk xPg 268 47 [(2, 297)] [] (rdw (wA.drop 101), xFTf.take 103, 18019, 1300, L, Xs) = some (((9, 0) : xAV), (rdw (wA.drop 100), xFTf.take 104, 18420, 1300, L, Xs)) := by
  rw [q0s_29, orv_st (w' := wA.drop 100) (TY' := xFTf.take 104) (SL' := 18420) [(1, 297, 6, (.ofNat (nat_lit 303))), (0, 105, 401, (.ofNat (nat_lit 0)))] (by decide +kernel) (by decide +kernel) (by decide +kernel) (by decide +kernel) (by decide +kernel)]
set_option maxRecDepth 1000000 in
set_option maxHeartbeats 40000000 in
theorem q0s_30 (m : Nat → Nat → Int) (L : Nat) (Xs : Nat → Int) : xEx xE0 xFk xPg 126 102 [(2, 200)] [(2, 272), (2, 200)] (m, xFTf.take 97, 16400, 1300, L, Xs) = (xEx xE0 xFk xPg 268 0 [(2, 297)] [] (orv xE0 [(0, 8, 15, (.ofNat (nat_lit 0))), (1, 200, 6, (.ofNat (nat_lit 272)))] (m, xFTf.take 97, 16400, 1300, L, Xs))).bind fun q => xEx xE0 xFk xPg 126 113 [(2, 200)] [(2, 297), (2, 200)] q.2 :=
  xev_eq (E := xE0) (F := xFk) (P := xPg) (inl := []) (stop := [113]) 6 126 102 [(2, 200)] [(2, 272), (2, 200)] (m, xFTf.take 97, 16400, 1300, L, Xs)
set_option maxRecDepth 100000 in
theorem q0n_30 (L : Nat) (Xs : Nat → Int) : xEx xE0 xFk xPg 126 102 [(2, 200)] [(2, 272), (2, 200)] (rdw (wA.drop 107), xFTf.take 97, 16400, 1300, L, Xs) = (xEx xE0 xFk xPg 268 0 [(2, 297)] [] (rdw (wA.drop 106), xFTf.take 98, 16415, 1300, L, Xs)).bind fun q => xEx xE0 xFk xPg 126 113 [(2, 200)] [(2, 297), (2, 200)] q.2 := by
  rw [q0s_30, orv_st (w' := wA.drop 106) (TY' := xFTf.take 98) (SL' := 16415) [(0, 8, 15, (.ofNat (nat_lit 0))), (1, 200, 6, (.ofNat (nat_lit 272)))] (by decide +kernel) (by decide +kernel) (by decide +kernel) (by decide +kernel) (by decide +kernel)]
set_option maxRecDepth 1000000 in
set_option maxHeartbeats 40000000 in
theorem q0s_31 (m : Nat → Nat → Int) (L : Nat) (Xs : Nat → Int) : xEx xE0 xFk xPg 126 113 [(2, 200)] [(2, 297), (2, 200)] (m, xFTf.take 104, 18420, 1300, L, Xs) = some (((9, 0) : xAV), (orv xE0 [(1, 200, 10, (.negSucc (nat_lit 0))), (1, 200, 8, (.ofNat (nat_lit 304))), (0, 103, 400, (.ofNat (nat_lit 0))), (1, 200, 7, (.ofNat (nat_lit 297)))] (m, xFTf.take 104, 18420, 1300, L, Xs))) :=
  xev_eq (E := xE0) (F := xFk) (P := xPg) (inl := []) (stop := []) 10 126 113 [(2, 200)] [(2, 297), (2, 200)] (m, xFTf.take 104, 18420, 1300, L, Xs)
set_option maxRecDepth 100000 in
theorem q0n_31 (L : Nat) (Xs : Nat → Int) : xEx xE0 xFk xPg 126 113 [(2, 200)] [(2, 297), (2, 200)] (rdw (wA.drop 100), xFTf.take 104, 18420, 1300, L, Xs) = some (((9, 0) : xAV), (rdw (wA.drop 97), xFTf.take 105, 18820, 1300, L, Xs)) := by
  rw [q0s_31, orv_st (w' := wA.drop 97) (TY' := xFTf.take 105) (SL' := 18820) [(1, 200, 10, (.negSucc (nat_lit 0))), (1, 200, 8, (.ofNat (nat_lit 304))), (0, 103, 400, (.ofNat (nat_lit 0))), (1, 200, 7, (.ofNat (nat_lit 297)))] (by decide +kernel) (by decide +kernel) (by decide +kernel) (by decide +kernel) (by decide +kernel)]
set_option maxRecDepth 1000000 in
set_option maxHeartbeats 40000000 in
theorem q0s_32 (m : Nat → Nat → Int) (L : Nat) (Xs : Nat → Int) : xEx xE0 xFk xPg 0 0 [(2, 305)] [] (m, xFTf.take 106, 18947, 1300, L, Xs) = xEx xE0 xFk xPg 0 44 [(2, 305)] [] (orv xE0 [(1, 305, 5, (.ofNat (nat_lit 310))), (0, 100, 6, (.ofNat (nat_lit 0))), (1, 305, 4, (.ofNat (nat_lit 309))), (0, 100, 6, (.ofNat (nat_lit 0))), (1, 305, 3, (.ofNat (nat_lit 308))), (0, 100, 6, (.ofNat (nat_lit 0))), (1, 305, 2, (.ofNat (nat_lit 307))), (0, 100, 6, (.ofNat (nat_lit 0))), (1, 305, 1, (.ofNat (nat_lit 306))), (0, 100, 6, (.ofNat (nat_lit 0)))] (m, xFTf.take 106, 18947, 1300, L, Xs)) :=
  xev_eq (E := xE0) (F := xFk) (P := xPg) (inl := []) (stop := [44]) 23 0 0 [(2, 305)] [] (m, xFTf.take 106, 18947, 1300, L, Xs)
set_option maxRecDepth 100000 in
theorem q0n_32 (L : Nat) (Xs : Nat → Int) : xEx xE0 xFk xPg 0 0 [(2, 305)] [] (rdw (wA.drop 97), xFTf.take 106, 18947, 1300, L, Xs) = xEx xE0 xFk xPg 0 44 [(2, 305)] [] (rdw (wA.drop 92), xFTf.take 111, 18977, 1300, L, Xs) := by
  rw [q0s_32, orv_st (w' := wA.drop 92) (TY' := xFTf.take 111) (SL' := 18977) [(1, 305, 5, (.ofNat (nat_lit 310))), (0, 100, 6, (.ofNat (nat_lit 0))), (1, 305, 4, (.ofNat (nat_lit 309))), (0, 100, 6, (.ofNat (nat_lit 0))), (1, 305, 3, (.ofNat (nat_lit 308))), (0, 100, 6, (.ofNat (nat_lit 0))), (1, 305, 2, (.ofNat (nat_lit 307))), (0, 100, 6, (.ofNat (nat_lit 0))), (1, 305, 1, (.ofNat (nat_lit 306))), (0, 100, 6, (.ofNat (nat_lit 0)))] (by decide +kernel) (by decide +kernel) (by decide +kernel) (by decide +kernel) (by decide +kernel)]
set_option maxRecDepth 1000000 in
set_option maxHeartbeats 40000000 in
theorem q0s_33 (m : Nat → Nat → Int) (L : Nat) (Xs : Nat → Int) : xEx xE0 xFk xPg 0 44 [(2, 305)] [] (m, xFTf.take 111, 18977, 1300, L, Xs) = xEx xE0 xFk xPg 0 85 [(2, 305)] [] (orv xE0 [(1, 305, 12, (.ofNat (nat_lit 315))), (0, 100, 150, (.ofNat (nat_lit 0))), (1, 305, 10, (.ofNat (nat_lit 314))), (0, 100, 8, (.ofNat (nat_lit 0))), (1, 305, 9, (.ofNat (nat_lit 313))), (0, 100, 8, (.ofNat (nat_lit 0))), (1, 305, 8, (.ofNat (nat_lit 312))), (0, 100, 8, (.ofNat (nat_lit 0))), (1, 305, 7, (.ofNat (nat_lit 311))), (0, 100, 8, (.ofNat (nat_lit 0)))] (m, xFTf.take 111, 18977, 1300, L, Xs)) :=
  xev_eq (E := xE0) (F := xFk) (P := xPg) (inl := []) (stop := [85]) 21 0 44 [(2, 305)] [] (m, xFTf.take 111, 18977, 1300, L, Xs)
set_option maxRecDepth 100000 in
theorem q0n_33 (L : Nat) (Xs : Nat → Int) : xEx xE0 xFk xPg 0 44 [(2, 305)] [] (rdw (wA.drop 92), xFTf.take 111, 18977, 1300, L, Xs) = xEx xE0 xFk xPg 0 85 [(2, 305)] [] (rdw (wA.drop 87), xFTf.take 116, 19159, 1300, L, Xs) := by
  rw [q0s_33, orv_st (w' := wA.drop 87) (TY' := xFTf.take 116) (SL' := 19159) [(1, 305, 12, (.ofNat (nat_lit 315))), (0, 100, 150, (.ofNat (nat_lit 0))), (1, 305, 10, (.ofNat (nat_lit 314))), (0, 100, 8, (.ofNat (nat_lit 0))), (1, 305, 9, (.ofNat (nat_lit 313))), (0, 100, 8, (.ofNat (nat_lit 0))), (1, 305, 8, (.ofNat (nat_lit 312))), (0, 100, 8, (.ofNat (nat_lit 0))), (1, 305, 7, (.ofNat (nat_lit 311))), (0, 100, 8, (.ofNat (nat_lit 0)))] (by decide +kernel) (by decide +kernel) (by decide +kernel) (by decide +kernel) (by decide +kernel)]
set_option maxRecDepth 1000000 in
set_option maxHeartbeats 40000000 in
theorem q0s_34 (m : Nat → Nat → Int) (L : Nat) (Xs : Nat → Int) : xEx xE0 xFk xPg 0 85 [(2, 305)] [] (m, xFTf.take 116, 19159, 1300, L, Xs) = xEx xE0 xFk xPg 0 130 [(2, 305)] [] (orv xE0 [(1, 305, 18, (.ofNat (nat_lit 320))), (0, 100, 600, (.ofNat (nat_lit 0))), (1, 305, 17, (.ofNat (nat_lit 319))), (0, 100, 600, (.ofNat (nat_lit 0))), (1, 305, 16, (.ofNat (nat_lit 318))), (0, 100, 600, (.ofNat (nat_lit 0))), (1, 305, 14, (.ofNat (nat_lit 317))), (0, 100, 150, (.ofNat (nat_lit 0))), (1, 305, 13, (.ofNat (nat_lit 316))), (0, 100, 150, (.ofNat (nat_lit 0)))] (m, xFTf.take 116, 19159, 1300, L, Xs)) :=
  xev_eq (E := xE0) (F := xFk) (P := xPg) (inl := []) (stop := [130]) 21 0 85 [(2, 305)] [] (m, xFTf.take 116, 19159, 1300, L, Xs)
set_option maxRecDepth 100000 in
theorem q0n_34 (L : Nat) (Xs : Nat → Int) : xEx xE0 xFk xPg 0 85 [(2, 305)] [] (rdw (wA.drop 87), xFTf.take 116, 19159, 1300, L, Xs) = xEx xE0 xFk xPg 0 130 [(2, 305)] [] (rdw (wA.drop 82), xFTf.take 121, 21259, 1300, L, Xs) := by
  rw [q0s_34, orv_st (w' := wA.drop 82) (TY' := xFTf.take 121) (SL' := 21259) [(1, 305, 18, (.ofNat (nat_lit 320))), (0, 100, 600, (.ofNat (nat_lit 0))), (1, 305, 17, (.ofNat (nat_lit 319))), (0, 100, 600, (.ofNat (nat_lit 0))), (1, 305, 16, (.ofNat (nat_lit 318))), (0, 100, 600, (.ofNat (nat_lit 0))), (1, 305, 14, (.ofNat (nat_lit 317))), (0, 100, 150, (.ofNat (nat_lit 0))), (1, 305, 13, (.ofNat (nat_lit 316))), (0, 100, 150, (.ofNat (nat_lit 0)))] (by decide +kernel) (by decide +kernel) (by decide +kernel) (by decide +kernel) (by decide +kernel)]
set_option maxRecDepth 1000000 in
set_option maxHeartbeats 40000000 in
theorem q0s_35 (m : Nat → Nat → Int) (L : Nat) (Xs : Nat → Int) : xEx xE0 xFk xPg 0 130 [(2, 305)] [] (m, xFTf.take 121, 21259, 1300, L, Xs) = xEx xE0 xFk xPg 0 174 [(2, 305)] [] (orv xE0 [(1, 305, 26, (.ofNat (nat_lit 325))), (0, 100, 60, (.ofNat (nat_lit 0))), (1, 305, 24, (.ofNat (nat_lit 324))), (0, 100, 600, (.ofNat (nat_lit 0))), (1, 305, 21, (.ofNat (nat_lit 323))), (0, 100, 600, (.ofNat (nat_lit 0))), (1, 305, 20, (.ofNat (nat_lit 322))), (0, 100, 600, (.ofNat (nat_lit 0))), (1, 305, 19, (.ofNat (nat_lit 321))), (0, 100, 600, (.ofNat (nat_lit 0)))] (m, xFTf.take 121, 21259, 1300, L, Xs)) :=
  xev_eq (E := xE0) (F := xFk) (P := xPg) (inl := []) (stop := [174]) 21 0 130 [(2, 305)] [] (m, xFTf.take 121, 21259, 1300, L, Xs)
set_option maxRecDepth 100000 in
theorem q0n_35 (L : Nat) (Xs : Nat → Int) : xEx xE0 xFk xPg 0 130 [(2, 305)] [] (rdw (wA.drop 82), xFTf.take 121, 21259, 1300, L, Xs) = xEx xE0 xFk xPg 0 174 [(2, 305)] [] (rdw (wA.drop 77), xFTf.take 126, 23719, 1300, L, Xs) := by
  rw [q0s_35, orv_st (w' := wA.drop 77) (TY' := xFTf.take 126) (SL' := 23719) [(1, 305, 26, (.ofNat (nat_lit 325))), (0, 100, 60, (.ofNat (nat_lit 0))), (1, 305, 24, (.ofNat (nat_lit 324))), (0, 100, 600, (.ofNat (nat_lit 0))), (1, 305, 21, (.ofNat (nat_lit 323))), (0, 100, 600, (.ofNat (nat_lit 0))), (1, 305, 20, (.ofNat (nat_lit 322))), (0, 100, 600, (.ofNat (nat_lit 0))), (1, 305, 19, (.ofNat (nat_lit 321))), (0, 100, 600, (.ofNat (nat_lit 0)))] (by decide +kernel) (by decide +kernel) (by decide +kernel) (by decide +kernel) (by decide +kernel)]
set_option maxRecDepth 1000000 in
set_option maxHeartbeats 40000000 in
theorem q0s_36 (m : Nat → Nat → Int) (L : Nat) (Xs : Nat → Int) : xEx xE0 xFk xPg 0 174 [(2, 305)] [] (m, xFTf.take 126, 23719, 1300, L, Xs) = xEx xE0 xFk xPg 0 221 [(2, 305)] [] (orv xE0 [(1, 305, 31, (.ofNat (nat_lit 329))), (1, 329, 3, (.ofNat (nat_lit 1))), (1, 329, 2, (.ofNat (nat_lit 1))), (1, 329, 1, (.ofNat (nat_lit 1))), (1, 329, 0, (.ofNat (nat_lit 1))), (0, 100, 4, (.ofNat (nat_lit 0))), (1, 305, 29, (.ofNat (nat_lit 328))), (0, 100, 60, (.ofNat (nat_lit 0))), (1, 305, 28, (.ofNat (nat_lit 327))), (0, 100, 60, (.ofNat (nat_lit 0))), (1, 305, 27, (.ofNat (nat_lit 326))), (0, 100, 60, (.ofNat (nat_lit 0)))] (m, xFTf.take 126, 23719, 1300, L, Xs)) :=
  xev_eq (E := xE0) (F := xFk) (P := xPg) (inl := []) (stop := [221]) 33 0 174 [(2, 305)] [] (m, xFTf.take 126, 23719, 1300, L, Xs)
set_option maxRecDepth 100000 in
theorem q0n_36 (L : Nat) (Xs : Nat → Int) : xEx xE0 xFk xPg 0 174 [(2, 305)] [] (rdw (wA.drop 77), xFTf.take 126, 23719, 1300, L, Xs) = xEx xE0 xFk xPg 0 221 [(2, 305)] [] (rdw (wA.drop 69), xFTf.take 130, 23903, 1300, L, Xs) := by
  rw [q0s_36, orv_st (w' := wA.drop 69) (TY' := xFTf.take 130) (SL' := 23903) [(1, 305, 31, (.ofNat (nat_lit 329))), (1, 329, 3, (.ofNat (nat_lit 1))), (1, 329, 2, (.ofNat (nat_lit 1))), (1, 329, 1, (.ofNat (nat_lit 1))), (1, 329, 0, (.ofNat (nat_lit 1))), (0, 100, 4, (.ofNat (nat_lit 0))), (1, 305, 29, (.ofNat (nat_lit 328))), (0, 100, 60, (.ofNat (nat_lit 0))), (1, 305, 28, (.ofNat (nat_lit 327))), (0, 100, 60, (.ofNat (nat_lit 0))), (1, 305, 27, (.ofNat (nat_lit 326))), (0, 100, 60, (.ofNat (nat_lit 0)))] (by decide +kernel) (by decide +kernel) (by decide +kernel) (by decide +kernel) (by decide +kernel)]
set_option maxRecDepth 1000000 in
set_option maxHeartbeats 40000000 in
theorem q0s_37 (m : Nat → Nat → Int) (L : Nat) (Xs : Nat → Int) : xEx xE0 xFk xPg 0 221 [(2, 305)] [] (m, xFTf.take 130, 23903, 1300, L, Xs) = xEx xE0 xFk xPg 0 267 [(2, 305)] [] (orv xE0 [(1, 305, 38, (.ofNat (nat_lit 334))), (0, 100, 60, (.ofNat (nat_lit 0))), (1, 305, 37, (.ofNat (nat_lit 333))), (0, 100, 60, (.ofNat (nat_lit 0))), (1, 305, 35, (.ofNat (nat_lit 332))), (0, 100, 60, (.ofNat (nat_lit 0))), (1, 305, 34, (.ofNat (nat_lit 331))), (0, 100, 60, (.ofNat (nat_lit 0))), (1, 305, 33, (.ofNat (nat_lit 330))), (0, 100, 60, (.ofNat (nat_lit 0))), (1, 305, 32, (.ofNat (nat_lit 100)))] (m, xFTf.take 130, 23903, 1300, L, Xs)) :=
  xev_eq (E := xE0) (F := xFk) (P := xPg) (inl := []) (stop := [267]) 24 0 221 [(2, 305)] [] (m, xFTf.take 130, 23903, 1300, L, Xs)
set_option maxRecDepth 100000 in
theorem q0n_37 (L : Nat) (Xs : Nat → Int) : xEx xE0 xFk xPg 0 221 [(2, 305)] [] (rdw (wA.drop 69), xFTf.take 130, 23903, 1300, L, Xs) = xEx xE0 xFk xPg 0 267 [(2, 305)] [] (rdw (wA.drop 63), xFTf.take 135, 24203, 1300, L, Xs) := by
  rw [q0s_37, orv_st (w' := wA.drop 63) (TY' := xFTf.take 135) (SL' := 24203) [(1, 305, 38, (.ofNat (nat_lit 334))), (0, 100, 60, (.ofNat (nat_lit 0))), (1, 305, 37, (.ofNat (nat_lit 333))), (0, 100, 60, (.ofNat (nat_lit 0))), (1, 305, 35, (.ofNat (nat_lit 332))), (0, 100, 60, (.ofNat (nat_lit 0))), (1, 305, 34, (.ofNat (nat_lit 331))), (0, 100, 60, (.ofNat (nat_lit 0))), (1, 305, 33, (.ofNat (nat_lit 330))), (0, 100, 60, (.ofNat (nat_lit 0))), (1, 305, 32, (.ofNat (nat_lit 100)))] (by decide +kernel) (by decide +kernel) (by decide +kernel) (by decide +kernel) (by decide +kernel)]
set_option maxRecDepth 1000000 in
set_option maxHeartbeats 40000000 in
theorem q0s_38 (m : Nat → Nat → Int) (L : Nat) (Xs : Nat → Int) : xEx xE0 xFk xPg 0 267 [(2, 305)] [] (m, xFTf.take 135, 24203, 1300, L, Xs) = xEx xE0 xFk xPg 0 309 [(2, 305)] [] (orv xE0 [(1, 305, 44, (.ofNat (nat_lit 339))), (0, 100, 9001, (.ofNat (nat_lit 0))), (1, 305, 43, (.ofNat (nat_lit 338))), (0, 100, 9001, (.ofNat (nat_lit 0))), (1, 305, 41, (.ofNat (nat_lit 337))), (0, 100, 60, (.ofNat (nat_lit 0))), (1, 305, 40, (.ofNat (nat_lit 336))), (0, 100, 60, (.ofNat (nat_lit 0))), (1, 305, 39, (.ofNat (nat_lit 335))), (0, 100, 60, (.ofNat (nat_lit 0)))] (m, xFTf.take 135, 24203, 1300, L, Xs)) :=
  xev_eq (E := xE0) (F := xFk) (P := xPg) (inl := []) (stop := [309]) 21 0 267 [(2, 305)] [] (m, xFTf.take 135, 24203, 1300, L, Xs)
set_option maxRecDepth 100000 in
theorem q0n_38 (L : Nat) (Xs : Nat → Int) : xEx xE0 xFk xPg 0 267 [(2, 305)] [] (rdw (wA.drop 63), xFTf.take 135, 24203, 1300, L, Xs) = xEx xE0 xFk xPg 0 309 [(2, 305)] [] (rdw (wA.drop 58), xFTf.take 140, 42385, 1300, L, Xs) := by
  rw [q0s_38, orv_st (w' := wA.drop 58) (TY' := xFTf.take 140) (SL' := 42385) [(1, 305, 44, (.ofNat (nat_lit 339))), (0, 100, 9001, (.ofNat (nat_lit 0))), (1, 305, 43, (.ofNat (nat_lit 338))), (0, 100, 9001, (.ofNat (nat_lit 0))), (1, 305, 41, (.ofNat (nat_lit 337))), (0, 100, 60, (.ofNat (nat_lit 0))), (1, 305, 40, (.ofNat (nat_lit 336))), (0, 100, 60, (.ofNat (nat_lit 0))), (1, 305, 39, (.ofNat (nat_lit 335))), (0, 100, 60, (.ofNat (nat_lit 0)))] (by decide +kernel) (by decide +kernel) (by decide +kernel) (by decide +kernel) (by decide +kernel)]
set_option maxRecDepth 1000000 in
set_option maxHeartbeats 40000000 in
theorem q0s_39 (m : Nat → Nat → Int) (L : Nat) (Xs : Nat → Int) : xEx xE0 xFk xPg 0 309 [(2, 305)] [] (m, xFTf.take 140, 42385, 1300, L, Xs) = xEx xE0 xFk xPg 0 350 [(2, 305)] [] (orv xE0 [(1, 305, 50, (.ofNat (nat_lit 344))), (0, 100, 200, (.ofNat (nat_lit 0))), (1, 305, 48, (.ofNat (nat_lit 343))), (0, 100, 8, (.ofNat (nat_lit 0))), (1, 305, 47, (.ofNat (nat_lit 342))), (0, 100, 8, (.ofNat (nat_lit 0))), (1, 305, 46, (.ofNat (nat_lit 341))), (0, 100, 8, (.ofNat (nat_lit 0))), (1, 305, 45, (.ofNat (nat_lit 340))), (0, 100, 6, (.ofNat (nat_lit 0)))] (m, xFTf.take 140, 42385, 1300, L, Xs)) :=
  xev_eq (E := xE0) (F := xFk) (P := xPg) (inl := []) (stop := [350]) 21 0 309 [(2, 305)] [] (m, xFTf.take 140, 42385, 1300, L, Xs)
set_option maxRecDepth 100000 in
theorem q0n_39 (L : Nat) (Xs : Nat → Int) : xEx xE0 xFk xPg 0 309 [(2, 305)] [] (rdw (wA.drop 58), xFTf.take 140, 42385, 1300, L, Xs) = xEx xE0 xFk xPg 0 350 [(2, 305)] [] (rdw (wA.drop 53), xFTf.take 145, 42615, 1300, L, Xs) := by
  rw [q0s_39, orv_st (w' := wA.drop 53) (TY' := xFTf.take 145) (SL' := 42615) [(1, 305, 50, (.ofNat (nat_lit 344))), (0, 100, 200, (.ofNat (nat_lit 0))), (1, 305, 48, (.ofNat (nat_lit 343))), (0, 100, 8, (.ofNat (nat_lit 0))), (1, 305, 47, (.ofNat (nat_lit 342))), (0, 100, 8, (.ofNat (nat_lit 0))), (1, 305, 46, (.ofNat (nat_lit 341))), (0, 100, 8, (.ofNat (nat_lit 0))), (1, 305, 45, (.ofNat (nat_lit 340))), (0, 100, 6, (.ofNat (nat_lit 0)))] (by decide +kernel) (by decide +kernel) (by decide +kernel) (by decide +kernel) (by decide +kernel)]
set_option maxRecDepth 1000000 in
set_option maxHeartbeats 40000000 in
theorem q0s_40 (m : Nat → Nat → Int) (L : Nat) (Xs : Nat → Int) : xEx xE0 xFk xPg 0 350 [(2, 305)] [] (m, xFTf.take 145, 42615, 1300, L, Xs) = xEx xE0 xFk xPg 0 395 [(2, 305)] [] (orv xE0 [(1, 305, 55, (.ofNat (nat_lit 349))), (0, 100, 200, (.ofNat (nat_lit 0))), (1, 305, 54, (.ofNat (nat_lit 348))), (0, 100, 200, (.ofNat (nat_lit 0))), (1, 305, 53, (.ofNat (nat_lit 347))), (0, 100, 200, (.ofNat (nat_lit 0))), (1, 305, 52, (.ofNat (nat_lit 346))), (0, 100, 200, (.ofNat (nat_lit 0))), (1, 305, 51, (.ofNat (nat_lit 345))), (0, 100, 200, (.ofNat (nat_lit 0)))] (m, xFTf.take 145, 42615, 1300, L, Xs)) :=
  xev_eq (E := xE0) (F := xFk) (P := xPg) (inl := []) (stop := [395]) 21 0 350 [(2, 305)] [] (m, xFTf.take 145, 42615, 1300, L, Xs)
set_option maxRecDepth 100000 in
theorem q0n_40 (L : Nat) (Xs : Nat → Int) : xEx xE0 xFk xPg 0 350 [(2, 305)] [] (rdw (wA.drop 53), xFTf.take 145, 42615, 1300, L, Xs) = xEx xE0 xFk xPg 0 395 [(2, 305)] [] (rdw (wA.drop 48), xFTf.take 150, 43615, 1300, L, Xs) := by
  rw [q0s_40, orv_st (w' := wA.drop 48) (TY' := xFTf.take 150) (SL' := 43615) [(1, 305, 55, (.ofNat (nat_lit 349))), (0, 100, 200, (.ofNat (nat_lit 0))), (1, 305, 54, (.ofNat (nat_lit 348))), (0, 100, 200, (.ofNat (nat_lit 0))), (1, 305, 53, (.ofNat (nat_lit 347))), (0, 100, 200, (.ofNat (nat_lit 0))), (1, 305, 52, (.ofNat (nat_lit 346))), (0, 100, 200, (.ofNat (nat_lit 0))), (1, 305, 51, (.ofNat (nat_lit 345))), (0, 100, 200, (.ofNat (nat_lit 0)))] (by decide +kernel) (by decide +kernel) (by decide +kernel) (by decide +kernel) (by decide +kernel)]
set_option maxRecDepth 1000000 in
set_option maxHeartbeats 40000000 in
theorem q0s_41 (m : Nat → Nat → Int) (L : Nat) (Xs : Nat → Int) : xEx xE0 xFk xPg 0 395 [(2, 305)] [] (m, xFTf.take 150, 43615, 1300, L, Xs) = xEx xE0 xFk xPg 0 440 [(2, 305)] [] (orv xE0 [(1, 305, 61, (.ofNat (nat_lit 354))), (0, 100, 3300, (.ofNat (nat_lit 0))), (1, 305, 60, (.ofNat (nat_lit 353))), (0, 100, 3300, (.ofNat (nat_lit 0))), (1, 305, 59, (.ofNat (nat_lit 352))), (0, 100, 3300, (.ofNat (nat_lit 0))), (1, 305, 58, (.ofNat (nat_lit 351))), (0, 100, 3300, (.ofNat (nat_lit 0))), (1, 305, 56, (.ofNat (nat_lit 350))), (0, 101, 200, (.ofNat (nat_lit 0)))] (m, xFTf.take 150, 43615, 1300, L, Xs)) :=
  xev_eq (E := xE0) (F := xFk) (P := xPg) (inl := []) (stop := [440]) 21 0 395 [(2, 305)] [] (m, xFTf.take 150, 43615, 1300, L, Xs)
set_option maxRecDepth 100000 in
theorem q0n_41 (L : Nat) (Xs : Nat → Int) : xEx xE0 xFk xPg 0 395 [(2, 305)] [] (rdw (wA.drop 48), xFTf.take 150, 43615, 1300, L, Xs) = xEx xE0 xFk xPg 0 440 [(2, 305)] [] (rdw (wA.drop 43), xFTf.take 155, 57015, 1300, L, Xs) := by
  rw [q0s_41, orv_st (w' := wA.drop 43) (TY' := xFTf.take 155) (SL' := 57015) [(1, 305, 61, (.ofNat (nat_lit 354))), (0, 100, 3300, (.ofNat (nat_lit 0))), (1, 305, 60, (.ofNat (nat_lit 353))), (0, 100, 3300, (.ofNat (nat_lit 0))), (1, 305, 59, (.ofNat (nat_lit 352))), (0, 100, 3300, (.ofNat (nat_lit 0))), (1, 305, 58, (.ofNat (nat_lit 351))), (0, 100, 3300, (.ofNat (nat_lit 0))), (1, 305, 56, (.ofNat (nat_lit 350))), (0, 101, 200, (.ofNat (nat_lit 0)))] (by decide +kernel) (by decide +kernel) (by decide +kernel) (by decide +kernel) (by decide +kernel)]
set_option maxRecDepth 1000000 in
set_option maxHeartbeats 40000000 in
theorem q0s_42 (m : Nat → Nat → Int) (L : Nat) (Xs : Nat → Int) : xEx xE0 xFk xPg 0 440 [(2, 305)] [] (m, xFTf.take 155, 57015, 1300, L, Xs) = xEx xE0 xFk xPg 0 490 [(2, 305)] [] (orv xE0 [(1, 305, 78, (.ofNat (nat_lit 359))), (0, 100, 500, (.ofNat (nat_lit 0))), (1, 305, 77, (.ofNat (nat_lit 358))), (0, 100, 500, (.ofNat (nat_lit 0))), (1, 305, 67, (.negSucc (nat_lit 0))), (1, 305, 65, (.ofNat (nat_lit 357))), (0, 102, 400, (.ofNat (nat_lit 0))), (1, 305, 63, (.ofNat (nat_lit 356))), (0, 101, 3300, (.ofNat (nat_lit 0))), (1, 305, 62, (.ofNat (nat_lit 355))), (0, 100, 3300, (.ofNat (nat_lit 0)))] (m, xFTf.take 155, 57015, 1300, L, Xs)) :=
  xev_eq (E := xE0) (F := xFk) (P := xPg) (inl := []) (stop := [490]) 24 0 440 [(2, 305)] [] (m, xFTf.take 155, 57015, 1300, L, Xs)
set_option maxRecDepth 100000 in
theorem q0n_42 (L : Nat) (Xs : Nat → Int) : xEx xE0 xFk xPg 0 440 [(2, 305)] [] (rdw (wA.drop 43), xFTf.take 155, 57015, 1300, L, Xs) = xEx xE0 xFk xPg 0 490 [(2, 305)] [] (rdw (wA.drop 37), xFTf.take 160, 65015, 1300, L, Xs) := by
  rw [q0s_42, orv_st (w' := wA.drop 37) (TY' := xFTf.take 160) (SL' := 65015) [(1, 305, 78, (.ofNat (nat_lit 359))), (0, 100, 500, (.ofNat (nat_lit 0))), (1, 305, 77, (.ofNat (nat_lit 358))), (0, 100, 500, (.ofNat (nat_lit 0))), (1, 305, 67, (.negSucc (nat_lit 0))), (1, 305, 65, (.ofNat (nat_lit 357))), (0, 102, 400, (.ofNat (nat_lit 0))), (1, 305, 63, (.ofNat (nat_lit 356))), (0, 101, 3300, (.ofNat (nat_lit 0))), (1, 305, 62, (.ofNat (nat_lit 355))), (0, 100, 3300, (.ofNat (nat_lit 0)))] (by decide +kernel) (by decide +kernel) (by decide +kernel) (by decide +kernel) (by decide +kernel)]
set_option maxRecDepth 1000000 in
set_option maxHeartbeats 40000000 in
theorem q0s_43 (m : Nat → Nat → Int) (L : Nat) (Xs : Nat → Int) : xEx xE0 xFk xPg 0 490 [(2, 305)] [] (m, xFTf.take 160, 65015, 1300, L, Xs) = xEx xE0 xFk xPg 0 534 [(2, 305)] [] (orv xE0 [(1, 305, 85, (.ofNat (nat_lit 364))), (0, 101, 24, (.ofNat (nat_lit 0))), (1, 305, 84, (.ofNat (nat_lit 363))), (0, 101, 3300, (.ofNat (nat_lit 0))), (1, 305, 81, (.ofNat (nat_lit 362))), (0, 100, 500, (.ofNat (nat_lit 0))), (1, 305, 80, (.ofNat (nat_lit 361))), (0, 100, 500, (.ofNat (nat_lit 0))), (1, 305, 79, (.ofNat (nat_lit 360))), (0, 100, 500, (.ofNat (nat_lit 0)))] (m, xFTf.take 160, 65015, 1300, L, Xs)) :=
  xev_eq (E := xE0) (F := xFk) (P := xPg) (inl := []) (stop := [534]) 21 0 490 [(2, 305)] [] (m, xFTf.take 160, 65015, 1300, L, Xs)
set_option maxRecDepth 100000 in
theorem q0n_43 (L : Nat) (Xs : Nat → Int) : xEx xE0 xFk xPg 0 490 [(2, 305)] [] (rdw (wA.drop 37), xFTf.take 160, 65015, 1300, L, Xs) = xEx xE0 xFk xPg 0 534 [(2, 305)] [] (rdw (wA.drop 32), xFTf.take 165, 69839, 1300, L, Xs) := by
  rw [q0s_43, orv_st (w' := wA.drop 32) (TY' := xFTf.take 165) (SL' := 69839) [(1, 305, 85, (.ofNat (nat_lit 364))), (0, 101, 24, (.ofNat (nat_lit 0))), (1, 305, 84, (.ofNat (nat_lit 363))), (0, 101, 3300, (.ofNat (nat_lit 0))), (1, 305, 81, (.ofNat (nat_lit 362))), (0, 100, 500, (.ofNat (nat_lit 0))), (1, 305, 80, (.ofNat (nat_lit 361))), (0, 100, 500, (.ofNat (nat_lit 0))), (1, 305, 79, (.ofNat (nat_lit 360))), (0, 100, 500, (.ofNat (nat_lit 0)))] (by decide +kernel) (by decide +kernel) (by decide +kernel) (by decide +kernel) (by decide +kernel)]
set_option maxRecDepth 1000000 in
set_option maxHeartbeats 40000000 in
theorem q0s_44 (m : Nat → Nat → Int) (L : Nat) (Xs : Nat → Int) : xEx xE0 xFk xPg 0 534 [(2, 305)] [] (m, xFTf.take 165, 69839, 1300, L, Xs) = xEx xE0 xFk xPg 0 572 [(2, 305)] [] (orv xE0 [(1, 305, 90, (.ofNat (nat_lit 369))), (0, 100, 336, (.ofNat (nat_lit 0))), (1, 305, 89, (.ofNat (nat_lit 368))), (0, 101, 3, (.ofNat (nat_lit 0))), (1, 305, 88, (.ofNat (nat_lit 367))), (0, 101, 3, (.ofNat (nat_lit 0))), (1, 305, 87, (.ofNat (nat_lit 366))), (0, 101, 3, (.ofNat (nat_lit 0))), (1, 305, 86, (.ofNat (nat_lit 365))), (0, 101, 10, (.ofNat (nat_lit 0)))] (m, xFTf.take 165, 69839, 1300, L, Xs)) :=
  xev_eq (E := xE0) (F := xFk) (P := xPg) (inl := []) (stop := [572]) 21 0 534 [(2, 305)] [] (m, xFTf.take 165, 69839, 1300, L, Xs)
set_option maxRecDepth 100000 in
theorem q0n_44 (L : Nat) (Xs : Nat → Int) : xEx xE0 xFk xPg 0 534 [(2, 305)] [] (rdw (wA.drop 32), xFTf.take 165, 69839, 1300, L, Xs) = xEx xE0 xFk xPg 0 572 [(2, 305)] [] (rdw (wA.drop 27), xFTf.take 170, 70194, 1300, L, Xs) := by
  rw [q0s_44, orv_st (w' := wA.drop 27) (TY' := xFTf.take 170) (SL' := 70194) [(1, 305, 90, (.ofNat (nat_lit 369))), (0, 100, 336, (.ofNat (nat_lit 0))), (1, 305, 89, (.ofNat (nat_lit 368))), (0, 101, 3, (.ofNat (nat_lit 0))), (1, 305, 88, (.ofNat (nat_lit 367))), (0, 101, 3, (.ofNat (nat_lit 0))), (1, 305, 87, (.ofNat (nat_lit 366))), (0, 101, 3, (.ofNat (nat_lit 0))), (1, 305, 86, (.ofNat (nat_lit 365))), (0, 101, 10, (.ofNat (nat_lit 0)))] (by decide +kernel) (by decide +kernel) (by decide +kernel) (by decide +kernel) (by decide +kernel)]
set_option maxRecDepth 1000000 in
set_option maxHeartbeats 40000000 in
theorem q0s_45 (m : Nat → Nat → Int) (L : Nat) (Xs : Nat → Int) : xEx xE0 xFk xPg 0 572 [(2, 305)] [] (m, xFTf.take 170, 70194, 1300, L, Xs) = xEx xE0 xFk xPg 0 617 [(2, 305)] [] (orv xE0 [(1, 305, 97, (.ofNat (nat_lit 374))), (0, 100, 500, (.ofNat (nat_lit 0))), (1, 305, 96, (.ofNat (nat_lit 373))), (0, 100, 500, (.ofNat (nat_lit 0))), (1, 305, 95, (.ofNat (nat_lit 372))), (0, 100, 500, (.ofNat (nat_lit 0))), (1, 305, 94, (.ofNat (nat_lit 371))), (0, 100, 500, (.ofNat (nat_lit 0))), (1, 305, 91, (.ofNat (nat_lit 370))), (0, 102, 1400, (.ofNat (nat_lit 0)))] (m, xFTf.take 170, 70194, 1300, L, Xs)) :=
  xev_eq (E := xE0) (F := xFk) (P := xPg) (inl := []) (stop := [617]) 21 0 572 [(2, 305)] [] (m, xFTf.take 170, 70194, 1300, L, Xs)
set_option maxRecDepth 100000 in
theorem q0n_45 (L : Nat) (Xs : Nat → Int) : xEx xE0 xFk xPg 0 572 [(2, 305)] [] (rdw (wA.drop 27), xFTf.take 170, 70194, 1300, L, Xs) = xEx xE0 xFk xPg 0 617 [(2, 305)] [] (rdw (wA.drop 22), xFTf.take 175, 73594, 1300, L, Xs) := by
  rw [q0s_45, orv_st (w' := wA.drop 22) (TY' := xFTf.take 175) (SL' := 73594) [(1, 305, 97, (.ofNat (nat_lit 374))), (0, 100, 500, (.ofNat (nat_lit 0))), (1, 305, 96, (.ofNat (nat_lit 373))), (0, 100, 500, (.ofNat (nat_lit 0))), (1, 305, 95, (.ofNat (nat_lit 372))), (0, 100, 500, (.ofNat (nat_lit 0))), (1, 305, 94, (.ofNat (nat_lit 371))), (0, 100, 500, (.ofNat (nat_lit 0))), (1, 305, 91, (.ofNat (nat_lit 370))), (0, 102, 1400, (.ofNat (nat_lit 0)))] (by decide +kernel) (by decide +kernel) (by decide +kernel) (by decide +kernel) (by decide +kernel)]
set_option maxRecDepth 1000000 in
set_option maxHeartbeats 40000000 in
theorem q0s_46 (m : Nat → Nat → Int) (L : Nat) (Xs : Nat → Int) : xEx xE0 xFk xPg 0 617 [(2, 305)] [] (m, xFTf.take 175, 73594, 1300, L, Xs) = xEx xE0 xFk xPg 0 659 [(2, 305)] [] (orv xE0 [(1, 305, 105, (.ofNat (nat_lit 379))), (0, 100, 7, (.ofNat (nat_lit 0))), (1, 305, 104, (.ofNat (nat_lit 378))), (0, 100, 7, (.ofNat (nat_lit 0))), (1, 305, 103, (.ofNat (nat_lit 1))), (1, 305, 101, (.ofNat (nat_lit 377))), (0, 100, 3, (.ofNat (nat_lit 0))), (1, 305, 100, (.ofNat (nat_lit 376))), (0, 100, 3, (.ofNat (nat_lit 0))), (1, 305, 99, (.ofNat (nat_lit 375))), (0, 100, 3, (.ofNat (nat_lit 0)))] (m, xFTf.take 175, 73594, 1300, L, Xs)) :=
  xev_eq (E := xE0) (F := xFk) (P := xPg) (inl := []) (stop := [659]) 24 0 617 [(2, 305)] [] (m, xFTf.take 175, 73594, 1300, L, Xs)
set_option maxRecDepth 100000 in
theorem q0n_46 (L : Nat) (Xs : Nat → Int) : xEx xE0 xFk xPg 0 617 [(2, 305)] [] (rdw (wA.drop 22), xFTf.take 175, 73594, 1300, L, Xs) = xEx xE0 xFk xPg 0 659 [(2, 305)] [] (rdw (wA.drop 16), xFTf.take 180, 73617, 1300, L, Xs) := by
  rw [q0s_46, orv_st (w' := wA.drop 16) (TY' := xFTf.take 180) (SL' := 73617) [(1, 305, 105, (.ofNat (nat_lit 379))), (0, 100, 7, (.ofNat (nat_lit 0))), (1, 305, 104, (.ofNat (nat_lit 378))), (0, 100, 7, (.ofNat (nat_lit 0))), (1, 305, 103, (.ofNat (nat_lit 1))), (1, 305, 101, (.ofNat (nat_lit 377))), (0, 100, 3, (.ofNat (nat_lit 0))), (1, 305, 100, (.ofNat (nat_lit 376))), (0, 100, 3, (.ofNat (nat_lit 0))), (1, 305, 99, (.ofNat (nat_lit 375))), (0, 100, 3, (.ofNat (nat_lit 0)))] (by decide +kernel) (by decide +kernel) (by decide +kernel) (by decide +kernel) (by decide +kernel)]
set_option maxRecDepth 1000000 in
set_option maxHeartbeats 40000000 in
theorem q0s_47 (m : Nat → Nat → Int) (L : Nat) (Xs : Nat → Int) : xEx xE0 xFk xPg 0 659 [(2, 305)] [] (m, xFTf.take 180, 73617, 1300, L, Xs) = xEx xE0 xFk xPg 0 699 [(2, 305)] [] (orv xE0 [(1, 305, 111, (.ofNat (nat_lit 384))), (0, 100, 7, (.ofNat (nat_lit 0))), (1, 305, 110, (.ofNat (nat_lit 383))), (0, 100, 7, (.ofNat (nat_lit 0))), (1, 305, 109, (.ofNat (nat_lit 382))), (0, 100, 8, (.ofNat (nat_lit 0))), (1, 305, 108, (.ofNat (nat_lit 381))), (0, 100, 8, (.ofNat (nat_lit 0))), (1, 305, 106, (.ofNat (nat_lit 380))), (0, 100, 7, (.ofNat (nat_lit 0)))] (m, xFTf.take 180, 73617, 1300, L, Xs)) :=
  xev_eq (E := xE0) (F := xFk) (P := xPg) (inl := []) (stop := [699]) 21 0 659 [(2, 305)] [] (m, xFTf.take 180, 73617, 1300, L, Xs)
set_option maxRecDepth 100000 in
theorem q0n_47 (L : Nat) (Xs : Nat → Int) : xEx xE0 xFk xPg 0 659 [(2, 305)] [] (rdw (wA.drop 16), xFTf.take 180, 73617, 1300, L, Xs) = xEx xE0 xFk xPg 0 699 [(2, 305)] [] (rdw (wA.drop 11), xFTf.take 185, 73654, 1300, L, Xs) := by
  rw [q0s_47, orv_st (w' := wA.drop 11) (TY' := xFTf.take 185) (SL' := 73654) [(1, 305, 111, (.ofNat (nat_lit 384))), (0, 100, 7, (.ofNat (nat_lit 0))), (1, 305, 110, (.ofNat (nat_lit 383))), (0, 100, 7, (.ofNat (nat_lit 0))), (1, 305, 109, (.ofNat (nat_lit 382))), (0, 100, 8, (.ofNat (nat_lit 0))), (1, 305, 108, (.ofNat (nat_lit 381))), (0, 100, 8, (.ofNat (nat_lit 0))), (1, 305, 106, (.ofNat (nat_lit 380))), (0, 100, 7, (.ofNat (nat_lit 0)))] (by decide +kernel) (by decide +kernel) (by decide +kernel) (by decide +kernel) (by decide +kernel)]
set_option maxRecDepth 1000000 in
set_option maxHeartbeats 40000000 in
theorem q0s_48 (m : Nat → Nat → Int) (L : Nat) (Xs : Nat → Int) : xEx xE0 xFk xPg 0 699 [(2, 305)] [] (m, xFTf.take 185, 73654, 1300, L, Xs) = xEx xE0 xFk xPg 0 736 [(2, 305)] [] (orv xE0 [(1, 305, 120, (.ofNat (nat_lit 389))), (0, 100, 8, (.ofNat (nat_lit 0))), (1, 305, 115, (.ofNat (nat_lit 388))), (0, 104, 16, (.ofNat (nat_lit 0))), (1, 305, 114, (.ofNat (nat_lit 387))), (0, 100, 3, (.ofNat (nat_lit 0))), (1, 305, 113, (.ofNat (nat_lit 386))), (0, 100, 3, (.ofNat (nat_lit 0))), (1, 305, 112, (.ofNat (nat_lit 385))), (0, 100, 3, (.ofNat (nat_lit 0)))] (m, xFTf.take 185, 73654, 1300, L, Xs)) :=
  xev_eq (E := xE0) (F := xFk) (P := xPg) (inl := []) (stop := [736]) 21 0 699 [(2, 305)] [] (m, xFTf.take 185, 73654, 1300, L, Xs)
set_option maxRecDepth 100000 in
theorem q0n_48 (L : Nat) (Xs : Nat → Int) : xEx xE0 xFk xPg 0 699 [(2, 305)] [] (rdw (wA.drop 11), xFTf.take 185, 73654, 1300, L, Xs) = xEx xE0 xFk xPg 0 736 [(2, 305)] [] (rdw (wA.drop 6), xFTf.take 190, 73687, 1300, L, Xs) := by
  rw [q0s_48, orv_st (w' := wA.drop 6) (TY' := xFTf.take 190) (SL' := 73687) [(1, 305, 120, (.ofNat (nat_lit 389))), (0, 100, 8, (.ofNat (nat_lit 0))), (1, 305, 115, (.ofNat (nat_lit 388))), (0, 104, 16, (.ofNat (nat_lit 0))), (1, 305, 114, (.ofNat (nat_lit 387))), (0, 100, 3, (.ofNat (nat_lit 0))), (1, 305, 113, (.ofNat (nat_lit 386))), (0, 100, 3, (.ofNat (nat_lit 0))), (1, 305, 112, (.ofNat (nat_lit 385))), (0, 100, 3, (.ofNat (nat_lit 0)))] (by decide +kernel) (by decide +kernel) (by decide +kernel) (by decide +kernel) (by decide +kernel)]
set_option maxRecDepth 1000000 in
set_option maxHeartbeats 40000000 in
theorem q0s_49 (m : Nat → Nat → Int) (L : Nat) (Xs : Nat → Int) : xEx xE0 xFk xPg 0 736 [(2, 305)] [] (m, xFTf.take 190, 73687, 1300, L, Xs) = some (((9, 0) : xAV), (orv xE0 [(1, 305, 126, (.ofNat (nat_lit 391))), (0, 101, 561, (.ofNat (nat_lit 0))), (1, 305, 125, (.ofNat (nat_lit 390))), (0, 100, 11, (.ofNat (nat_lit 0))), (1, 305, 124, (.ofNat (nat_lit 3))), (1, 305, 123, (.ofNat (nat_lit 1))), (1, 305, 122, (.ofNat (nat_lit 50))), (1, 305, 121, (.ofNat (nat_lit 10)))] (m, xFTf.take 190, 73687, 1300, L, Xs))) :=
  xev_eq (E := xE0) (F := xFk) (P := xPg) (inl := []) (stop := []) 22 0 736 [(2, 305)] [] (m, xFTf.take 190, 73687, 1300, L, Xs)
set_option maxRecDepth 100000 in
theorem q0n_49 (L : Nat) (Xs : Nat → Int) : xEx xE0 xFk xPg 0 736 [(2, 305)] [] (rdw (wA.drop 6), xFTf.take 190, 73687, 1300, L, Xs) = some (((9, 0) : xAV), (rdw (wA.drop 0), xFTf.take 192, 74259, 1300, L, Xs)) := by
  rw [q0s_49, orv_st (w' := wA.drop 0) (TY' := xFTf.take 192) (SL' := 74259) [(1, 305, 126, (.ofNat (nat_lit 391))), (0, 101, 561, (.ofNat (nat_lit 0))), (1, 305, 125, (.ofNat (nat_lit 390))), (0, 100, 11, (.ofNat (nat_lit 0))), (1, 305, 124, (.ofNat (nat_lit 3))), (1, 305, 123, (.ofNat (nat_lit 1))), (1, 305, 122, (.ofNat (nat_lit 50))), (1, 305, 121, (.ofNat (nat_lit 10)))] (by decide +kernel) (by decide +kernel) (by decide +kernel) (by decide +kernel) (by decide +kernel)]
set_option maxRecDepth 100000 in
set_option maxHeartbeats 4000000 in
theorem q0_C (L : Nat) (Xs : Nat → Int) : xEx xE0 xFk xPg 126 0 [(2, 200)] [] (rdw (wA.drop 218), xFTf.take 1, 11, 1300, L, Xs) = some ((9, 0), (rdw (wA.drop 97), xFTf.take 105, 18820, 1300, L, Xs)) := by
  rw [q0n_2]
  rw [q0n_0]
  rw [q0n_1]
  rw [Option.bind_some]
  rw [q0n_5]
  rw [q0n_3]
  rw [q0n_4]
  rw [Option.bind_some]
  rw [q0n_9]
  rw [q0n_6]
  rw [q0n_7]
  rw [q0n_8]
  rw [Option.bind_some]
  rw [q0n_15]
  rw [q0n_10]
  rw [q0n_11]
  rw [q0n_13]
  rw [q0n_12]
  rw [Option.bind_some]
  rw [q0n_14]
  rw [Option.bind_some]
  rw [q0n_19]
  rw [q0n_16]
  rw [q0n_17]
  rw [q0n_18]
  rw [Option.bind_some]
  rw [q0n_23]
  rw [q0n_20]
  rw [q0n_21]
  rw [q0n_22]
  rw [Option.bind_some]
  rw [q0n_27]
  rw [q0n_24]
  rw [q0n_25]
  rw [q0n_26]
  rw [Option.bind_some]
  rw [q0n_30]
  rw [q0n_28]
  rw [q0n_29]
  rw [Option.bind_some]
  rw [q0n_31]
set_option maxRecDepth 100000 in
set_option maxHeartbeats 4000000 in
theorem q0_M (L : Nat) (Xs : Nat → Int) : xEx xE0 xFk xPg 0 0 [(2, 305)] [] (rdw (wA.drop 97), xFTf.take 106, 18947, 1300, L, Xs) = some ((9, 0), (rdw (wA.drop 0), xFTf.take 192, 74259, 1300, L, Xs)) := by
  rw [q0n_32]
  rw [q0n_33]
  rw [q0n_34]
  rw [q0n_35]
  rw [q0n_36]
  rw [q0n_37]
  rw [q0n_38]
  rw [q0n_39]
  rw [q0n_40]
  rw [q0n_41]
  rw [q0n_42]
  rw [q0n_43]
  rw [q0n_44]
  rw [q0n_45]
  rw [q0n_46]
  rw [q0n_47]
  rw [q0n_48]
  rw [q0n_49]
/-- a state ahead of all -/
def s00 (L : Nat) (Xs : Nat → Int) : xS := (fun _ _ => 0, [], 0, 1300, L, Xs)
/-- behind the class's constructor, behind the reference's -/
noncomputable def s01 (L : Nat) (Xs : Nat → Int) : xS := (rdw (wA.drop 97), xFTf.take 105, 18820, 1300, L, Xs)
noncomputable def s02 (L : Nat) (Xs : Nat → Int) : xS := (m0, xFTf, 74259, 1300, L, Xs)
set_option maxRecDepth 100000 in
theorem st0_dr : wA.drop 218 = [] ∧ xFTf.take 1 = [(12, 11)] ∧ xFTf.take 105 ++ [(13, 127)] = xFTf.take 106 ∧ (xFTf.take 105).length = 105 ∧ xFTf.take 192 = xFTf ∧ wA.drop 0 = wA ∧ ((wA.drop 97).all fun q => Nat.blt q.1 305) = true := by decide +kernel
theorem s00_al (L : Nat) (Xs : Nat → Int) : xal xE0 (s00 L Xs) 12 11 = (rdw (wA.drop 218), xFTf.take 1, 11, 1300, L, Xs) := by
  rw [st0_dr.1, st0_dr.2.1]
  show ((fun b j => cond (Nat.beq b (xnew xE0 (s00 L Xs))) 0 0), [(12, 11)], 0 + 11, 1300, L, Xs) = _
  refine congrArg (fun f : Nat → Nat → Int => ((f, [(12, 11)], 11, 1300, L, Xs) : xS)) ?_
  funext b j
  show cond (Nat.beq b (xnew xE0 (s00 L Xs))) 0 0 = (0 : Int)
  cases Nat.beq b (xnew xE0 (s00 L Xs)) <;> rfl
theorem s01_al (L : Nat) (Xs : Nat → Int) : xal xE0 (s01 L Xs) 13 127 = (rdw (wA.drop 97), xFTf.take 106, 18947, 1300, L, Xs) := by
  have hn : xnew xE0 (s01 L Xs) = 305 := by show 200 + (xFTf.take 105).length = 305; rw [st0_dr.2.2.2.1]
  rw [← st0_dr.2.2.1]
  show ((fun b j => cond (Nat.beq b (xnew xE0 (s01 L Xs))) 0 (rdw (wA.drop 97) b j)), xFTf.take 105 ++ [(13, 127)], 18820 + 127, 1300, L, Xs) = _
  refine congrArg (fun f : Nat → Nat → Int => ((f, xFTf.take 105 ++ [(13, 127)], 18947, 1300, L, Xs) : xS)) ?_
  funext b j
  rw [hn]
  cases hb : Nat.beq b 305 with
  | false => rfl
  | true =>
    show (0 : Int) = rdw (wA.drop 97) b j
    rw [Nat.eq_of_beq_eq_true hb]
    exact (rdw_out (fun q hq => by
      have := List.all_eq_true.mp st0_dr.2.2.2.2.2.2 q hq
      unfold Nat.blt at this
      exact Nat.le_of_ble_eq_true this)).symm
theorem q1_C (L : Nat) (Xs : Nat → Int) : xEx xE0 xFk xPg iC_init 0 [(2, 200)] [] (xal xE0 (s00 L Xs) 12 11) = some ((9, 0), s01 L Xs) := by
  rw [s00_al]
  exact q0_C L Xs
theorem q1_M (L : Nat) (Xs : Nat → Int) : xEx xE0 xFk xPg iM_init 0 [(2, 305)] [] (xal xE0 (s01 L Xs) 13 127) = some ((9, 0), s02 L Xs) := by
  rw [s01_al, q0_M, st0_dr.2.2.2.2.1, st0_dr.2.2.2.2.2.1]
  rfl


/-! the constructors' runs, by reckoning -/
set_option maxRecDepth 1000000 in
set_option maxHeartbeats 40000000 in
theorem q0_C (L : Nat) (Xs : Nat → Int) : xEx xE0 xFk xPg iC_init 0 [(2, 200)] [] (xal xE0 (s00 L Xs) 12 11) = some ((9, 0), orv xE0 opC (xal xE0 (s00 L Xs) 12 11)) :=
  xev_eq (E := xE0) (F := xFk) (P := xPg) (inl := [0, 126, 179, 200, 210, 219, 243, 253, 268, 306, 315, 321, 416]) (stop := []) 460 iC_init 0 [(2, 200)] [] (xal xE0 (s00 L Xs) 12 11)
set_option maxRecDepth 1000000 in
set_option maxHeartbeats 40000000 in
theorem q0_M (L : Nat) (Xs : Nat → Int) : xEx xE0 xFk xPg iM_init 0 [(2, 305)] [] (xal xE0 (s01 L Xs) 13 127) = some ((9, 0), orv xE0 opM (xal xE0 (s01 L Xs) 13 127)) :=
  xev_eq (E := xE0) (F := xFk) (P := xPg) (inl := [0, 126, 179, 200, 210, 219, 243, 253, 268, 306, 315, 321, 416]) (stop := []) 460 iM_init 0 [(2, 305)] [] (xal xE0 (s01 L Xs) 13 127)

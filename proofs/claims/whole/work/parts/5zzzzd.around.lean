/-! what stands around a part, the reference -/
section MAR
variable {σ : xS}
theorem M_aro_2_0 {x q : Nat} (hx : x < 3300) (hq : q < 17) (hp : σ.1 351 x = (q : Int)) : X iM_around 0 [(2, 305), (0, 2), (0, (x : Int)), (0, 0), (9, 0)] [] σ = some ((0, aro 2 (q : Int) false), σ) := by
  rw [qM_around_0, if_pos (xin_of (by omega) (by omega)), Int.toNat_natCast, hp]
  show X iM_around 37 [(2, 305), (0, 2), (0, (x : Int)), (0, 0), (0, (q : Int))] [(0, 1)] σ = _
  rw [qM_around_37]
  match q, hq with
  | 0, _ => rfl
  | 1, _ => rfl
  | 2, _ => rfl
  | 3, _ => rfl
  | 4, _ => rfl
  | 5, _ => rfl
  | 6, _ => rfl
  | 7, _ => rfl
  | 8, _ => rfl
  | 9, _ => rfl
  | 10, _ => rfl
  | 11, _ => rfl
  | 12, _ => rfl
  | 13, _ => rfl
  | 14, _ => rfl
  | 15, _ => rfl
  | 16, _ => rfl
  | q + 17, h => omega
theorem M_aro_2_1 {x q : Nat} (hx : x < 3300) (hq : q < 17) (hp : σ.1 351 x = (q : Int)) : X iM_around 0 [(2, 305), (0, 2), (0, (x : Int)), (0, 1), (9, 0)] [] σ = some ((0, aro 2 (q : Int) true), σ) := by
  rw [qM_around_0, if_pos (xin_of (by omega) (by omega)), Int.toNat_natCast, hp]
  show X iM_around 37 [(2, 305), (0, 2), (0, (x : Int)), (0, 1), (0, (q : Int))] [(0, 1)] σ = _
  rw [qM_around_37]
  match q, hq with
  | 0, _ => rfl
  | 1, _ => rfl
  | 2, _ => rfl
  | 3, _ => rfl
  | 4, _ => rfl
  | 5, _ => rfl
  | 6, _ => rfl
  | 7, _ => rfl
  | 8, _ => rfl
  | 9, _ => rfl
  | 10, _ => rfl
  | 11, _ => rfl
  | 12, _ => rfl
  | 13, _ => rfl
  | 14, _ => rfl
  | 15, _ => rfl
  | 16, _ => rfl
  | q + 17, h => omega
theorem M_aro_3_0 {x q : Nat} (hx : x < 3300) (hq : q < 17) (hp : σ.1 351 x = (q : Int)) : X iM_around 0 [(2, 305), (0, 3), (0, (x : Int)), (0, 0), (9, 0)] [] σ = some ((0, aro 3 (q : Int) false), σ) := by
  rw [qM_around_0, if_pos (xin_of (by omega) (by omega)), Int.toNat_natCast, hp]
  show X iM_around 37 [(2, 305), (0, 3), (0, (x : Int)), (0, 0), (0, (q : Int))] [(0, 1)] σ = _
  rw [qM_around_37]
  match q, hq with
  | 0, _ => rfl
  | 1, _ => rfl
  | 2, _ => rfl
  | 3, _ => rfl
  | 4, _ => rfl
  | 5, _ => rfl
  | 6, _ => rfl
  | 7, _ => rfl
  | 8, _ => rfl
  | 9, _ => rfl
  | 10, _ => rfl
  | 11, _ => rfl
  | 12, _ => rfl
  | 13, _ => rfl
  | 14, _ => rfl
  | 15, _ => rfl
  | 16, _ => rfl
  | q + 17, h => omega
theorem M_aro_3_1 {x q : Nat} (hx : x < 3300) (hq : q < 17) (hp : σ.1 351 x = (q : Int)) : X iM_around 0 [(2, 305), (0, 3), (0, (x : Int)), (0, 1), (9, 0)] [] σ = some ((0, aro 3 (q : Int) true), σ) := by
  rw [qM_around_0, if_pos (xin_of (by omega) (by omega)), Int.toNat_natCast, hp]
  show X iM_around 37 [(2, 305), (0, 3), (0, (x : Int)), (0, 1), (0, (q : Int))] [(0, 1)] σ = _
  rw [qM_around_37]
  match q, hq with
  | 0, _ => rfl
  | 1, _ => rfl
  | 2, _ => rfl
  | 3, _ => rfl
  | 4, _ => rfl
  | 5, _ => rfl
  | 6, _ => rfl
  | 7, _ => rfl
  | 8, _ => rfl
  | 9, _ => rfl
  | 10, _ => rfl
  | 11, _ => rfl
  | 12, _ => rfl
  | 13, _ => rfl
  | 14, _ => rfl
  | 15, _ => rfl
  | 16, _ => rfl
  | q + 17, h => omega
theorem M_aro_4_0 {x q : Nat} (hx : x < 3300) (hq : q < 17) (hp : σ.1 351 x = (q : Int)) : X iM_around 0 [(2, 305), (0, 4), (0, (x : Int)), (0, 0), (9, 0)] [] σ = some ((0, aro 4 (q : Int) false), σ) := by
  rw [qM_around_0, if_pos (xin_of (by omega) (by omega)), Int.toNat_natCast, hp]
  show X iM_around 37 [(2, 305), (0, 4), (0, (x : Int)), (0, 0), (0, (q : Int))] [(0, 0)] σ = _
  rw [qM_around_37]
  show X iM_around 69 [(2, 305), (0, 4), (0, (x : Int)), (0, 0), (0, (q : Int))] [(0, 1)] σ = _
  rw [qM_around_69]
  match q, hq with
  | 0, _ => rfl
  | 1, _ => rfl
  | 2, _ => rfl
  | 3, _ => rfl
  | 4, _ => rfl
  | 5, _ => rfl
  | 6, _ => rfl
  | 7, _ => rfl
  | 8, _ => rfl
  | 9, _ => rfl
  | 10, _ => rfl
  | 11, _ => rfl
  | 12, _ => rfl
  | 13, _ => rfl
  | 14, _ => rfl
  | 15, _ => rfl
  | 16, _ => rfl
  | q + 17, h => omega
theorem M_aro_4_1 {x q : Nat} (hx : x < 3300) (hq : q < 17) (hp : σ.1 351 x = (q : Int)) : X iM_around 0 [(2, 305), (0, 4), (0, (x : Int)), (0, 1), (9, 0)] [] σ = some ((0, aro 4 (q : Int) true), σ) := by
  rw [qM_around_0, if_pos (xin_of (by omega) (by omega)), Int.toNat_natCast, hp]
  show X iM_around 37 [(2, 305), (0, 4), (0, (x : Int)), (0, 1), (0, (q : Int))] [(0, 0)] σ = _
  rw [qM_around_37]
  show X iM_around 69 [(2, 305), (0, 4), (0, (x : Int)), (0, 1), (0, (q : Int))] [(0, 1)] σ = _
  rw [qM_around_69]
  match q, hq with
  | 0, _ => rfl
  | 1, _ => rfl
  | 2, _ => rfl
  | 3, _ => rfl
  | 4, _ => rfl
  | 5, _ => rfl
  | 6, _ => rfl
  | 7, _ => rfl
  | 8, _ => rfl
  | 9, _ => rfl
  | 10, _ => rfl
  | 11, _ => rfl
  | 12, _ => rfl
  | 13, _ => rfl
  | 14, _ => rfl
  | 15, _ => rfl
  | 16, _ => rfl
  | q + 17, h => omega
theorem M_aro_5_0 {x q : Nat} (hx : x < 3300) (hq : q < 17) (hp : σ.1 351 x = (q : Int)) : X iM_around 0 [(2, 305), (0, 5), (0, (x : Int)), (0, 0), (9, 0)] [] σ = some ((0, aro 5 (q : Int) false), σ) := by
  rw [qM_around_0, if_pos (xin_of (by omega) (by omega)), Int.toNat_natCast, hp]
  show X iM_around 37 [(2, 305), (0, 5), (0, (x : Int)), (0, 0), (0, (q : Int))] [(0, 0)] σ = _
  rw [qM_around_37]
  show X iM_around 69 [(2, 305), (0, 5), (0, (x : Int)), (0, 0), (0, (q : Int))] [(0, 1)] σ = _
  rw [qM_around_69]
  match q, hq with
  | 0, _ => rfl
  | 1, _ => rfl
  | 2, _ => rfl
  | 3, _ => rfl
  | 4, _ => rfl
  | 5, _ => rfl
  | 6, _ => rfl
  | 7, _ => rfl
  | 8, _ => rfl
  | 9, _ => rfl
  | 10, _ => rfl
  | 11, _ => rfl
  | 12, _ => rfl
  | 13, _ => rfl
  | 14, _ => rfl
  | 15, _ => rfl
  | 16, _ => rfl
  | q + 17, h => omega
theorem M_aro_5_1 {x q : Nat} (hx : x < 3300) (hq : q < 17) (hp : σ.1 351 x = (q : Int)) : X iM_around 0 [(2, 305), (0, 5), (0, (x : Int)), (0, 1), (9, 0)] [] σ = some ((0, aro 5 (q : Int) true), σ) := by
  rw [qM_around_0, if_pos (xin_of (by omega) (by omega)), Int.toNat_natCast, hp]
  show X iM_around 37 [(2, 305), (0, 5), (0, (x : Int)), (0, 1), (0, (q : Int))] [(0, 0)] σ = _
  rw [qM_around_37]
  show X iM_around 69 [(2, 305), (0, 5), (0, (x : Int)), (0, 1), (0, (q : Int))] [(0, 1)] σ = _
  rw [qM_around_69]
  match q, hq with
  | 0, _ => rfl
  | 1, _ => rfl
  | 2, _ => rfl
  | 3, _ => rfl
  | 4, _ => rfl
  | 5, _ => rfl
  | 6, _ => rfl
  | 7, _ => rfl
  | 8, _ => rfl
  | 9, _ => rfl
  | 10, _ => rfl
  | 11, _ => rfl
  | 12, _ => rfl
  | 13, _ => rfl
  | 14, _ => rfl
  | 15, _ => rfl
  | 16, _ => rfl
  | q + 17, h => omega
theorem M_aro_6_0 {x q : Nat} (hx : x < 3300) (hq : q < 17) (hp : σ.1 351 x = (q : Int)) : X iM_around 0 [(2, 305), (0, 6), (0, (x : Int)), (0, 0), (9, 0)] [] σ = some ((0, aro 6 (q : Int) false), σ) := by
  rw [qM_around_0, if_pos (xin_of (by omega) (by omega)), Int.toNat_natCast, hp]
  show X iM_around 37 [(2, 305), (0, 6), (0, (x : Int)), (0, 0), (0, (q : Int))] [(0, 0)] σ = _
  rw [qM_around_37]
  show X iM_around 69 [(2, 305), (0, 6), (0, (x : Int)), (0, 0), (0, (q : Int))] [(0, 1)] σ = _
  rw [qM_around_69]
  match q, hq with
  | 0, _ => rfl
  | 1, _ => rfl
  | 2, _ => rfl
  | 3, _ => rfl
  | 4, _ => rfl
  | 5, _ => rfl
  | 6, _ => rfl
  | 7, _ => rfl
  | 8, _ => rfl
  | 9, _ => rfl
  | 10, _ => rfl
  | 11, _ => rfl
  | 12, _ => rfl
  | 13, _ => rfl
  | 14, _ => rfl
  | 15, _ => rfl
  | 16, _ => rfl
  | q + 17, h => omega
theorem M_aro_6_1 {x q : Nat} (hx : x < 3300) (hq : q < 17) (hp : σ.1 351 x = (q : Int)) : X iM_around 0 [(2, 305), (0, 6), (0, (x : Int)), (0, 1), (9, 0)] [] σ = some ((0, aro 6 (q : Int) true), σ) := by
  rw [qM_around_0, if_pos (xin_of (by omega) (by omega)), Int.toNat_natCast, hp]
  show X iM_around 37 [(2, 305), (0, 6), (0, (x : Int)), (0, 1), (0, (q : Int))] [(0, 0)] σ = _
  rw [qM_around_37]
  show X iM_around 69 [(2, 305), (0, 6), (0, (x : Int)), (0, 1), (0, (q : Int))] [(0, 1)] σ = _
  rw [qM_around_69]
  match q, hq with
  | 0, _ => rfl
  | 1, _ => rfl
  | 2, _ => rfl
  | 3, _ => rfl
  | 4, _ => rfl
  | 5, _ => rfl
  | 6, _ => rfl
  | 7, _ => rfl
  | 8, _ => rfl
  | 9, _ => rfl
  | 10, _ => rfl
  | 11, _ => rfl
  | 12, _ => rfl
  | 13, _ => rfl
  | 14, _ => rfl
  | 15, _ => rfl
  | 16, _ => rfl
  | q + 17, h => omega
theorem M_aro_7_0 {x q : Nat} (hx : x < 3300) (hq : q < 17) (hp : σ.1 351 x = (q : Int)) : X iM_around 0 [(2, 305), (0, 7), (0, (x : Int)), (0, 0), (9, 0)] [] σ = some ((0, aro 7 (q : Int) false), σ) := by
  rw [qM_around_0, if_pos (xin_of (by omega) (by omega)), Int.toNat_natCast, hp]
  show X iM_around 37 [(2, 305), (0, 7), (0, (x : Int)), (0, 0), (0, (q : Int))] [(0, 0)] σ = _
  rw [qM_around_37]
  show X iM_around 69 [(2, 305), (0, 7), (0, (x : Int)), (0, 0), (0, (q : Int))] [(0, 0)] σ = _
  rw [qM_around_69]
  match q, hq with
  | 0, _ => rfl
  | 1, _ => rfl
  | 2, _ => rfl
  | 3, _ => rfl
  | 4, _ => rfl
  | 5, _ => rfl
  | 6, _ => rfl
  | 7, _ => rfl
  | 8, _ => rfl
  | 9, _ => rfl
  | 10, _ => rfl
  | 11, _ => rfl
  | 12, _ => rfl
  | 13, _ => rfl
  | 14, _ => rfl
  | 15, _ => rfl
  | 16, _ => rfl
  | q + 17, h => omega
theorem M_aro_7_1 {x q : Nat} (hx : x < 3300) (hq : q < 17) (hp : σ.1 351 x = (q : Int)) : X iM_around 0 [(2, 305), (0, 7), (0, (x : Int)), (0, 1), (9, 0)] [] σ = some ((0, aro 7 (q : Int) true), σ) := by
  rw [qM_around_0, if_pos (xin_of (by omega) (by omega)), Int.toNat_natCast, hp]
  show X iM_around 37 [(2, 305), (0, 7), (0, (x : Int)), (0, 1), (0, (q : Int))] [(0, 0)] σ = _
  rw [qM_around_37]
  show X iM_around 69 [(2, 305), (0, 7), (0, (x : Int)), (0, 1), (0, (q : Int))] [(0, 0)] σ = _
  rw [qM_around_69]
  match q, hq with
  | 0, _ => rfl
  | 1, _ => rfl
  | 2, _ => rfl
  | 3, _ => rfl
  | 4, _ => rfl
  | 5, _ => rfl
  | 6, _ => rfl
  | 7, _ => rfl
  | 8, _ => rfl
  | 9, _ => rfl
  | 10, _ => rfl
  | 11, _ => rfl
  | 12, _ => rfl
  | 13, _ => rfl
  | 14, _ => rfl
  | 15, _ => rfl
  | 16, _ => rfl
  | q + 17, h => omega
theorem M_aro_11_0 {x q : Nat} (hx : x < 3300) (hq : q < 17) (hp : σ.1 351 x = (q : Int)) : X iM_around 0 [(2, 305), (0, 11), (0, (x : Int)), (0, 0), (9, 0)] [] σ = some ((0, aro 11 (q : Int) false), σ) := by
  rw [qM_around_0, if_pos (xin_of (by omega) (by omega)), Int.toNat_natCast, hp]
  match q, hq with
  | 0, _ => rfl
  | 1, _ => rfl
  | 2, _ => rfl
  | 3, _ => rfl
  | 4, _ => rfl
  | 5, _ => rfl
  | 6, _ => rfl
  | 7, _ => rfl
  | 8, _ => rfl
  | 9, _ => rfl
  | 10, _ => rfl
  | 11, _ => rfl
  | 12, _ => rfl
  | 13, _ => rfl
  | 14, _ => rfl
  | 15, _ => rfl
  | 16, _ => rfl
  | q + 17, h => omega
theorem M_aro_11_1 {x q : Nat} (hx : x < 3300) (hq : q < 17) (hp : σ.1 351 x = (q : Int)) : X iM_around 0 [(2, 305), (0, 11), (0, (x : Int)), (0, 1), (9, 0)] [] σ = some ((0, aro 11 (q : Int) true), σ) := by
  rw [qM_around_0, if_pos (xin_of (by omega) (by omega)), Int.toNat_natCast, hp]
  match q, hq with
  | 0, _ => rfl
  | 1, _ => rfl
  | 2, _ => rfl
  | 3, _ => rfl
  | 4, _ => rfl
  | 5, _ => rfl
  | 6, _ => rfl
  | 7, _ => rfl
  | 8, _ => rfl
  | 9, _ => rfl
  | 10, _ => rfl
  | 11, _ => rfl
  | 12, _ => rfl
  | 13, _ => rfl
  | 14, _ => rfl
  | 15, _ => rfl
  | 16, _ => rfl
  | q + 17, h => omega
theorem M_aro_12_0 {x q : Nat} (hx : x < 3300) (hq : q < 17) (hp : σ.1 351 x = (q : Int)) : X iM_around 0 [(2, 305), (0, 12), (0, (x : Int)), (0, 0), (9, 0)] [] σ = some ((0, aro 12 (q : Int) false), σ) := by
  rw [qM_around_0, if_pos (xin_of (by omega) (by omega)), Int.toNat_natCast, hp]
  match q, hq with
  | 0, _ => rfl
  | 1, _ => rfl
  | 2, _ => rfl
  | 3, _ => rfl
  | 4, _ => rfl
  | 5, _ => rfl
  | 6, _ => rfl
  | 7, _ => rfl
  | 8, _ => rfl
  | 9, _ => rfl
  | 10, _ => rfl
  | 11, _ => rfl
  | 12, _ => rfl
  | 13, _ => rfl
  | 14, _ => rfl
  | 15, _ => rfl
  | 16, _ => rfl
  | q + 17, h => omega
theorem M_aro_12_1 {x q : Nat} (hx : x < 3300) (hq : q < 17) (hp : σ.1 351 x = (q : Int)) : X iM_around 0 [(2, 305), (0, 12), (0, (x : Int)), (0, 1), (9, 0)] [] σ = some ((0, aro 12 (q : Int) true), σ) := by
  rw [qM_around_0, if_pos (xin_of (by omega) (by omega)), Int.toNat_natCast, hp]
  match q, hq with
  | 0, _ => rfl
  | 1, _ => rfl
  | 2, _ => rfl
  | 3, _ => rfl
  | 4, _ => rfl
  | 5, _ => rfl
  | 6, _ => rfl
  | 7, _ => rfl
  | 8, _ => rfl
  | 9, _ => rfl
  | 10, _ => rfl
  | 11, _ => rfl
  | 12, _ => rfl
  | 13, _ => rfl
  | 14, _ => rfl
  | 15, _ => rfl
  | 16, _ => rfl
  | q + 17, h => omega
theorem M_aro_13_0 {x q : Nat} (hx : x < 3300) (hq : q < 17) (hp : σ.1 351 x = (q : Int)) : X iM_around 0 [(2, 305), (0, 13), (0, (x : Int)), (0, 0), (9, 0)] [] σ = some ((0, aro 13 (q : Int) false), σ) := by
  rw [qM_around_0, if_pos (xin_of (by omega) (by omega)), Int.toNat_natCast, hp]
  match q, hq with
  | 0, _ => rfl
  | 1, _ => rfl
  | 2, _ => rfl
  | 3, _ => rfl
  | 4, _ => rfl
  | 5, _ => rfl
  | 6, _ => rfl
  | 7, _ => rfl
  | 8, _ => rfl
  | 9, _ => rfl
  | 10, _ => rfl
  | 11, _ => rfl
  | 12, _ => rfl
  | 13, _ => rfl
  | 14, _ => rfl
  | 15, _ => rfl
  | 16, _ => rfl
  | q + 17, h => omega
theorem M_aro_13_1 {x q : Nat} (hx : x < 3300) (hq : q < 17) (hp : σ.1 351 x = (q : Int)) : X iM_around 0 [(2, 305), (0, 13), (0, (x : Int)), (0, 1), (9, 0)] [] σ = some ((0, aro 13 (q : Int) true), σ) := by
  rw [qM_around_0, if_pos (xin_of (by omega) (by omega)), Int.toNat_natCast, hp]
  match q, hq with
  | 0, _ => rfl
  | 1, _ => rfl
  | 2, _ => rfl
  | 3, _ => rfl
  | 4, _ => rfl
  | 5, _ => rfl
  | 6, _ => rfl
  | 7, _ => rfl
  | 8, _ => rfl
  | 9, _ => rfl
  | 10, _ => rfl
  | 11, _ => rfl
  | 12, _ => rfl
  | 13, _ => rfl
  | 14, _ => rfl
  | 15, _ => rfl
  | 16, _ => rfl
  | q + 17, h => omega
theorem M_aro_14_0 {x q : Nat} (hx : x < 3300) (hq : q < 17) (hp : σ.1 351 x = (q : Int)) : X iM_around 0 [(2, 305), (0, 14), (0, (x : Int)), (0, 0), (9, 0)] [] σ = some ((0, aro 14 (q : Int) false), σ) := by
  rw [qM_around_0, if_pos (xin_of (by omega) (by omega)), Int.toNat_natCast, hp]
  show X iM_around 37 [(2, 305), (0, 14), (0, (x : Int)), (0, 0), (0, (q : Int))] [(0, 0)] σ = _
  rw [qM_around_37]
  show X iM_around 69 [(2, 305), (0, 14), (0, (x : Int)), (0, 0), (0, (q : Int))] [(0, 0)] σ = _
  rw [qM_around_69]
  match q, hq with
  | 0, _ => rfl
  | 1, _ => rfl
  | 2, _ => rfl
  | 3, _ => rfl
  | 4, _ => rfl
  | 5, _ => rfl
  | 6, _ => rfl
  | 7, _ => rfl
  | 8, _ => rfl
  | 9, _ => rfl
  | 10, _ => rfl
  | 11, _ => rfl
  | 12, _ => rfl
  | 13, _ => rfl
  | 14, _ => rfl
  | 15, _ => rfl
  | 16, _ => rfl
  | q + 17, h => omega
theorem M_aro_14_1 {x q : Nat} (hx : x < 3300) (hq : q < 17) (hp : σ.1 351 x = (q : Int)) : X iM_around 0 [(2, 305), (0, 14), (0, (x : Int)), (0, 1), (9, 0)] [] σ = some ((0, aro 14 (q : Int) true), σ) := by
  rw [qM_around_0, if_pos (xin_of (by omega) (by omega)), Int.toNat_natCast, hp]
  show X iM_around 37 [(2, 305), (0, 14), (0, (x : Int)), (0, 1), (0, (q : Int))] [(0, 0)] σ = _
  rw [qM_around_37]
  show X iM_around 69 [(2, 305), (0, 14), (0, (x : Int)), (0, 1), (0, (q : Int))] [(0, 0)] σ = _
  rw [qM_around_69]
  match q, hq with
  | 0, _ => rfl
  | 1, _ => rfl
  | 2, _ => rfl
  | 3, _ => rfl
  | 4, _ => rfl
  | 5, _ => rfl
  | 6, _ => rfl
  | 7, _ => rfl
  | 8, _ => rfl
  | 9, _ => rfl
  | 10, _ => rfl
  | 11, _ => rfl
  | 12, _ => rfl
  | 13, _ => rfl
  | 14, _ => rfl
  | 15, _ => rfl
  | 16, _ => rfl
  | q + 17, h => omega
theorem M_aro_15_0 {x q : Nat} (hx : x < 3300) (hq : q < 17) (hp : σ.1 351 x = (q : Int)) : X iM_around 0 [(2, 305), (0, 15), (0, (x : Int)), (0, 0), (9, 0)] [] σ = some ((0, aro 15 (q : Int) false), σ) := by
  rw [qM_around_0, if_pos (xin_of (by omega) (by omega)), Int.toNat_natCast, hp]
  show X iM_around 37 [(2, 305), (0, 15), (0, (x : Int)), (0, 0), (0, (q : Int))] [(0, 0)] σ = _
  rw [qM_around_37]
  show X iM_around 69 [(2, 305), (0, 15), (0, (x : Int)), (0, 0), (0, (q : Int))] [(0, 0)] σ = _
  rw [qM_around_69]
  match q, hq with
  | 0, _ => rfl
  | 1, _ => rfl
  | 2, _ => rfl
  | 3, _ => rfl
  | 4, _ => rfl
  | 5, _ => rfl
  | 6, _ => rfl
  | 7, _ => rfl
  | 8, _ => rfl
  | 9, _ => rfl
  | 10, _ => rfl
  | 11, _ => rfl
  | 12, _ => rfl
  | 13, _ => rfl
  | 14, _ => rfl
  | 15, _ => rfl
  | 16, _ => rfl
  | q + 17, h => omega
theorem M_aro_15_1 {x q : Nat} (hx : x < 3300) (hq : q < 17) (hp : σ.1 351 x = (q : Int)) : X iM_around 0 [(2, 305), (0, 15), (0, (x : Int)), (0, 1), (9, 0)] [] σ = some ((0, aro 15 (q : Int) true), σ) := by
  rw [qM_around_0, if_pos (xin_of (by omega) (by omega)), Int.toNat_natCast, hp]
  show X iM_around 37 [(2, 305), (0, 15), (0, (x : Int)), (0, 1), (0, (q : Int))] [(0, 0)] σ = _
  rw [qM_around_37]
  show X iM_around 69 [(2, 305), (0, 15), (0, (x : Int)), (0, 1), (0, (q : Int))] [(0, 0)] σ = _
  rw [qM_around_69]
  match q, hq with
  | 0, _ => rfl
  | 1, _ => rfl
  | 2, _ => rfl
  | 3, _ => rfl
  | 4, _ => rfl
  | 5, _ => rfl
  | 6, _ => rfl
  | 7, _ => rfl
  | 8, _ => rfl
  | 9, _ => rfl
  | 10, _ => rfl
  | 11, _ => rfl
  | 12, _ => rfl
  | 13, _ => rfl
  | 14, _ => rfl
  | 15, _ => rfl
  | 16, _ => rfl
  | q + 17, h => omega
theorem M_aro_16_0 {x q : Nat} (hx : x < 3300) (hq : q < 17) (hp : σ.1 351 x = (q : Int)) : X iM_around 0 [(2, 305), (0, 16), (0, (x : Int)), (0, 0), (9, 0)] [] σ = some ((0, aro 16 (q : Int) false), σ) := by
  rw [qM_around_0, if_pos (xin_of (by omega) (by omega)), Int.toNat_natCast, hp]
  show X iM_around 37 [(2, 305), (0, 16), (0, (x : Int)), (0, 0), (0, (q : Int))] [(0, 0)] σ = _
  rw [qM_around_37]
  show X iM_around 69 [(2, 305), (0, 16), (0, (x : Int)), (0, 0), (0, (q : Int))] [(0, 0)] σ = _
  rw [qM_around_69]
  match q, hq with
  | 0, _ => rfl
  | 1, _ => rfl
  | 2, _ => rfl
  | 3, _ => rfl
  | 4, _ => rfl
  | 5, _ => rfl
  | 6, _ => rfl
  | 7, _ => rfl
  | 8, _ => rfl
  | 9, _ => rfl
  | 10, _ => rfl
  | 11, _ => rfl
  | 12, _ => rfl
  | 13, _ => rfl
  | 14, _ => rfl
  | 15, _ => rfl
  | 16, _ => rfl
  | q + 17, h => omega
theorem M_aro_16_1 {x q : Nat} (hx : x < 3300) (hq : q < 17) (hp : σ.1 351 x = (q : Int)) : X iM_around 0 [(2, 305), (0, 16), (0, (x : Int)), (0, 1), (9, 0)] [] σ = some ((0, aro 16 (q : Int) true), σ) := by
  rw [qM_around_0, if_pos (xin_of (by omega) (by omega)), Int.toNat_natCast, hp]
  show X iM_around 37 [(2, 305), (0, 16), (0, (x : Int)), (0, 1), (0, (q : Int))] [(0, 0)] σ = _
  rw [qM_around_37]
  show X iM_around 69 [(2, 305), (0, 16), (0, (x : Int)), (0, 1), (0, (q : Int))] [(0, 0)] σ = _
  rw [qM_around_69]
  match q, hq with
  | 0, _ => rfl
  | 1, _ => rfl
  | 2, _ => rfl
  | 3, _ => rfl
  | 4, _ => rfl
  | 5, _ => rfl
  | 6, _ => rfl
  | 7, _ => rfl
  | 8, _ => rfl
  | 9, _ => rfl
  | 10, _ => rfl
  | 11, _ => rfl
  | 12, _ => rfl
  | 13, _ => rfl
  | 14, _ => rfl
  | 15, _ => rfl
  | 16, _ => rfl
  | q + 17, h => omega
theorem M_aro {k p : Int} {x : Nat} (hx : x < 3300) (hp : σ.1 351 x = p) (hp2 : 0 ≤ p ∧ p ≤ 16) (hk : k = 2 ∨ k = 3 ∨ k = 4 ∨ k = 5 ∨ k = 6 ∨ k = 7 ∨ k = 11 ∨ k = 12 ∨ k = 13 ∨ k = 14 ∨ k = 15 ∨ k = 16) : X iM_around 0 [(2, 305), (0, k), (0, (x : Int)), (0, 0), (9, 0)] [] σ = some ((0, aro k p false), σ) ∧ X iM_around 0 [(2, 305), (0, k), (0, (x : Int)), (0, 1), (9, 0)] [] σ = some ((0, aro k p true), σ) := by
  obtain ⟨q, rfl⟩ : ∃ q : Nat, p = (q : Int) := ⟨p.toNat, by omega⟩
  have hq : q < 17 := by omega
  rcases hk with rfl | rfl | rfl | rfl | rfl | rfl | rfl | rfl | rfl | rfl | rfl | rfl
  · exact ⟨M_aro_2_0 hx hq hp, M_aro_2_1 hx hq hp⟩
  · exact ⟨M_aro_3_0 hx hq hp, M_aro_3_1 hx hq hp⟩
  · exact ⟨M_aro_4_0 hx hq hp, M_aro_4_1 hx hq hp⟩
  · exact ⟨M_aro_5_0 hx hq hp, M_aro_5_1 hx hq hp⟩
  · exact ⟨M_aro_6_0 hx hq hp, M_aro_6_1 hx hq hp⟩
  · exact ⟨M_aro_7_0 hx hq hp, M_aro_7_1 hx hq hp⟩
  · exact ⟨M_aro_11_0 hx hq hp, M_aro_11_1 hx hq hp⟩
  · exact ⟨M_aro_12_0 hx hq hp, M_aro_12_1 hx hq hp⟩
  · exact ⟨M_aro_13_0 hx hq hp, M_aro_13_1 hx hq hp⟩
  · exact ⟨M_aro_14_0 hx hq hp, M_aro_14_1 hx hq hp⟩
  · exact ⟨M_aro_15_0 hx hq hp, M_aro_15_1 hx hq hp⟩
  · exact ⟨M_aro_16_0 hx hq hp, M_aro_16_1 hx hq hp⟩
end MAR

/-! the machine's numbers, as Ints -/
theorem xw_bm (x : Int) : xw x = x.bmod 4294967296 := by
  unfold xw
  rw [Int.bmod_def]
  split <;> omega
theorem xW_bm (x : Int) : xW x = x.bmod 18446744073709551616 := by
  unfold xW
  rw [Int.bmod_def]
  split <;> omega
theorem y_i32 (x : Int) : (Int32.ofInt x).toInt = xw x := by
  rw [Int32.toInt_ofInt, xw_bm]
theorem y_i64 (x : Int) : (Int64.ofInt x).toInt = xW x := by
  rw [Int64.toInt_ofInt, xW_bm]
def yR (x : Int) : Prop := -2147483648 ≤ x ∧ x < 2147483648
def yRL (x : Int) : Prop := -9223372036854775808 ≤ x ∧ x < 9223372036854775808
theorem xw_R (x : Int) : yR (xw x) := by unfold yR xw; omega
theorem xW_R (x : Int) : yRL (xW x) := by unfold yRL xW; omega
theorem xw_idR {x : Int} (h : yR x) : xw x = x := by unfold yR at h; unfold xw; omega
theorem xW_idR {x : Int} (h : yRL x) : xW x = x := by unfold yRL at h; unfold xW; omega
theorem y_i32R {x : Int} (h : yR x) : (Int32.ofInt x).toInt = x := by rw [y_i32, xw_idR h]
theorem y_i64R {x : Int} (h : yRL x) : (Int64.ofInt x).toInt = x := by rw [y_i64, xW_idR h]
theorem y_w (x : Int) : Int32.ofInt (xw x) = Int32.ofInt x := by
  apply Int32.toInt.inj
  rw [y_i32, y_i32, xw_idR (xw_R x)]
theorem y_W (x : Int) : Int64.ofInt (xW x) = Int64.ofInt x := by
  apply Int64.toInt.inj
  rw [y_i64, y_i64, xW_idR (xW_R x)]
theorem y_add (x y : Int) : Int32.ofInt x + Int32.ofInt y = Int32.ofInt (xw (x + y)) := by rw [y_w, Int32.ofInt_add]
theorem y_sub (x y : Int) : Int32.ofInt x - Int32.ofInt y = Int32.ofInt (xw (x - y)) := by rw [y_w, Int32.ofInt_sub]
theorem y_mul (x y : Int) : Int32.ofInt x * Int32.ofInt y = Int32.ofInt (xw (x * y)) := by rw [y_w, Int32.ofInt_mul]
theorem y_neg (x : Int) : -Int32.ofInt x = Int32.ofInt (xw (-x)) := by rw [y_w, Int32.ofInt_neg]
theorem y_addL (x y : Int) : Int64.ofInt x + Int64.ofInt y = Int64.ofInt (xW (x + y)) := by rw [y_W, Int64.ofInt_add]
theorem y_subL (x y : Int) : Int64.ofInt x - Int64.ofInt y = Int64.ofInt (xW (x - y)) := by rw [y_W, Int64.ofInt_sub]
theorem y_mulL (x y : Int) : Int64.ofInt x * Int64.ofInt y = Int64.ofInt (xW (x * y)) := by rw [y_W, Int64.ofInt_mul]
theorem y_negL (x : Int) : -Int64.ofInt x = Int64.ofInt (xW (-x)) := by rw [y_W, Int64.ofInt_neg]
theorem y_of (a : Int32) : Int32.ofInt a.toInt = a := Int32.ofInt_toInt a
theorem y_ofL (a : Int64) : Int64.ofInt a.toInt = a := Int64.ofInt_toInt a
theorem y_toR (a : Int32) : yR a.toInt := ⟨by have := Int32.minValue_le_toInt a; simpa using this, by have := Int32.toInt_lt a; simpa using this⟩
theorem y_toRL (a : Int64) : yRL a.toInt := ⟨by have := Int64.minValue_le_toInt a; simpa using this, by have := Int64.toInt_lt a; simpa using this⟩
theorem y_div {x y : Int} (hx : yR x) (hy : yR y) : Int32.ofInt x / Int32.ofInt y = Int32.ofInt (xw (x.tdiv y)) := by
  apply Int32.toInt.inj
  rw [Int32.toInt_div, y_i32R hx, y_i32R hy, y_i32, xw_idR (xw_R _), xw_bm]
theorem y_divL {x y : Int} (hx : yRL x) (hy : yRL y) : Int64.ofInt x / Int64.ofInt y = Int64.ofInt (xW (x.tdiv y)) := by
  apply Int64.toInt.inj
  rw [Int64.toInt_div, y_i64R hx, y_i64R hy, y_i64, xW_idR (xW_R _), xW_bm]
theorem y_rem {x y : Int} (hx : yR x) (hy : yR y) : Int32.ofInt x - Int32.ofInt x / Int32.ofInt y * Int32.ofInt y = Int32.ofInt (x.tmod y) := by
  rw [y_div hx hy, y_mul, y_sub, y_w]
  apply Int32.toInt.inj
  rw [y_i32, y_i32]
  have h := Int.tmod_def x y
  unfold xw
  rw [h, Int.mul_comm y]
  generalize x.tdiv y = q
  have : ((q + 2147483648) % 4294967296 - 2147483648) * y = q * y - ((q + 2147483648) / 4294967296) * 4294967296 * y := by
    have h1 : (q + 2147483648) % 4294967296 = (q + 2147483648) - 4294967296 * ((q + 2147483648) / 4294967296) := by omega
    rw [h1]
    generalize (q + 2147483648) / 4294967296 = k
    rw [show q + 2147483648 - 4294967296 * k - 2147483648 = q - 4294967296 * k by omega, Int.sub_mul, Int.mul_comm 4294967296 k]
  rw [this]
  generalize q * y = z
  rw [Int.mul_right_comm]
  generalize (q + 2147483648) / 4294967296 * y = k
  omega
theorem y_remL {x y : Int} (hx : yRL x) (hy : yRL y) : Int64.ofInt x - Int64.ofInt x / Int64.ofInt y * Int64.ofInt y = Int64.ofInt (x.tmod y) := by
  rw [y_divL hx hy, y_mulL, y_subL, y_W]
  apply Int64.toInt.inj
  rw [y_i64, y_i64]
  have h := Int.tmod_def x y
  unfold xW
  rw [h, Int.mul_comm y]
  generalize x.tdiv y = q
  have : ((q + 9223372036854775808) % 18446744073709551616 - 9223372036854775808) * y = q * y - ((q + 9223372036854775808) / 18446744073709551616) * 18446744073709551616 * y := by
    have h1 : (q + 9223372036854775808) % 18446744073709551616 = (q + 9223372036854775808) - 18446744073709551616 * ((q + 9223372036854775808) / 18446744073709551616) := by omega
    rw [h1]
    generalize (q + 9223372036854775808) / 18446744073709551616 = k
    rw [show q + 9223372036854775808 - 18446744073709551616 * k - 9223372036854775808 = q - 18446744073709551616 * k by omega, Int.sub_mul, Int.mul_comm 18446744073709551616 k]
  rw [this]
  generalize q * y = z
  rw [Int.mul_right_comm]
  generalize (q + 9223372036854775808) / 18446744073709551616 * y = k
  omega
theorem y_lt {x y : Int} (hx : yR x) (hy : yR y) : Int32.ofInt x < Int32.ofInt y ↔ x < y := by rw [Int32.lt_iff_toInt_lt, y_i32R hx, y_i32R hy]
theorem y_eq {x y : Int} (hx : yR x) (hy : yR y) : Int32.ofInt x = Int32.ofInt y ↔ x = y := by
  constructor
  · intro h
    have := congrArg Int32.toInt h
    rwa [y_i32R hx, y_i32R hy] at this
  · rintro rfl; rfl
theorem y_ltL {x y : Int} (hx : yRL x) (hy : yRL y) : Int64.ofInt x < Int64.ofInt y ↔ x < y := by rw [Int64.lt_iff_toInt_lt, y_i64R hx, y_i64R hy]
theorem y_eqL {x y : Int} (hx : yRL x) (hy : yRL y) : Int64.ofInt x = Int64.ofInt y ↔ x = y := by
  constructor
  · intro h
    have := congrArg Int64.toInt h
    rwa [y_i64R hx, y_i64R hy] at this
  · rintro rfl; rfl
theorem y_0 : (0 : Int32) = Int32.ofInt 0 := rfl
theorem yR_0 : yR 0 := by unfold yR; omega
theorem yRL_0 : yRL 0 := by unfold yRL; omega
theorem y_le {x y : Int} (hx : yR x) (hy : yR y) : Int32.ofInt x ≤ Int32.ofInt y ↔ x ≤ y := by rw [Int32.le_iff_toInt_le, y_i32R hx, y_i32R hy]
theorem y_i2l {x : Int} (hx : yR x) : (Int32.ofInt x).toInt64 = Int64.ofInt x := by
  apply Int64.toInt.inj
  rw [Int32.toInt_toInt64, y_i32R hx, y_i64R]
  unfold yR at hx; unfold yRL; omega
theorem y_l2i (x : Int) : (Int64.ofInt x).toInt32 = Int32.ofInt (xw x) := by
  apply Int32.toInt.inj
  rw [y_w, y_i32, Int64.toInt_toInt32, y_i64]
  rw [← xw_bm]
  unfold xw xW
  omega
theorem xna2 (x : Int) : xna 2 x = (x + 128) % 256 - 128 := rfl
theorem xna3 (x : Int) : xna 3 x = x % 65536 := rfl
theorem xna4 (x : Int) : xna 4 x = x % 2 := rfl
theorem y_i2b (x : Int) : (Int32.ofInt x).toInt8.toInt32 = Int32.ofInt (xna 2 x) := by
  apply Int32.toInt.inj
  rw [Int8.toInt_toInt32, Int32.toInt_toInt8, y_i32, y_i32, Int.bmod_def, xna2]
  unfold xw
  have h8 : ((2 ^ 8 : Nat) : Int) = 256 := rfl
  rw [h8]
  split <;> omega
theorem y_i2c (x : Int) : ((Int32.ofInt x).toUInt32 % 65536).toInt32 = Int32.ofInt (xna 3 x) := by
  rw [pk_char]
  have h1 : (Int32.ofInt x).toBitVec.toNat = (x % 4294967296).toNat := by
    show (BitVec.ofInt 32 x).toNat = _
    rw [BitVec.toNat_ofInt]
    rfl
  rw [h1]
  apply Int32.toInt.inj
  have h2 : (x % 4294967296).toNat % 65536 < 2 ^ 31 := by omega
  rw [nI_toInt h2, y_i32, xna3]
  unfold xw
  omega
theorem y_nat {i : Int} (h : 0 ≤ i) (hR : yR i) : (Int32.ofInt i).toNatClampNeg = i.toNat := by
  show (Int32.ofInt i).toInt.toNat = i.toNat
  rw [y_i32R hR]
theorem y_in {i : Int} {n : Nat} (hR : yR i) (h : xin i n) : vp_in (Int32.ofInt i) n := by
  rw [vp_in_iff, y_i32R hR]
  exact h

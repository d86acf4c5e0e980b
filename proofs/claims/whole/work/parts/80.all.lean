/-! all checks together -/
noncomputable def ycmi (i : Nat) : Bool := match xnth yMl i, xnth xPg i with
  | some y, some m => plainName y.1.cls && Nat.beq m.2 y.2.2.1 && !(Nat.beq (yrk y.2.2.2.1) 10)
  | _, _ => false
theorem yc_0 : ((List.range 24).all fun i => ycmi (24 * 0 + i) || Nat.ble 424 (24 * 0 + i)) = true := by decide +kernel
theorem yc_1 : ((List.range 24).all fun i => ycmi (24 * 1 + i) || Nat.ble 424 (24 * 1 + i)) = true := by decide +kernel
theorem yc_2 : ((List.range 24).all fun i => ycmi (24 * 2 + i) || Nat.ble 424 (24 * 2 + i)) = true := by decide +kernel
theorem yc_3 : ((List.range 24).all fun i => ycmi (24 * 3 + i) || Nat.ble 424 (24 * 3 + i)) = true := by decide +kernel
theorem yc_4 : ((List.range 24).all fun i => ycmi (24 * 4 + i) || Nat.ble 424 (24 * 4 + i)) = true := by decide +kernel
theorem yc_5 : ((List.range 24).all fun i => ycmi (24 * 5 + i) || Nat.ble 424 (24 * 5 + i)) = true := by decide +kernel
theorem yc_6 : ((List.range 24).all fun i => ycmi (24 * 6 + i) || Nat.ble 424 (24 * 6 + i)) = true := by decide +kernel
theorem yc_7 : ((List.range 24).all fun i => ycmi (24 * 7 + i) || Nat.ble 424 (24 * 7 + i)) = true := by decide +kernel
theorem yc_8 : ((List.range 24).all fun i => ycmi (24 * 8 + i) || Nat.ble 424 (24 * 8 + i)) = true := by decide +kernel
theorem yc_9 : ((List.range 24).all fun i => ycmi (24 * 9 + i) || Nat.ble 424 (24 * 9 + i)) = true := by decide +kernel
theorem yc_10 : ((List.range 24).all fun i => ycmi (24 * 10 + i) || Nat.ble 424 (24 * 10 + i)) = true := by decide +kernel
theorem yc_11 : ((List.range 24).all fun i => ycmi (24 * 11 + i) || Nat.ble 424 (24 * 11 + i)) = true := by decide +kernel
theorem yc_12 : ((List.range 24).all fun i => ycmi (24 * 12 + i) || Nat.ble 424 (24 * 12 + i)) = true := by decide +kernel
theorem yc_13 : ((List.range 24).all fun i => ycmi (24 * 13 + i) || Nat.ble 424 (24 * 13 + i)) = true := by decide +kernel
theorem yc_14 : ((List.range 24).all fun i => ycmi (24 * 14 + i) || Nat.ble 424 (24 * 14 + i)) = true := by decide +kernel
theorem yc_15 : ((List.range 24).all fun i => ycmi (24 * 15 + i) || Nat.ble 424 (24 * 15 + i)) = true := by decide +kernel
theorem yc_16 : ((List.range 24).all fun i => ycmi (24 * 16 + i) || Nat.ble 424 (24 * 16 + i)) = true := by decide +kernel
theorem yc_17 : ((List.range 24).all fun i => ycmi (24 * 17 + i) || Nat.ble 424 (24 * 17 + i)) = true := by decide +kernel
theorem yall_of {f : Nat → Bool} {n k : Nat} (h : ∀ j, j < n → ((List.range 24).all fun i => f (24 * j + i)) = true) : ∀ i, i < 24 * n → f i = true := by
  intro i hi
  have h1 := List.all_eq_true.mp (h (i / 24) (by omega)) (i % 24) (List.mem_range.mpr (by omega))
  rwa [show 24 * (i / 24) + i % 24 = i by omega] at h1
theorem yMl_len : yMl.length = 424 := by decide +kernel
theorem yMw_len : yMw.length = 423 := by decide +kernel
theorem xnth_some {α : Type} : ∀ {l : List α} {i : Nat}, i < l.length → ∃ v, xnth l i = some v
  | [], _, h => absurd h (Nat.not_lt_zero _)
  | v :: _, 0, _ => ⟨v, rfl⟩
  | _ :: l, i + 1, h => xnth_some (l := l) (i := i) (Nat.lt_of_succ_lt_succ h)
theorem yM_at {i : Nat} {y : yMt} (h : xnth yMl i = some y) : yM i = y := by unfold yM; rw [h]
theorem yhw {i j : Nat} {w : Cond} (h : ywd i j = some w) (g : goodWord w = true) : w ∈ yWL := List.mem_filter.mpr ⟨ywd_in h, g⟩
def yH (n : Nat) (l : List yMt) : Prop := ∀ i y, xnth l i = some y → i < n → Cond.code y.1 y.2.1 y.2.2.1 y.2.2.2.1 ∈ yWL
theorem yH_0 {l : List yMt} : yH 0 l := fun i y _ h => absurd h (Nat.not_lt_zero i)
theorem yH_c {n n' : Nat} {y : yMt} {l : List yMt} (e : n' = n + 1) (h : Cond.code y.1 y.2.1 y.2.2.1 y.2.2.2.1 ∈ yWL) (t : yH n l) : yH n' (y :: l) := by
  intro i z hz hi
  match i, hz with
  | 0, hz =>
    have e0 : y = z := Option.some.inj hz
    subst e0
    exact h
  | i + 1, hz => exact t i z hz (by omega)
set_option maxRecDepth 100000 in
def yMz8 : List yMt := (yJ0_isLatin1_aae02, cJ0_isLatin1_aae02, 1, (some .boolean), 0) :: (yJ0_length_8abf5, cJ0_length_8abf5, 1, (some .int), 1) :: (yJ4_init_da8c8, cJ4_init_da8c8, 1, none, 3) :: (yJ4_append_cf468, cJ4_append_cf468, 2, (some (.object "java/lang/StringBuilder")), 7) :: (yJ4_append_bf812, cJ4_append_bf812, 2, (some (.object "java/lang/StringBuilder")), 5) :: (yJ4_append_15ec4, cJ4_append_15ec4, 2, (some (.object "java/lang/StringBuilder")), 9) :: (yJ4_charAt_5068e, cJ4_charAt_5068e, 2, (some .char), 3) :: (yJ4_length_8abf5, cJ4_length_8abf5, 1, (some .int), 1) :: (yJ4_toString_0e30d, cJ4_toString_0e30d, 1, (some (.object "java/lang/String")), 7) :: (yJ1_canEncode_fc78d, cJ1_canEncode_fc78d, 1, (some .boolean), 0) :: (yJ1_canEncode_9a6ad, cJ1_canEncode_9a6ad, 1, (some .boolean), 0) :: (yJ1_charAt_3b067, cJ1_charAt_3b067, 2, (some .char), 2) :: (yJ1_indexOf_4cfef, cJ1_indexOf_4cfef, 4, (some .int), 1) :: (yJ1_indexOfChar_4cfef, cJ1_indexOfChar_4cfef, 6, (some .int), 0) :: (yJ1_inflate_0e8fd, cJ1_inflate_0e8fd, 5, none, 4) :: (yJ2_charAt_3b067, cJ2_charAt_3b067, 2, (some .char), 3) :: (yJ2_checkBoundsBeginEnd_d044e, cJ2_checkBoundsBeginEnd_d044e, 3, none, 2) :: (yJ2_checkBoundsOffCount_d044e, cJ2_checkBoundsOffCount_d044e, 3, none, 2) :: (yJ2_checkIndex_2214a, cJ2_checkIndex_2214a, 2, none, 2) :: (yJ2_coderFromArrayLen_85cad, cJ2_coderFromArrayLen_85cad, 2, (some .byte), 0) :: (yJ2_compress_39247, cJ2_compress_39247, 6, (some (.array .byte)), 4) :: (yJ2_compress_5af95, cJ2_compress_5af95, 7, (some .int), 3) :: (yJ2_getChar_3b067, cJ2_getChar_3b067, 2, (some .char), 1) :: (yJ2_getChars_46870, cJ2_getChars_46870, 5, (some .int), 3) :: (yJ2_getChars_ba4f3, cJ2_getChars_ba4f3, 7, (some .int), 2) :: (yJ2_indexOf_4cfef, cJ2_indexOf_4cfef, 4, (some .int), 4) :: (yJ2_indexOfChar_4cfef, cJ2_indexOfChar_4cfef, 4, (some .int), 3) :: (yJ2_indexOfCharUnsafe_4cfef, cJ2_indexOfCharUnsafe_4cfef, 5, (some .int), 2) :: (yJ2_indexOfSupplementary_4cfef, cJ2_indexOfSupplementary_4cfef, 7, (some .int), 3) :: (yJ2_inflate_0e8fd, cJ2_inflate_0e8fd, 6, none, 3) :: (yJ2_length_9d52b, cJ2_length_9d52b, 1, (some .int), 0) :: (yJ2_newBytesFor_77867, cJ2_newBytesFor_77867, 1, (some (.array .byte)), 1) :: (yJ2_newBytesLength_0f7a4, cJ2_newBytesLength_0f7a4, 1, (some .int), 0) :: (yJ2_putChar_b72d1, cJ2_putChar_b72d1, 3, none, 1) :: (yJ2_putCharSB_b72d1, cJ2_putCharSB_b72d1, 3, none, 3) :: (yJ2_putCharsAt_cd4e5, cJ2_putCharsAt_cd4e5, 7, (some .int), 3) :: (yJ7_checkLength_df160, cJ7_checkLength_df160, 2, none, 0) :: (yJ7_copyOf_9075b, cJ7_copyOf_9075b, 3, (some (.array .byte)), 0) :: (yJ7_copyOfRange_39247, cJ7_copyOfRange_39247, 3, (some (.array .byte)), 2) :: (yJ7_copyOfRangeByte_39247, cJ7_copyOfRangeByte_39247, 5, (some (.array .byte)), 1) :: (yJ7_fill_53178, cJ7_fill_53178, 4, none, 0) :: (yJ7_fill_d0a16, cJ7_fill_d0a16, 5, none, 0) :: (yJ8_hugeLength_7cf53, cJ8_hugeLength_7cf53, 3, (some .int), 0) :: (yJ8_newLength_cabcc, cJ8_newLength_cabcc, 4, (some .int), 1) :: (yJ3_checkFromIndexSize_8c36e, cJ3_checkFromIndexSize_8c36e, 4, (some .int), 0) :: (yJ3_checkFromToIndex_8c36e, cJ3_checkFromToIndex_8c36e, 4, (some .int), 0) :: (yJ3_checkIndex_8e157, cJ3_checkIndex_8e157, 3, (some .int), 0) :: [(yL_law, cL_law, 4, (some .boolean), 15)]
theorem yhw376 : Cond.code yJ0_isLatin1_aae02 cJ0_isLatin1_aae02 1 (some .boolean) ∈ yWL := yhw (i := 3) (j := 148) rfl rfl
theorem yhw377 : Cond.code yJ0_length_8abf5 cJ0_length_8abf5 1 (some .int) ∈ yWL := yhw (i := 3) (j := 154) rfl rfl
theorem yhw378 : Cond.code yJ4_init_da8c8 cJ4_init_da8c8 1 none ∈ yWL := yhw (i := 4) (j := 104) rfl rfl
theorem yhw379 : Cond.code yJ4_append_cf468 cJ4_append_cf468 2 (some (.object "java/lang/StringBuilder")) ∈ yWL := yhw (i := 4) (j := 133) rfl rfl
theorem yhw380 : Cond.code yJ4_append_bf812 cJ4_append_bf812 2 (some (.object "java/lang/StringBuilder")) ∈ yWL := yhw (i := 5) (j := 228) rfl rfl
theorem yhw381 : Cond.code yJ4_append_15ec4 cJ4_append_15ec4 2 (some (.object "java/lang/StringBuilder")) ∈ yWL := yhw (i := 5) (j := 193) rfl rfl
theorem yhw382 : Cond.code yJ4_charAt_5068e cJ4_charAt_5068e 2 (some .char) ∈ yWL := yhw (i := 5) (j := 180) rfl rfl
theorem yhw383 : Cond.code yJ4_length_8abf5 cJ4_length_8abf5 1 (some .int) ∈ yWL := yhw (i := 4) (j := 224) rfl rfl
theorem yhw384 : Cond.code yJ4_toString_0e30d cJ4_toString_0e30d 1 (some (.object "java/lang/String")) ∈ yWL := yhw (i := 4) (j := 204) rfl rfl
theorem yhw385 : Cond.code yJ1_canEncode_fc78d cJ1_canEncode_fc78d 1 (some .boolean) ∈ yWL := yhw (i := 4) (j := 175) rfl rfl
theorem yhw386 : Cond.code yJ1_canEncode_9a6ad cJ1_canEncode_9a6ad 1 (some .boolean) ∈ yWL := yhw (i := 3) (j := 164) rfl rfl
theorem yhw387 : Cond.code yJ1_charAt_3b067 cJ1_charAt_3b067 2 (some .char) ∈ yWL := yhw (i := 3) (j := 236) rfl rfl
theorem yhw388 : Cond.code yJ1_indexOf_4cfef cJ1_indexOf_4cfef 4 (some .int) ∈ yWL := yhw (i := 3) (j := 161) rfl rfl
theorem yhw389 : Cond.code yJ1_indexOfChar_4cfef cJ1_indexOfChar_4cfef 6 (some .int) ∈ yWL := yhw (i := 3) (j := 169) rfl rfl
theorem yhw390 : Cond.code yJ1_inflate_0e8fd cJ1_inflate_0e8fd 5 none ∈ yWL := yhw (i := 4) (j := 182) rfl rfl
theorem yhw391 : Cond.code yJ2_charAt_3b067 cJ2_charAt_3b067 2 (some .char) ∈ yWL := yhw (i := 4) (j := 5) rfl rfl
theorem yhw392 : Cond.code yJ2_checkBoundsBeginEnd_d044e cJ2_checkBoundsBeginEnd_d044e 3 none ∈ yWL := yhw (i := 3) (j := 181) rfl rfl
theorem yhw393 : Cond.code yJ2_checkBoundsOffCount_d044e cJ2_checkBoundsOffCount_d044e 3 none ∈ yWL := yhw (i := 4) (j := 188) rfl rfl
theorem yhw394 : Cond.code yJ2_checkIndex_2214a cJ2_checkIndex_2214a 2 none ∈ yWL := yhw (i := 4) (j := 8) rfl rfl
theorem yhw395 : Cond.code yJ2_coderFromArrayLen_85cad cJ2_coderFromArrayLen_85cad 2 (some .byte) ∈ yWL := yhw (i := 5) (j := 6) rfl rfl
theorem yhw396 : Cond.code yJ2_compress_39247 cJ2_compress_39247 6 (some (.array .byte)) ∈ yWL := yhw (i := 4) (j := 239) rfl rfl
theorem yhw397 : Cond.code yJ2_compress_5af95 cJ2_compress_5af95 7 (some .int) ∈ yWL := yhw (i := 5) (j := 2) rfl rfl
theorem yhw398 : Cond.code yJ2_getChar_3b067 cJ2_getChar_3b067 2 (some .char) ∈ yWL := yhw (i := 3) (j := 198) rfl rfl
theorem yhw399 : Cond.code yJ2_getChars_46870 cJ2_getChars_46870 5 (some .int) ∈ yWL := yhw (i := 6) (j := 4) rfl rfl
theorem yhw400 : Cond.code yJ2_getChars_ba4f3 cJ2_getChars_ba4f3 7 (some .int) ∈ yWL := yhw (i := 6) (j := 7) rfl rfl
theorem yhw401 : Cond.code yJ2_indexOf_4cfef cJ2_indexOf_4cfef 4 (some .int) ∈ yWL := yhw (i := 3) (j := 172) rfl rfl
theorem yhw402 : Cond.code yJ2_indexOfChar_4cfef cJ2_indexOfChar_4cfef 4 (some .int) ∈ yWL := yhw (i := 3) (j := 178) rfl rfl
theorem yhw403 : Cond.code yJ2_indexOfCharUnsafe_4cfef cJ2_indexOfCharUnsafe_4cfef 5 (some .int) ∈ yWL := yhw (i := 3) (j := 195) rfl rfl
theorem yhw404 : Cond.code yJ2_indexOfSupplementary_4cfef cJ2_indexOfSupplementary_4cfef 7 (some .int) ∈ yWL := yhw (i := 3) (j := 207) rfl rfl
theorem yhw405 : Cond.code yJ2_inflate_0e8fd cJ2_inflate_0e8fd 6 none ∈ yWL := yhw (i := 4) (j := 185) rfl rfl
theorem yhw406 : Cond.code yJ2_length_9d52b cJ2_length_9d52b 1 (some .int) ∈ yWL := yhw (i := 3) (j := 184) rfl rfl
theorem yhw407 : Cond.code yJ2_newBytesFor_77867 cJ2_newBytesFor_77867 1 (some (.array .byte)) ∈ yWL := yhw (i := 4) (j := 112) rfl rfl
theorem yhw408 : Cond.code yJ2_newBytesLength_0f7a4 cJ2_newBytesLength_0f7a4 1 (some .int) ∈ yWL := yhw (i := 4) (j := 115) rfl rfl
theorem yhw409 : Cond.code yJ2_putChar_b72d1 cJ2_putChar_b72d1 3 none ∈ yWL := yhw (i := 4) (j := 197) rfl rfl
theorem yhw410 : Cond.code yJ2_putCharSB_b72d1 cJ2_putCharSB_b72d1 3 none ∈ yWL := yhw (i := 4) (j := 200) rfl rfl
theorem yhw411 : Cond.code yJ2_putCharsAt_cd4e5 cJ2_putCharsAt_cd4e5 7 (some .int) ∈ yWL := yhw (i := 5) (j := 203) rfl rfl
theorem yhw412 : Cond.code yJ7_checkLength_df160 cJ7_checkLength_df160 2 none ∈ yWL := yhw (i := 4) (j := 236) rfl rfl
theorem yhw413 : Cond.code yJ7_copyOf_9075b cJ7_copyOf_9075b 3 (some (.array .byte)) ∈ yWL := yhw (i := 4) (j := 156) rfl rfl
theorem yhw414 : Cond.code yJ7_copyOfRange_39247 cJ7_copyOfRange_39247 3 (some (.array .byte)) ∈ yWL := yhw (i := 4) (j := 230) rfl rfl
theorem yhw415 : Cond.code yJ7_copyOfRangeByte_39247 cJ7_copyOfRangeByte_39247 5 (some (.array .byte)) ∈ yWL := yhw (i := 4) (j := 233) rfl rfl
theorem yhw416 : Cond.code yJ7_fill_53178 cJ7_fill_53178 4 none ∈ yWL := yhw (i := 0) (j := 202) rfl rfl
theorem yhw417 : Cond.code yJ7_fill_d0a16 cJ7_fill_d0a16 5 none ∈ yWL := yhw (i := 6) (j := 113) rfl rfl
theorem yhw418 : Cond.code yJ8_hugeLength_7cf53 cJ8_hugeLength_7cf53 3 (some .int) ∈ yWL := yhw (i := 4) (j := 152) rfl rfl
theorem yhw419 : Cond.code yJ8_newLength_cabcc cJ8_newLength_cabcc 4 (some .int) ∈ yWL := yhw (i := 4) (j := 147) rfl rfl
theorem yhw420 : Cond.code yJ3_checkFromIndexSize_8c36e cJ3_checkFromIndexSize_8c36e 4 (some .int) ∈ yWL := yhw (i := 4) (j := 194) rfl rfl
theorem yhw421 : Cond.code yJ3_checkFromToIndex_8c36e cJ3_checkFromToIndex_8c36e 4 (some .int) ∈ yWL := yhw (i := 3) (j := 192) rfl rfl
theorem yhw422 : Cond.code yJ3_checkIndex_8e157 cJ3_checkIndex_8e157 3 (some .int) ∈ yWL := yhw (i := 4) (j := 2) rfl rfl
set_option maxRecDepth 100000 in
theorem yHz8 : yH 47 yMz8 := yH_c (n := 46) (n' := 47) rfl yhw376 (yH_c (n := 45) (n' := 46) rfl yhw377 (yH_c (n := 44) (n' := 45) rfl yhw378 (yH_c (n := 43) (n' := 44) rfl yhw379 (yH_c (n := 42) (n' := 43) rfl yhw380 (yH_c (n := 41) (n' := 42) rfl yhw381 (yH_c (n := 40) (n' := 41) rfl yhw382 (yH_c (n := 39) (n' := 40) rfl yhw383 (yH_c (n := 38) (n' := 39) rfl yhw384 (yH_c (n := 37) (n' := 38) rfl yhw385 (yH_c (n := 36) (n' := 37) rfl yhw386 (yH_c (n := 35) (n' := 36) rfl yhw387 (yH_c (n := 34) (n' := 35) rfl yhw388 (yH_c (n := 33) (n' := 34) rfl yhw389 (yH_c (n := 32) (n' := 33) rfl yhw390 (yH_c (n := 31) (n' := 32) rfl yhw391 (yH_c (n := 30) (n' := 31) rfl yhw392 (yH_c (n := 29) (n' := 30) rfl yhw393 (yH_c (n := 28) (n' := 29) rfl yhw394 (yH_c (n := 27) (n' := 28) rfl yhw395 (yH_c (n := 26) (n' := 27) rfl yhw396 (yH_c (n := 25) (n' := 26) rfl yhw397 (yH_c (n := 24) (n' := 25) rfl yhw398 (yH_c (n := 23) (n' := 24) rfl yhw399 (yH_c (n := 22) (n' := 23) rfl yhw400 (yH_c (n := 21) (n' := 22) rfl yhw401 (yH_c (n := 20) (n' := 21) rfl yhw402 (yH_c (n := 19) (n' := 20) rfl yhw403 (yH_c (n := 18) (n' := 19) rfl yhw404 (yH_c (n := 17) (n' := 18) rfl yhw405 (yH_c (n := 16) (n' := 17) rfl yhw406 (yH_c (n := 15) (n' := 16) rfl yhw407 (yH_c (n := 14) (n' := 15) rfl yhw408 (yH_c (n := 13) (n' := 14) rfl yhw409 (yH_c (n := 12) (n' := 13) rfl yhw410 (yH_c (n := 11) (n' := 12) rfl yhw411 (yH_c (n := 10) (n' := 11) rfl yhw412 (yH_c (n := 9) (n' := 10) rfl yhw413 (yH_c (n := 8) (n' := 9) rfl yhw414 (yH_c (n := 7) (n' := 8) rfl yhw415 (yH_c (n := 6) (n' := 7) rfl yhw416 (yH_c (n := 5) (n' := 6) rfl yhw417 (yH_c (n := 4) (n' := 5) rfl yhw418 (yH_c (n := 3) (n' := 4) rfl yhw419 (yH_c (n := 2) (n' := 3) rfl yhw420 (yH_c (n := 1) (n' := 2) rfl yhw421 (yH_c (n := 0) (n' := 1) rfl yhw422 (yH_0)))))))))))))))))))))))))))))))))))))))))))))))
set_option maxRecDepth 100000 in
def yMz7 : List yMt := (yX11_nameAll, cX11_nameAll, 3, none, 3) :: (yX11_exOf, cX11_exOf, 2, (some .long), 2) :: (yX11_exOfIf, cX11_exOfIf, 3, (some .long), 2) :: (yX11_exOfParts, cX11_exOfParts, 8, (some .long), 2) :: (yX11_joined, cX11_joined, 5, (some .long), 1) :: (yX11_heldTo, cX11_heldTo, 2, (some .long), 0) :: (yX11_times, cX11_times, 4, (some .long), 0) :: (yX11_holds, cX11_holds, 2, (some .boolean), 2) :: (yX11_hasPart, cX11_hasPart, 4, (some .boolean), 2) :: (yX11_compares, cX11_compares, 6, (some .boolean), 2) :: (yJ5_init_d00df, cJ5_init_d00df, 2, none, 2) :: (yJ5_append_3fe6f, cJ5_append_3fe6f, 2, (some (.object "java/lang/AbstractStringBuilder")), 6) :: (yJ5_append_c97b9, cJ5_append_c97b9, 4, (some (.object "java/lang/AbstractStringBuilder")), 4) :: (yJ5_append_cf1ce, cJ5_append_cf1ce, 3, (some (.object "java/lang/AbstractStringBuilder")), 8) :: (yJ5_appendNull_278bc, cJ5_appendNull_278bc, 3, (some (.object "java/lang/AbstractStringBuilder")), 4) :: (yJ5_charAt_5068e, cJ5_charAt_5068e, 5, (some .char), 2) :: (yJ5_ensureCapacityInternal_d00df, cJ5_ensureCapacityInternal_d00df, 3, none, 3) :: (yJ5_getValue_6d5f1, cJ5_getValue_6d5f1, 1, (some (.array .byte)), 0) :: (yJ5_inflate_da8c8, cJ5_inflate_da8c8, 2, none, 5) :: (yJ5_inflateIfNeededFor_a7421, cJ5_inflateIfNeededFor_a7421, 2, none, 6) :: (yJ5_isLatin1_aae02, cJ5_isLatin1_aae02, 1, (some .boolean), 0) :: (yJ5_length_8abf5, cJ5_length_8abf5, 1, (some .int), 0) :: (yJ5_newCapacity_0f7a4, cJ5_newCapacity_0f7a4, 6, (some .int), 2) :: (yJ5_putStringAt_47b60, cJ5_putStringAt_47b60, 3, none, 7) :: (yJ11_highSurrogate_5068e, cJ11_highSurrogate_5068e, 1, (some .char), 0) :: (yJ11_isValidCodePoint_9a6ad, cJ11_isValidCodePoint_9a6ad, 2, (some .boolean), 0) :: (yJ11_lowSurrogate_5068e, cJ11_lowSurrogate_5068e, 1, (some .char), 0) :: (yJx29ce0_ordinal_8abf5, cJx29ce0_ordinal_8abf5, 1, (some .int), 0) :: (yJ6_bitCount_0f7a4, cJ6_bitCount_0f7a4, 1, (some .int), 0) :: (yJ6_getChars_ba4f3, cJ6_getChars_ba4f3, 7, (some .int), 0) :: (yJ6_stringSize_0f7a4, cJ6_stringSize_0f7a4, 4, (some .int), 0) :: (yX13_max, cX13_max, 2, (some .int), 0) :: (yX13_max, cX13_max, 2, (some .int), 0) :: (yX13_max, cX13_max, 2, (some .int), 0) :: (yX13_max, cX13_max, 2, (some .int), 0) :: (yX13_max, cX13_max, 2, (some .int), 0) :: (yX13_max, cX13_max, 2, (some .int), 0) :: (yJ0_init_db425, cJ0_init_db425, 5, none, 5) :: (yJ0_init_81219, cJ0_init_81219, 2, none, 6) :: (yJ0_charAt_5068e, cJ0_charAt_5068e, 2, (some .char), 4) :: (yJ0_checkBoundsBeginEnd_23922, cJ0_checkBoundsBeginEnd_23922, 3, none, 1) :: (yJ0_checkBoundsOffCount_cabcc, cJ0_checkBoundsOffCount_cabcc, 3, (some .int), 1) :: (yJ0_checkIndex_df160, cJ0_checkIndex_df160, 2, none, 1) :: (yJ0_coder_7d493, cJ0_coder_7d493, 1, (some .byte), 0) :: (yJ0_getBytes_840e7, cJ0_getBytes_840e7, 4, none, 5) :: (yJ0_indexOf_0f7a4, cJ0_indexOf_0f7a4, 2, (some .int), 6) :: (yJ0_indexOf_7cf53, cJ0_indexOf_7cf53, 3, (some .int), 5) :: yMz8
theorem yhw329 : Cond.code yX11_nameAll cX11_nameAll 3 none ∈ yWL := yhw (i := 6) (j := 148) rfl rfl
theorem yhw330 : Cond.code yX11_exOf cX11_exOf 2 (some .long) ∈ yWL := yhw (i := 6) (j := 153) rfl rfl
theorem yhw331 : Cond.code yX11_exOfIf cX11_exOfIf 3 (some .long) ∈ yWL := yhw (i := 6) (j := 160) rfl rfl
theorem yhw332 : Cond.code yX11_exOfParts cX11_exOfParts 8 (some .long) ∈ yWL := yhw (i := 6) (j := 176) rfl rfl
theorem yhw333 : Cond.code yX11_joined cX11_joined 5 (some .long) ∈ yWL := yhw (i := 6) (j := 185) rfl rfl
theorem yhw334 : Cond.code yX11_heldTo cX11_heldTo 2 (some .long) ∈ yWL := yhw (i := 6) (j := 188) rfl rfl
theorem yhw335 : Cond.code yX11_times cX11_times 4 (some .long) ∈ yWL := yhw (i := 6) (j := 193) rfl rfl
theorem yhw336 : Cond.code yX11_holds cX11_holds 2 (some .boolean) ∈ yWL := yhw (i := 6) (j := 164) rfl rfl
theorem yhw337 : Cond.code yX11_hasPart cX11_hasPart 4 (some .boolean) ∈ yWL := yhw (i := 6) (j := 168) rfl rfl
theorem yhw338 : Cond.code yX11_compares cX11_compares 6 (some .boolean) ∈ yWL := yhw (i := 6) (j := 172) rfl rfl
theorem yhw339 : Cond.code yJ5_init_d00df cJ5_init_d00df 2 none ∈ yWL := yhw (i := 4) (j := 107) rfl rfl
theorem yhw340 : Cond.code yJ5_append_3fe6f cJ5_append_3fe6f 2 (some (.object "java/lang/AbstractStringBuilder")) ∈ yWL := yhw (i := 4) (j := 136) rfl rfl
theorem yhw341 : Cond.code yJ5_append_c97b9 cJ5_append_c97b9 4 (some (.object "java/lang/AbstractStringBuilder")) ∈ yWL := yhw (i := 5) (j := 231) rfl rfl
theorem yhw342 : Cond.code yJ5_append_cf1ce cJ5_append_cf1ce 3 (some (.object "java/lang/AbstractStringBuilder")) ∈ yWL := yhw (i := 5) (j := 196) rfl rfl
theorem yhw343 : Cond.code yJ5_appendNull_278bc cJ5_appendNull_278bc 3 (some (.object "java/lang/AbstractStringBuilder")) ∈ yWL := yhw (i := 5) (j := 200) rfl rfl
theorem yhw344 : Cond.code yJ5_charAt_5068e cJ5_charAt_5068e 5 (some .char) ∈ yWL := yhw (i := 5) (j := 183) rfl rfl
theorem yhw345 : Cond.code yJ5_ensureCapacityInternal_d00df cJ5_ensureCapacityInternal_d00df 3 none ∈ yWL := yhw (i := 4) (j := 140) rfl rfl
theorem yhw346 : Cond.code yJ5_getValue_6d5f1 cJ5_getValue_6d5f1 1 (some (.array .byte)) ∈ yWL := yhw (i := 4) (j := 218) rfl rfl
theorem yhw347 : Cond.code yJ5_inflate_da8c8 cJ5_inflate_da8c8 2 none ∈ yWL := yhw (i := 4) (j := 179) rfl rfl
theorem yhw348 : Cond.code yJ5_inflateIfNeededFor_a7421 cJ5_inflateIfNeededFor_a7421 2 none ∈ yWL := yhw (i := 5) (j := 212) rfl rfl
theorem yhw349 : Cond.code yJ5_isLatin1_aae02 cJ5_isLatin1_aae02 1 (some .boolean) ∈ yWL := yhw (i := 4) (j := 172) rfl rfl
theorem yhw350 : Cond.code yJ5_length_8abf5 cJ5_length_8abf5 1 (some .int) ∈ yWL := yhw (i := 4) (j := 226) rfl rfl
theorem yhw351 : Cond.code yJ5_newCapacity_0f7a4 cJ5_newCapacity_0f7a4 6 (some .int) ∈ yWL := yhw (i := 4) (j := 144) rfl rfl
theorem yhw352 : Cond.code yJ5_putStringAt_47b60 cJ5_putStringAt_47b60 3 none ∈ yWL := yhw (i := 5) (j := 208) rfl rfl
theorem yhw353 : Cond.code yJ11_highSurrogate_5068e cJ11_highSurrogate_5068e 1 (some .char) ∈ yWL := yhw (i := 3) (j := 213) rfl rfl
theorem yhw354 : Cond.code yJ11_isValidCodePoint_9a6ad cJ11_isValidCodePoint_9a6ad 2 (some .boolean) ∈ yWL := yhw (i := 3) (j := 210) rfl rfl
theorem yhw355 : Cond.code yJ11_lowSurrogate_5068e cJ11_lowSurrogate_5068e 1 (some .char) ∈ yWL := yhw (i := 3) (j := 217) rfl rfl
theorem yhw356 : Cond.code yJx29ce0_ordinal_8abf5 cJx29ce0_ordinal_8abf5 1 (some .int) ∈ yWL := yhw (i := 4) (j := 85) rfl rfl
theorem yhw357 : Cond.code yJ6_bitCount_0f7a4 cJ6_bitCount_0f7a4 1 (some .int) ∈ yWL := yhw (i := 7) (j := 134) rfl rfl
theorem yhw358 : Cond.code yJ6_getChars_ba4f3 cJ6_getChars_ba4f3 7 (some .int) ∈ yWL := yhw (i := 5) (j := 237) rfl rfl
theorem yhw359 : Cond.code yJ6_stringSize_0f7a4 cJ6_stringSize_0f7a4 4 (some .int) ∈ yWL := yhw (i := 5) (j := 234) rfl rfl
theorem yhw360 : Cond.code yX13_max cX13_max 2 (some .int) ∈ yWL := yhw (i := 10) (j := 59) rfl rfl
theorem yhw361 : Cond.code yX13_max cX13_max 2 (some .int) ∈ yWL := yhw (i := 10) (j := 59) rfl rfl
theorem yhw362 : Cond.code yX13_max cX13_max 2 (some .int) ∈ yWL := yhw (i := 10) (j := 59) rfl rfl
theorem yhw363 : Cond.code yX13_max cX13_max 2 (some .int) ∈ yWL := yhw (i := 10) (j := 59) rfl rfl
theorem yhw364 : Cond.code yX13_max cX13_max 2 (some .int) ∈ yWL := yhw (i := 10) (j := 59) rfl rfl
theorem yhw365 : Cond.code yX13_max cX13_max 2 (some .int) ∈ yWL := yhw (i := 10) (j := 59) rfl rfl
theorem yhw366 : Cond.code yJ0_init_db425 cJ0_init_db425 5 none ∈ yWL := yhw (i := 4) (j := 212) rfl rfl
theorem yhw367 : Cond.code yJ0_init_81219 cJ0_init_81219 2 none ∈ yWL := yhw (i := 4) (j := 209) rfl rfl
theorem yhw368 : Cond.code yJ0_charAt_5068e cJ0_charAt_5068e 2 (some .char) ∈ yWL := yhw (i := 3) (j := 233) rfl rfl
theorem yhw369 : Cond.code yJ0_checkBoundsBeginEnd_23922 cJ0_checkBoundsBeginEnd_23922 3 none ∈ yWL := yhw (i := 3) (j := 187) rfl rfl
theorem yhw370 : Cond.code yJ0_checkBoundsOffCount_cabcc cJ0_checkBoundsOffCount_cabcc 3 (some .int) ∈ yWL := yhw (i := 4) (j := 191) rfl rfl
theorem yhw371 : Cond.code yJ0_checkIndex_df160 cJ0_checkIndex_df160 2 none ∈ yWL := yhw (i := 3) (j := 239) rfl rfl
theorem yhw372 : Cond.code yJ0_coder_7d493 cJ0_coder_7d493 1 (some .byte) ∈ yWL := yhw (i := 3) (j := 158) rfl rfl
theorem yhw373 : Cond.code yJ0_getBytes_840e7 cJ0_getBytes_840e7 4 none ∈ yWL := yhw (i := 5) (j := 217) rfl rfl
theorem yhw374 : Cond.code yJ0_indexOf_0f7a4 cJ0_indexOf_0f7a4 2 (some .int) ∈ yWL := yhw (i := 3) (j := 140) rfl rfl
theorem yhw375 : Cond.code yJ0_indexOf_7cf53 cJ0_indexOf_7cf53 3 (some .int) ∈ yWL := yhw (i := 3) (j := 144) rfl rfl
set_option maxRecDepth 100000 in
theorem yHz7 : yH 94 yMz7 := yH_c (n := 93) (n' := 94) rfl yhw329 (yH_c (n := 92) (n' := 93) rfl yhw330 (yH_c (n := 91) (n' := 92) rfl yhw331 (yH_c (n := 90) (n' := 91) rfl yhw332 (yH_c (n := 89) (n' := 90) rfl yhw333 (yH_c (n := 88) (n' := 89) rfl yhw334 (yH_c (n := 87) (n' := 88) rfl yhw335 (yH_c (n := 86) (n' := 87) rfl yhw336 (yH_c (n := 85) (n' := 86) rfl yhw337 (yH_c (n := 84) (n' := 85) rfl yhw338 (yH_c (n := 83) (n' := 84) rfl yhw339 (yH_c (n := 82) (n' := 83) rfl yhw340 (yH_c (n := 81) (n' := 82) rfl yhw341 (yH_c (n := 80) (n' := 81) rfl yhw342 (yH_c (n := 79) (n' := 80) rfl yhw343 (yH_c (n := 78) (n' := 79) rfl yhw344 (yH_c (n := 77) (n' := 78) rfl yhw345 (yH_c (n := 76) (n' := 77) rfl yhw346 (yH_c (n := 75) (n' := 76) rfl yhw347 (yH_c (n := 74) (n' := 75) rfl yhw348 (yH_c (n := 73) (n' := 74) rfl yhw349 (yH_c (n := 72) (n' := 73) rfl yhw350 (yH_c (n := 71) (n' := 72) rfl yhw351 (yH_c (n := 70) (n' := 71) rfl yhw352 (yH_c (n := 69) (n' := 70) rfl yhw353 (yH_c (n := 68) (n' := 69) rfl yhw354 (yH_c (n := 67) (n' := 68) rfl yhw355 (yH_c (n := 66) (n' := 67) rfl yhw356 (yH_c (n := 65) (n' := 66) rfl yhw357 (yH_c (n := 64) (n' := 65) rfl yhw358 (yH_c (n := 63) (n' := 64) rfl yhw359 (yH_c (n := 62) (n' := 63) rfl yhw360 (yH_c (n := 61) (n' := 62) rfl yhw361 (yH_c (n := 60) (n' := 61) rfl yhw362 (yH_c (n := 59) (n' := 60) rfl yhw363 (yH_c (n := 58) (n' := 59) rfl yhw364 (yH_c (n := 57) (n' := 58) rfl yhw365 (yH_c (n := 56) (n' := 57) rfl yhw366 (yH_c (n := 55) (n' := 56) rfl yhw367 (yH_c (n := 54) (n' := 55) rfl yhw368 (yH_c (n := 53) (n' := 54) rfl yhw369 (yH_c (n := 52) (n' := 53) rfl yhw370 (yH_c (n := 51) (n' := 52) rfl yhw371 (yH_c (n := 50) (n' := 51) rfl yhw372 (yH_c (n := 49) (n' := 50) rfl yhw373 (yH_c (n := 48) (n' := 49) rfl yhw374 (yH_c (n := 47) (n' := 48) rfl yhw375 (yHz8)))))))))))))))))))))))))))))))))))))))))))))))
set_option maxRecDepth 100000 in
def yMz6 : List yMt := (yX8_passWord, cX8_passWord, 2, (some .boolean), 1) :: (yX8_passNumber, cX8_passNumber, 2, (some .int), 1) :: (yX8_opens, cX8_opens, 1, (some .boolean), 1) :: (yX8_closes, cX8_closes, 2, (some (.object "LinenPool$Node")), 0) :: (yX8_readStatement, cX8_readStatement, 2, (some (.object "LinenPool$Node")), 10) :: (yX8_readRest, cX8_readRest, 3, (some (.object "LinenPool$Node")), 9) :: (yX8_readNewName, cX8_readNewName, 5, none, 8) :: (yX8_readParty, cX8_readParty, 2, none, 1) :: (yX8_readPair, cX8_readPair, 3, none, 2) :: (yX8_letHere, cX8_letHere, 2, (some (.object "LinenPool$Node")), 6) :: (yX8_readEx, cX8_readEx, 1, (some (.object "LinenPool$Node")), 8) :: (yX8_readIf, cX8_readIf, 4, (some (.object "LinenPool$Node")), 8) :: (yX8_readSum, cX8_readSum, 5, (some (.object "LinenPool$Node")), 8) :: (yX8_readProd, cX8_readProd, 5, (some (.object "LinenPool$Node")), 8) :: (yX8_isTimes, cX8_isTimes, 1, (some .boolean), 0) :: (yX8_append, cX8_append, 3, (some (.object "LinenPool$Node")), 0) :: (yX8_readAtom, cX8_readAtom, 2, (some (.object "LinenPool$Node")), 8) :: (yX8_readToParen, cX8_readToParen, 2, (some (.object "LinenPool$Node")), 2) :: (yX8_readList, cX8_readList, 5, (some (.object "LinenPool$Node")), 8) :: (yX8_readWord, cX8_readWord, 4, (some (.object "LinenPool$Node")), 7) :: (yX8_readCond, cX8_readCond, 4, (some (.object "LinenPool$Node")), 8) :: (yX8_readAll_, cX8_readAll_, 4, (some (.object "LinenPool$Node")), 8) :: (yX8_readTest, cX8_readTest, 4, (some (.object "LinenPool$Node")), 8) :: (yX8_readToBracket, cX8_readToBracket, 2, (some (.object "LinenPool$Node")), 2) :: (yX9_init, cX9_init, 1, none, 0) :: (yX9_has, cX9_has, 2, (some .boolean), 1) :: (yX9_add, cX9_add, 6, (some .int), 0) :: (yX9_waysOrPieces, cX9_waysOrPieces, 5, (some .int), 2) :: (yX9_fewest, cX9_fewest, 5, (some .int), 1) :: (yX9_greatest, cX9_greatest, 5, (some .int), 1) :: (yX9_waysWithin, cX9_waysWithin, 5, (some .int), 0) :: (yX9_spread, cX9_spread, 6, none, 1) :: (yX9_addPieces, cX9_addPieces, 6, none, 0) :: (yX10_init, cX10_init, 1, none, 0) :: (yX10_plan, cX10_plan, 6, none, 1) :: (yX10_choose, cX10_choose, 7, none, 0) :: (yX10_canBe, cX10_canBe, 1, (some .boolean), 0) :: (yX10_fewestCoins, cX10_fewestCoins, 1, (some .int), 0) :: (yX10_lotsOn, cX10_lotsOn, 4, (some .int), 0) :: (yX11_init, cX11_init, 6, none, 0) :: (yX11_lastOf, cX11_lastOf, 4, (some (.object "LinenPool$Node")), 0) :: (yX11_lastPrice, cX11_lastPrice, 5, (some (.object "LinenPool$Node")), 0) :: (yX11_lastLoss, cX11_lastLoss, 4, (some (.object "LinenPool$Node")), 0) :: (yX11_firstFeast, cX11_firstFeast, 3, (some (.object "LinenPool$Node")), 0) :: (yX11_hasName, cX11_hasName, 2, (some .boolean), 1) :: (yX11_nameOf, cX11_nameOf, 2, (some .long), 2) :: (yX11_exOfStatement, cX11_exOfStatement, 2, (some .long), 3) :: yMz7
theorem yhw282 : Cond.code yX8_passWord cX8_passWord 2 (some .boolean) ∈ yWL := yhw (i := 5) (j := 41) rfl rfl
theorem yhw283 : Cond.code yX8_passNumber cX8_passNumber 2 (some .int) ∈ yWL := yhw (i := 5) (j := 21) rfl rfl
theorem yhw284 : Cond.code yX8_opens cX8_opens 1 (some .boolean) ∈ yWL := yhw (i := 5) (j := 74) rfl rfl
theorem yhw285 : Cond.code yX8_closes cX8_closes 2 (some (.object "LinenPool$Node")) ∈ yWL := yhw (i := 5) (j := 97) rfl rfl
theorem yhw286 : Cond.code yX8_readStatement cX8_readStatement 2 (some (.object "LinenPool$Node")) ∈ yWL := yhw (i := 4) (j := 21) rfl rfl
theorem yhw287 : Cond.code yX8_readRest cX8_readRest 3 (some (.object "LinenPool$Node")) ∈ yWL := yhw (i := 5) (j := 49) rfl rfl
theorem yhw288 : Cond.code yX8_readNewName cX8_readNewName 5 none ∈ yWL := yhw (i := 4) (j := 93) rfl rfl
theorem yhw289 : Cond.code yX8_readParty cX8_readParty 2 none ∈ yWL := yhw (i := 5) (j := 25) rfl rfl
theorem yhw290 : Cond.code yX8_readPair cX8_readPair 3 none ∈ yWL := yhw (i := 5) (j := 37) rfl rfl
theorem yhw291 : Cond.code yX8_letHere cX8_letHere 2 (some (.object "LinenPool$Node")) ∈ yWL := yhw (i := 4) (j := 97) rfl rfl
theorem yhw292 : Cond.code yX8_readEx cX8_readEx 1 (some (.object "LinenPool$Node")) ∈ yWL := yhw (i := 5) (j := 64) rfl rfl
theorem yhw293 : Cond.code yX8_readIf cX8_readIf 4 (some (.object "LinenPool$Node")) ∈ yWL := yhw (i := 5) (j := 70) rfl rfl
theorem yhw294 : Cond.code yX8_readSum cX8_readSum 5 (some (.object "LinenPool$Node")) ∈ yWL := yhw (i := 5) (j := 105) rfl rfl
theorem yhw295 : Cond.code yX8_readProd cX8_readProd 5 (some (.object "LinenPool$Node")) ∈ yWL := yhw (i := 5) (j := 109) rfl rfl
theorem yhw296 : Cond.code yX8_isTimes cX8_isTimes 1 (some .boolean) ∈ yWL := yhw (i := 5) (j := 142) rfl rfl
theorem yhw297 : Cond.code yX8_append cX8_append 3 (some (.object "LinenPool$Node")) ∈ yWL := yhw (i := 5) (j := 132) rfl rfl
theorem yhw298 : Cond.code yX8_readAtom cX8_readAtom 2 (some (.object "LinenPool$Node")) ∈ yWL := yhw (i := 5) (j := 113) rfl rfl
theorem yhw299 : Cond.code yX8_readToParen cX8_readToParen 2 (some (.object "LinenPool$Node")) ∈ yWL := yhw (i := 5) (j := 119) rfl rfl
theorem yhw300 : Cond.code yX8_readList cX8_readList 5 (some (.object "LinenPool$Node")) ∈ yWL := yhw (i := 5) (j := 129) rfl rfl
theorem yhw301 : Cond.code yX8_readWord cX8_readWord 4 (some (.object "LinenPool$Node")) ∈ yWL := yhw (i := 5) (j := 136) rfl rfl
theorem yhw302 : Cond.code yX8_readCond cX8_readCond 4 (some (.object "LinenPool$Node")) ∈ yWL := yhw (i := 5) (j := 78) rfl rfl
theorem yhw303 : Cond.code yX8_readAll_ cX8_readAll_ 4 (some (.object "LinenPool$Node")) ∈ yWL := yhw (i := 5) (j := 82) rfl rfl
theorem yhw304 : Cond.code yX8_readTest cX8_readTest 4 (some (.object "LinenPool$Node")) ∈ yWL := yhw (i := 5) (j := 86) rfl rfl
theorem yhw305 : Cond.code yX8_readToBracket cX8_readToBracket 2 (some (.object "LinenPool$Node")) ∈ yWL := yhw (i := 5) (j := 101) rfl rfl
theorem yhw306 : Cond.code yX9_init cX9_init 1 none ∈ yWL := yhw (i := 0) (j := 41) rfl rfl
theorem yhw307 : Cond.code yX9_has cX9_has 2 (some .boolean) ∈ yWL := yhw (i := 2) (j := 57) rfl rfl
theorem yhw308 : Cond.code yX9_add cX9_add 6 (some .int) ∈ yWL := yhw (i := 2) (j := 41) rfl rfl
theorem yhw309 : Cond.code yX9_waysOrPieces cX9_waysOrPieces 5 (some .int) ∈ yWL := yhw (i := 3) (j := 78) rfl rfl
theorem yhw310 : Cond.code yX9_fewest cX9_fewest 5 (some .int) ∈ yWL := yhw (i := 3) (j := 97) rfl rfl
theorem yhw311 : Cond.code yX9_greatest cX9_greatest 5 (some .int) ∈ yWL := yhw (i := 3) (j := 101) rfl rfl
theorem yhw312 : Cond.code yX9_waysWithin cX9_waysWithin 5 (some .int) ∈ yWL := yhw (i := 3) (j := 91) rfl rfl
theorem yhw313 : Cond.code yX9_spread cX9_spread 6 none ∈ yWL := yhw (i := 3) (j := 82) rfl rfl
theorem yhw314 : Cond.code yX9_addPieces cX9_addPieces 6 none ∈ yWL := yhw (i := 3) (j := 87) rfl rfl
theorem yhw315 : Cond.code yX10_init cX10_init 1 none ∈ yWL := yhw (i := 1) (j := 150) rfl rfl
theorem yhw316 : Cond.code yX10_plan cX10_plan 6 none ∈ yWL := yhw (i := 7) (j := 179) rfl rfl
theorem yhw317 : Cond.code yX10_choose cX10_choose 7 none ∈ yWL := yhw (i := 7) (j := 184) rfl rfl
theorem yhw318 : Cond.code yX10_canBe cX10_canBe 1 (some .boolean) ∈ yWL := yhw (i := 7) (j := 189) rfl rfl
theorem yhw319 : Cond.code yX10_fewestCoins cX10_fewestCoins 1 (some .int) ∈ yWL := yhw (i := 7) (j := 193) rfl rfl
theorem yhw320 : Cond.code yX10_lotsOn cX10_lotsOn 4 (some .int) ∈ yWL := yhw (i := 7) (j := 197) rfl rfl
theorem yhw321 : Cond.code yX11_init cX11_init 6 none ∈ yWL := yhw (i := 6) (j := 54) rfl rfl
theorem yhw322 : Cond.code yX11_lastOf cX11_lastOf 4 (some (.object "LinenPool$Node")) ∈ yWL := yhw (i := 2) (j := 205) rfl rfl
theorem yhw323 : Cond.code yX11_lastPrice cX11_lastPrice 5 (some (.object "LinenPool$Node")) ∈ yWL := yhw (i := 6) (j := 213) rfl rfl
theorem yhw324 : Cond.code yX11_lastLoss cX11_lastLoss 4 (some (.object "LinenPool$Node")) ∈ yWL := yhw (i := 7) (j := 10) rfl rfl
theorem yhw325 : Cond.code yX11_firstFeast cX11_firstFeast 3 (some (.object "LinenPool$Node")) ∈ yWL := yhw (i := 7) (j := 58) rfl rfl
theorem yhw326 : Cond.code yX11_hasName cX11_hasName 2 (some .boolean) ∈ yWL := yhw (i := 6) (j := 96) rfl rfl
theorem yhw327 : Cond.code yX11_nameOf cX11_nameOf 2 (some .long) ∈ yWL := yhw (i := 6) (j := 200) rfl rfl
theorem yhw328 : Cond.code yX11_exOfStatement cX11_exOfStatement 2 (some .long) ∈ yWL := yhw (i := 6) (j := 219) rfl rfl
set_option maxRecDepth 100000 in
theorem yHz6 : yH 141 yMz6 := yH_c (n := 140) (n' := 141) rfl yhw282 (yH_c (n := 139) (n' := 140) rfl yhw283 (yH_c (n := 138) (n' := 139) rfl yhw284 (yH_c (n := 137) (n' := 138) rfl yhw285 (yH_c (n := 136) (n' := 137) rfl yhw286 (yH_c (n := 135) (n' := 136) rfl yhw287 (yH_c (n := 134) (n' := 135) rfl yhw288 (yH_c (n := 133) (n' := 134) rfl yhw289 (yH_c (n := 132) (n' := 133) rfl yhw290 (yH_c (n := 131) (n' := 132) rfl yhw291 (yH_c (n := 130) (n' := 131) rfl yhw292 (yH_c (n := 129) (n' := 130) rfl yhw293 (yH_c (n := 128) (n' := 129) rfl yhw294 (yH_c (n := 127) (n' := 128) rfl yhw295 (yH_c (n := 126) (n' := 127) rfl yhw296 (yH_c (n := 125) (n' := 126) rfl yhw297 (yH_c (n := 124) (n' := 125) rfl yhw298 (yH_c (n := 123) (n' := 124) rfl yhw299 (yH_c (n := 122) (n' := 123) rfl yhw300 (yH_c (n := 121) (n' := 122) rfl yhw301 (yH_c (n := 120) (n' := 121) rfl yhw302 (yH_c (n := 119) (n' := 120) rfl yhw303 (yH_c (n := 118) (n' := 119) rfl yhw304 (yH_c (n := 117) (n' := 118) rfl yhw305 (yH_c (n := 116) (n' := 117) rfl yhw306 (yH_c (n := 115) (n' := 116) rfl yhw307 (yH_c (n := 114) (n' := 115) rfl yhw308 (yH_c (n := 113) (n' := 114) rfl yhw309 (yH_c (n := 112) (n' := 113) rfl yhw310 (yH_c (n := 111) (n' := 112) rfl yhw311 (yH_c (n := 110) (n' := 111) rfl yhw312 (yH_c (n := 109) (n' := 110) rfl yhw313 (yH_c (n := 108) (n' := 109) rfl yhw314 (yH_c (n := 107) (n' := 108) rfl yhw315 (yH_c (n := 106) (n' := 107) rfl yhw316 (yH_c (n := 105) (n' := 106) rfl yhw317 (yH_c (n := 104) (n' := 105) rfl yhw318 (yH_c (n := 103) (n' := 104) rfl yhw319 (yH_c (n := 102) (n' := 103) rfl yhw320 (yH_c (n := 101) (n' := 102) rfl yhw321 (yH_c (n := 100) (n' := 101) rfl yhw322 (yH_c (n := 99) (n' := 100) rfl yhw323 (yH_c (n := 98) (n' := 99) rfl yhw324 (yH_c (n := 97) (n' := 98) rfl yhw325 (yH_c (n := 96) (n' := 97) rfl yhw326 (yH_c (n := 95) (n' := 96) rfl yhw327 (yH_c (n := 94) (n' := 95) rfl yhw328 (yHz7)))))))))))))))))))))))))))))))))))))))))))))))
set_option maxRecDepth 100000 in
def yMz5 : List yMt := (yX5_shareBy, cX5_shareBy, 5, (some .long), 4) :: (yX5_lostValue, cX5_lostValue, 6, (some .int), 3) :: (yX5_partOfValue, cX5_partOfValue, 9, (some .long), 1) :: (yX5_greatestRest, cX5_greatestRest, 3, (some .int), 0) :: (yX5_isDue, cX5_isDue, 5, (some .boolean), 5) :: (yX5_dueSheet, cX5_dueSheet, 4, (some .int), 6) :: (yX5_wantedOn, cX5_wantedOn, 10, (some .int), 4) :: (yX5_mixes, cX5_mixes, 4, (some .int), 1) :: (yX6_init, cX6_init, 2, none, 0) :: (yX6_addWasher, cX6_addWasher, 4, (some .int), 0) :: (yX6_addJob, cX6_addJob, 4, (some .int), 0) :: (yX6_plan, cX6_plan, 2, none, 4) :: (yX6_search, cX6_search, 7, none, 3) :: (yX6_tryNext, cX6_tryNext, 14, none, 3) :: (yX6_firstReady, cX6_firstReady, 4, (some .int), 2) :: (yX6_firstDryer, cX6_firstDryer, 3, (some .int), 0) :: (yX6_readyOn, cX6_readyOn, 6, (some .int), 1) :: (yX6_needsChange, cX6_needsChange, 3, (some .boolean), 0) :: (yX7_init, cX7_init, 2, none, 0) :: (yX7_of, cX7_of, 3, (some (.object "LinenPool$Node")), 1) :: (yX7_textOf, cX7_textOf, 3, (some (.object "java/lang/String")), 13) :: (yX7_writeStatement, cX7_writeStatement, 2, none, 12) :: (yX7_writePair, cX7_writePair, 3, none, 11) :: (yX7_write, cX7_write, 2, none, 11) :: (yX7_writeJoined, cX7_writeJoined, 3, none, 11) :: (yX7_writeConds, cX7_writeConds, 3, none, 11) :: (yX7_writeIf, cX7_writeIf, 4, none, 11) :: (yX7_writeList, cX7_writeList, 3, none, 11) :: (yX7_writePart, cX7_writePart, 5, none, 11) :: (yX7_isHeldApart, cX7_isHeldApart, 3, (some .boolean), 1) :: (yX7_writeWord, cX7_writeWord, 2, none, 10) :: (yX7_writeNumber, cX7_writeNumber, 2, none, 9) :: (yX7_partFromWord, cX7_partFromWord, 2, none, 8) :: (yX8_init, cX8_init, 1, none, 0) :: (yX8_readAll, cX8_readAll, 5, (some (.object "LinenPool$Node")), 11) :: (yX8_chain, cX8_chain, 2, none, 1) :: (yX8_isLetter, cX8_isLetter, 1, (some .boolean), 0) :: (yX8_isDigit, cX8_isDigit, 1, (some .boolean), 0) :: (yX8_scanAll, cX8_scanAll, 5, none, 8) :: (yX8_kindOf, cX8_kindOf, 1, (some .char), 7) :: (yX8_wordOf, cX8_wordOf, 3, (some (.object "LinenPool$Kind")), 6) :: (yX8_readDigits, cX8_readDigits, 3, none, 0) :: (yX8_isWritten, cX8_isWritten, 5, (some .boolean), 5) :: (yX8_begin, cX8_begin, 1, none, 0) :: (yX8_step, cX8_step, 1, none, 0) :: (yX8_fail, cX8_fail, 1, (some (.object "LinenPool$Node")), 0) :: (yX8_pass, cX8_pass, 2, (some .boolean), 1) :: yMz6
theorem yhw235 : Cond.code yX5_shareBy cX5_shareBy 5 (some .long) ∈ yWL := yhw (i := 7) (j := 6) rfl rfl
theorem yhw236 : Cond.code yX5_lostValue cX5_lostValue 6 (some .int) ∈ yWL := yhw (i := 7) (j := 18) rfl rfl
theorem yhw237 : Cond.code yX5_partOfValue cX5_partOfValue 9 (some .long) ∈ yWL := yhw (i := 7) (j := 23) rfl rfl
theorem yhw238 : Cond.code yX5_greatestRest cX5_greatestRest 3 (some .int) ∈ yWL := yhw (i := 7) (j := 27) rfl rfl
theorem yhw239 : Cond.code yX5_isDue cX5_isDue 5 (some .boolean) ∈ yWL := yhw (i := 7) (j := 40) rfl rfl
theorem yhw240 : Cond.code yX5_dueSheet cX5_dueSheet 4 (some .int) ∈ yWL := yhw (i := 7) (j := 36) rfl rfl
theorem yhw241 : Cond.code yX5_wantedOn cX5_wantedOn 10 (some .int) ∈ yWL := yhw (i := 7) (j := 54) rfl rfl
theorem yhw242 : Cond.code yX5_mixes cX5_mixes 4 (some .int) ∈ yWL := yhw (i := 7) (j := 94) rfl rfl
theorem yhw243 : Cond.code yX6_init cX6_init 2 none ∈ yWL := yhw (i := 1) (j := 76) rfl rfl
theorem yhw244 : Cond.code yX6_addWasher cX6_addWasher 4 (some .int) ∈ yWL := yhw (i := 7) (j := 70) rfl rfl
theorem yhw245 : Cond.code yX6_addJob cX6_addJob 4 (some .int) ∈ yWL := yhw (i := 7) (j := 82) rfl rfl
theorem yhw246 : Cond.code yX6_plan cX6_plan 2 none ∈ yWL := yhw (i := 7) (j := 99) rfl rfl
theorem yhw247 : Cond.code yX6_search cX6_search 7 none ∈ yWL := yhw (i := 7) (j := 105) rfl rfl
theorem yhw248 : Cond.code yX6_tryNext cX6_tryNext 14 none ∈ yWL := yhw (i := 7) (j := 110) rfl rfl
theorem yhw249 : Cond.code yX6_firstReady cX6_firstReady 4 (some .int) ∈ yWL := yhw (i := 7) (j := 114) rfl rfl
theorem yhw250 : Cond.code yX6_firstDryer cX6_firstDryer 3 (some .int) ∈ yWL := yhw (i := 7) (j := 127) rfl rfl
theorem yhw251 : Cond.code yX6_readyOn cX6_readyOn 6 (some .int) ∈ yWL := yhw (i := 7) (j := 118) rfl rfl
theorem yhw252 : Cond.code yX6_needsChange cX6_needsChange 3 (some .boolean) ∈ yWL := yhw (i := 7) (j := 123) rfl rfl
theorem yhw253 : Cond.code yX7_init cX7_init 2 none ∈ yWL := yhw (i := 4) (j := 30) rfl rfl
theorem yhw254 : Cond.code yX7_of cX7_of 3 (some (.object "LinenPool$Node")) ∈ yWL := yhw (i := 5) (j := 91) rfl rfl
theorem yhw255 : Cond.code yX7_textOf cX7_textOf 3 (some (.object "java/lang/String")) ∈ yWL := yhw (i := 5) (j := 164) rfl rfl
theorem yhw256 : Cond.code yX7_writeStatement cX7_writeStatement 2 none ∈ yWL := yhw (i := 5) (j := 169) rfl rfl
theorem yhw257 : Cond.code yX7_writePair cX7_writePair 3 none ∈ yWL := yhw (i := 6) (j := 13) rfl rfl
theorem yhw258 : Cond.code yX7_write cX7_write 2 none ∈ yWL := yhw (i := 6) (j := 20) rfl rfl
theorem yhw259 : Cond.code yX7_writeJoined cX7_writeJoined 3 none ∈ yWL := yhw (i := 6) (j := 23) rfl rfl
theorem yhw260 : Cond.code yX7_writeConds cX7_writeConds 3 none ∈ yWL := yhw (i := 6) (j := 37) rfl rfl
theorem yhw261 : Cond.code yX7_writeIf cX7_writeIf 4 none ∈ yWL := yhw (i := 6) (j := 40) rfl rfl
theorem yhw262 : Cond.code yX7_writeList cX7_writeList 3 none ∈ yWL := yhw (i := 6) (j := 45) rfl rfl
theorem yhw263 : Cond.code yX7_writePart cX7_writePart 5 none ∈ yWL := yhw (i := 6) (j := 26) rfl rfl
theorem yhw264 : Cond.code yX7_isHeldApart cX7_isHeldApart 3 (some .boolean) ∈ yWL := yhw (i := 6) (j := 29) rfl rfl
theorem yhw265 : Cond.code yX7_writeWord cX7_writeWord 2 none ∈ yWL := yhw (i := 5) (j := 172) rfl rfl
theorem yhw266 : Cond.code yX7_writeNumber cX7_writeNumber 2 none ∈ yWL := yhw (i := 5) (j := 224) rfl rfl
theorem yhw267 : Cond.code yX7_partFromWord cX7_partFromWord 2 none ∈ yWL := yhw (i := 5) (j := 175) rfl rfl
theorem yhw268 : Cond.code yX8_init cX8_init 1 none ∈ yWL := yhw (i := 1) (j := 184) rfl rfl
theorem yhw269 : Cond.code yX8_readAll cX8_readAll 5 (some (.object "LinenPool$Node")) ∈ yWL := yhw (i := 3) (j := 121) rfl rfl
theorem yhw270 : Cond.code yX8_chain cX8_chain 2 none ∈ yWL := yhw (i := 5) (j := 160) rfl rfl
theorem yhw271 : Cond.code yX8_isLetter cX8_isLetter 1 (some .boolean) ∈ yWL := yhw (i := 3) (j := 132) rfl rfl
theorem yhw272 : Cond.code yX8_isDigit cX8_isDigit 1 (some .boolean) ∈ yWL := yhw (i := 3) (j := 135) rfl rfl
theorem yhw273 : Cond.code yX8_scanAll cX8_scanAll 5 none ∈ yWL := yhw (i := 3) (j := 126) rfl rfl
theorem yhw274 : Cond.code yX8_kindOf cX8_kindOf 1 (some .char) ∈ yWL := yhw (i := 3) (j := 129) rfl rfl
theorem yhw275 : Cond.code yX8_wordOf cX8_wordOf 3 (some (.object "LinenPool$Kind")) ∈ yWL := yhw (i := 3) (j := 222) rfl rfl
theorem yhw276 : Cond.code yX8_readDigits cX8_readDigits 3 none ∈ yWL := yhw (i := 4) (j := 13) rfl rfl
theorem yhw277 : Cond.code yX8_isWritten cX8_isWritten 5 (some .boolean) ∈ yWL := yhw (i := 3) (j := 228) rfl rfl
theorem yhw278 : Cond.code yX8_begin cX8_begin 1 none ∈ yWL := yhw (i := 4) (j := 17) rfl rfl
theorem yhw279 : Cond.code yX8_step cX8_step 1 none ∈ yWL := yhw (i := 4) (j := 89) rfl rfl
theorem yhw280 : Cond.code yX8_fail cX8_fail 1 (some (.object "LinenPool$Node")) ∈ yWL := yhw (i := 4) (j := 25) rfl rfl
theorem yhw281 : Cond.code yX8_pass cX8_pass 2 (some .boolean) ∈ yWL := yhw (i := 5) (j := 60) rfl rfl
set_option maxRecDepth 100000 in
theorem yHz5 : yH 188 yMz5 := yH_c (n := 187) (n' := 188) rfl yhw235 (yH_c (n := 186) (n' := 187) rfl yhw236 (yH_c (n := 185) (n' := 186) rfl yhw237 (yH_c (n := 184) (n' := 185) rfl yhw238 (yH_c (n := 183) (n' := 184) rfl yhw239 (yH_c (n := 182) (n' := 183) rfl yhw240 (yH_c (n := 181) (n' := 182) rfl yhw241 (yH_c (n := 180) (n' := 181) rfl yhw242 (yH_c (n := 179) (n' := 180) rfl yhw243 (yH_c (n := 178) (n' := 179) rfl yhw244 (yH_c (n := 177) (n' := 178) rfl yhw245 (yH_c (n := 176) (n' := 177) rfl yhw246 (yH_c (n := 175) (n' := 176) rfl yhw247 (yH_c (n := 174) (n' := 175) rfl yhw248 (yH_c (n := 173) (n' := 174) rfl yhw249 (yH_c (n := 172) (n' := 173) rfl yhw250 (yH_c (n := 171) (n' := 172) rfl yhw251 (yH_c (n := 170) (n' := 171) rfl yhw252 (yH_c (n := 169) (n' := 170) rfl yhw253 (yH_c (n := 168) (n' := 169) rfl yhw254 (yH_c (n := 167) (n' := 168) rfl yhw255 (yH_c (n := 166) (n' := 167) rfl yhw256 (yH_c (n := 165) (n' := 166) rfl yhw257 (yH_c (n := 164) (n' := 165) rfl yhw258 (yH_c (n := 163) (n' := 164) rfl yhw259 (yH_c (n := 162) (n' := 163) rfl yhw260 (yH_c (n := 161) (n' := 162) rfl yhw261 (yH_c (n := 160) (n' := 161) rfl yhw262 (yH_c (n := 159) (n' := 160) rfl yhw263 (yH_c (n := 158) (n' := 159) rfl yhw264 (yH_c (n := 157) (n' := 158) rfl yhw265 (yH_c (n := 156) (n' := 157) rfl yhw266 (yH_c (n := 155) (n' := 156) rfl yhw267 (yH_c (n := 154) (n' := 155) rfl yhw268 (yH_c (n := 153) (n' := 154) rfl yhw269 (yH_c (n := 152) (n' := 153) rfl yhw270 (yH_c (n := 151) (n' := 152) rfl yhw271 (yH_c (n := 150) (n' := 151) rfl yhw272 (yH_c (n := 149) (n' := 150) rfl yhw273 (yH_c (n := 148) (n' := 149) rfl yhw274 (yH_c (n := 147) (n' := 148) rfl yhw275 (yH_c (n := 146) (n' := 147) rfl yhw276 (yH_c (n := 145) (n' := 146) rfl yhw277 (yH_c (n := 144) (n' := 145) rfl yhw278 (yH_c (n := 143) (n' := 144) rfl yhw279 (yH_c (n := 142) (n' := 143) rfl yhw280 (yH_c (n := 141) (n' := 142) rfl yhw281 (yHz6)))))))))))))))))))))))))))))))))))))))))))))))
set_option maxRecDepth 100000 in
def yMz4 : List yMt := (yX1_isKnown, cX1_isKnown, 3, (some .boolean), 0) :: (yX1_isInHistory, cX1_isInHistory, 4, (some .boolean), 1) :: (yX1_lastOf, cX1_lastOf, 7, (some .int), 2) :: (yX1_lastInto, cX1_lastInto, 8, (some .int), 2) :: (yX1_placeAt, cX1_placeAt, 5, (some .int), 3) :: (yX1_sinceAt, cX1_sinceAt, 5, (some .int), 3) :: (yX1_washesAt, cX1_washesAt, 8, (some .int), 2) :: (yX1_nightsAt, cX1_nightsAt, 10, (some .int), 2) :: (yX1_isAt, cX1_isAt, 5, (some .boolean), 4) :: (yX1_manyAt, cX1_manyAt, 7, (some .int), 5) :: (yX1_toldOfSheet, cX1_toldOfSheet, 3, (some .int), 0) :: (yX1_toldOfMove, cX1_toldOfMove, 3, (some .int), 0) :: (yX2_init, cX2_init, 2, none, 1) :: (yX2_addBag, cX2_addBag, 3, (some .int), 0) :: (yX2_addCount, cX2_addCount, 5, (some .int), 0) :: (yX2_addHeat, cX2_addHeat, 4, (some .int), 0) :: (yX2_hasHeat, cX2_hasHeat, 6, (some .boolean), 0) :: (yX2_missesOf, cX2_missesOf, 8, (some .int), 3) :: (yX2_isDoubted, cX2_isDoubted, 10, (some .boolean), 4) :: (yX2_isLostAt, cX2_isLostAt, 5, (some .boolean), 5) :: (yX2_lostAt, cX2_lostAt, 7, (some .int), 6) :: (yX2_shortAt, cX2_shortAt, 8, (some .int), 6) :: (yX3_init, cX3_init, 1, none, 0) :: (yX3_has, cX3_has, 2, (some .boolean), 1) :: (yX3_add, cX3_add, 5, (some .int), 0) :: (yX3_planRound, cX3_planRound, 3, none, 3) :: (yX3_visitRest, cX3_visitRest, 7, none, 2) :: (yX3_visitNext, cX3_visitNext, 9, none, 2) :: (yX3_goBack, cX3_goBack, 6, none, 1) :: (yX3_isBetter, cX3_isBetter, 3, (some .boolean), 0) :: (yX3_minutesApart, cX3_minutesApart, 5, (some .int), 0) :: (yX5_init, cX5_init, 5, none, 0) :: (yX5_isFull, cX5_isFull, 1, (some .boolean), 0) :: (yX5_take, cX5_take, 4, (some .int), 1) :: (yX5_inForce, cX5_inForce, 3, (some (.object "LinenPool$Terms")), 0) :: (yX5_holdDay, cX5_holdDay, 2, none, 1) :: (yX5_holdSort, cX5_holdSort, 2, none, 0) :: (yX5_holdHouse, cX5_holdHouse, 2, none, 0) :: (yX5_holdSheet, cX5_holdSheet, 4, none, 3) :: (yX5_holdSheetInPlace, cX5_holdSheetInPlace, 5, none, 4) :: (yX5_isProven, cX5_isProven, 7, (some .boolean), 1) :: (yX5_isUnsafe, cX5_isUnsafe, 5, (some .boolean), 4) :: (yX5_unsafeSheet, cX5_unsafeSheet, 5, (some .int), 5) :: (yX5_valueNow, cX5_valueNow, 4, (some .long), 5) :: (yX5_priceOn, cX5_priceOn, 8, (some .long), 4) :: (yX5_billOf, cX5_billOf, 9, (some .long), 5) :: (yX5_partOf, cX5_partOf, 9, (some .long), 6) :: yMz5
theorem yhw188 : Cond.code yX1_isKnown cX1_isKnown 3 (some .boolean) ∈ yWL := yhw (i := 2) (j := 138) rfl rfl
theorem yhw189 : Cond.code yX1_isInHistory cX1_isInHistory 4 (some .boolean) ∈ yWL := yhw (i := 2) (j := 134) rfl rfl
theorem yhw190 : Cond.code yX1_lastOf cX1_lastOf 7 (some .int) ∈ yWL := yhw (i := 2) (j := 130) rfl rfl
theorem yhw191 : Cond.code yX1_lastInto cX1_lastInto 8 (some .int) ∈ yWL := yhw (i := 2) (j := 228) rfl rfl
theorem yhw192 : Cond.code yX1_placeAt cX1_placeAt 5 (some .int) ∈ yWL := yhw (i := 2) (j := 126) rfl rfl
theorem yhw193 : Cond.code yX1_sinceAt cX1_sinceAt 5 (some .int) ∈ yWL := yhw (i := 2) (j := 146) rfl rfl
theorem yhw194 : Cond.code yX1_washesAt cX1_washesAt 8 (some .int) ∈ yWL := yhw (i := 2) (j := 154) rfl rfl
theorem yhw195 : Cond.code yX1_nightsAt cX1_nightsAt 10 (some .int) ∈ yWL := yhw (i := 2) (j := 165) rfl rfl
theorem yhw196 : Cond.code yX1_isAt cX1_isAt 5 (some .boolean) ∈ yWL := yhw (i := 2) (j := 177) rfl rfl
theorem yhw197 : Cond.code yX1_manyAt cX1_manyAt 7 (some .int) ∈ yWL := yhw (i := 2) (j := 173) rfl rfl
theorem yhw198 : Cond.code yX1_toldOfSheet cX1_toldOfSheet 3 (some .int) ∈ yWL := yhw (i := 7) (j := 205) rfl rfl
theorem yhw199 : Cond.code yX1_toldOfMove cX1_toldOfMove 3 (some .int) ∈ yWL := yhw (i := 7) (j := 209) rfl rfl
theorem yhw200 : Cond.code yX2_init cX2_init 2 none ∈ yWL := yhw (i := 0) (j := 198) rfl rfl
theorem yhw201 : Cond.code yX2_addBag cX2_addBag 3 (some .int) ∈ yWL := yhw (i := 3) (j := 5) rfl rfl
theorem yhw202 : Cond.code yX2_addCount cX2_addCount 5 (some .int) ∈ yWL := yhw (i := 3) (j := 58) rfl rfl
theorem yhw203 : Cond.code yX2_addHeat cX2_addHeat 4 (some .int) ∈ yWL := yhw (i := 2) (j := 187) rfl rfl
theorem yhw204 : Cond.code yX2_hasHeat cX2_hasHeat 6 (some .boolean) ∈ yWL := yhw (i := 2) (j := 209) rfl rfl
theorem yhw205 : Cond.code yX2_missesOf cX2_missesOf 8 (some .int) ∈ yWL := yhw (i := 3) (j := 21) rfl rfl
theorem yhw206 : Cond.code yX2_isDoubted cX2_isDoubted 10 (some .boolean) ∈ yWL := yhw (i := 3) (j := 34) rfl rfl
theorem yhw207 : Cond.code yX2_isLostAt cX2_isLostAt 5 (some .boolean) ∈ yWL := yhw (i := 3) (j := 48) rfl rfl
theorem yhw208 : Cond.code yX2_lostAt cX2_lostAt 7 (some .int) ∈ yWL := yhw (i := 3) (j := 44) rfl rfl
theorem yhw209 : Cond.code yX2_shortAt cX2_shortAt 8 (some .int) ∈ yWL := yhw (i := 3) (j := 66) rfl rfl
theorem yhw210 : Cond.code yX3_init cX3_init 1 none ∈ yWL := yhw (i := 0) (j := 84) rfl rfl
theorem yhw211 : Cond.code yX3_has cX3_has 2 (some .boolean) ∈ yWL := yhw (i := 2) (j := 83) rfl rfl
theorem yhw212 : Cond.code yX3_add cX3_add 5 (some .int) ∈ yWL := yhw (i := 2) (j := 49) rfl rfl
theorem yhw213 : Cond.code yX3_planRound cX3_planRound 3 none ∈ yWL := yhw (i := 7) (j := 141) rfl rfl
theorem yhw214 : Cond.code yX3_visitRest cX3_visitRest 7 none ∈ yWL := yhw (i := 7) (j := 146) rfl rfl
theorem yhw215 : Cond.code yX3_visitNext cX3_visitNext 9 none ∈ yWL := yhw (i := 7) (j := 166) rfl rfl
theorem yhw216 : Cond.code yX3_goBack cX3_goBack 6 none ∈ yWL := yhw (i := 7) (j := 154) rfl rfl
theorem yhw217 : Cond.code yX3_isBetter cX3_isBetter 3 (some .boolean) ∈ yWL := yhw (i := 7) (j := 150) rfl rfl
theorem yhw218 : Cond.code yX3_minutesApart cX3_minutesApart 5 (some .int) ∈ yWL := yhw (i := 7) (j := 158) rfl rfl
theorem yhw219 : Cond.code yX5_init cX5_init 5 none ∈ yWL := yhw (i := 1) (j := 28) rfl rfl
theorem yhw220 : Cond.code yX5_isFull cX5_isFull 1 (some .boolean) ∈ yWL := yhw (i := 3) (j := 117) rfl rfl
theorem yhw221 : Cond.code yX5_take cX5_take 4 (some .int) ∈ yWL := yhw (i := 6) (j := 50) rfl rfl
theorem yhw222 : Cond.code yX5_inForce cX5_inForce 3 (some (.object "LinenPool$Terms")) ∈ yWL := yhw (i := 2) (j := 199) rfl rfl
theorem yhw223 : Cond.code yX5_holdDay cX5_holdDay 2 none ∈ yWL := yhw (i := 6) (j := 110) rfl rfl
theorem yhw224 : Cond.code yX5_holdSort cX5_holdSort 2 none ∈ yWL := yhw (i := 6) (j := 119) rfl rfl
theorem yhw225 : Cond.code yX5_holdHouse cX5_holdHouse 2 none ∈ yWL := yhw (i := 6) (j := 136) rfl rfl
theorem yhw226 : Cond.code yX5_holdSheet cX5_holdSheet 4 none ∈ yWL := yhw (i := 6) (j := 106) rfl rfl
theorem yhw227 : Cond.code yX5_holdSheetInPlace cX5_holdSheetInPlace 5 none ∈ yWL := yhw (i := 6) (j := 102) rfl rfl
theorem yhw228 : Cond.code yX5_isProven cX5_isProven 7 (some .boolean) ∈ yWL := yhw (i := 2) (j := 195) rfl rfl
theorem yhw229 : Cond.code yX5_isUnsafe cX5_isUnsafe 5 (some .boolean) ∈ yWL := yhw (i := 2) (j := 223) rfl rfl
theorem yhw230 : Cond.code yX5_unsafeSheet cX5_unsafeSheet 5 (some .int) ∈ yWL := yhw (i := 2) (j := 218) rfl rfl
theorem yhw231 : Cond.code yX5_valueNow cX5_valueNow 4 (some .long) ∈ yWL := yhw (i := 6) (j := 92) rfl rfl
theorem yhw232 : Cond.code yX5_priceOn cX5_priceOn 8 (some .long) ∈ yWL := yhw (i := 6) (j := 209) rfl rfl
theorem yhw233 : Cond.code yX5_billOf cX5_billOf 9 (some .long) ∈ yWL := yhw (i := 6) (j := 229) rfl rfl
theorem yhw234 : Cond.code yX5_partOf cX5_partOf 9 (some .long) ∈ yWL := yhw (i := 7) (j := 0) rfl rfl
set_option maxRecDepth 100000 in
theorem yHz4 : yH 235 yMz4 := yH_c (n := 234) (n' := 235) rfl yhw188 (yH_c (n := 233) (n' := 234) rfl yhw189 (yH_c (n := 232) (n' := 233) rfl yhw190 (yH_c (n := 231) (n' := 232) rfl yhw191 (yH_c (n := 230) (n' := 231) rfl yhw192 (yH_c (n := 229) (n' := 230) rfl yhw193 (yH_c (n := 228) (n' := 229) rfl yhw194 (yH_c (n := 227) (n' := 228) rfl yhw195 (yH_c (n := 226) (n' := 227) rfl yhw196 (yH_c (n := 225) (n' := 226) rfl yhw197 (yH_c (n := 224) (n' := 225) rfl yhw198 (yH_c (n := 223) (n' := 224) rfl yhw199 (yH_c (n := 222) (n' := 223) rfl yhw200 (yH_c (n := 221) (n' := 222) rfl yhw201 (yH_c (n := 220) (n' := 221) rfl yhw202 (yH_c (n := 219) (n' := 220) rfl yhw203 (yH_c (n := 218) (n' := 219) rfl yhw204 (yH_c (n := 217) (n' := 218) rfl yhw205 (yH_c (n := 216) (n' := 217) rfl yhw206 (yH_c (n := 215) (n' := 216) rfl yhw207 (yH_c (n := 214) (n' := 215) rfl yhw208 (yH_c (n := 213) (n' := 214) rfl yhw209 (yH_c (n := 212) (n' := 213) rfl yhw210 (yH_c (n := 211) (n' := 212) rfl yhw211 (yH_c (n := 210) (n' := 211) rfl yhw212 (yH_c (n := 209) (n' := 210) rfl yhw213 (yH_c (n := 208) (n' := 209) rfl yhw214 (yH_c (n := 207) (n' := 208) rfl yhw215 (yH_c (n := 206) (n' := 207) rfl yhw216 (yH_c (n := 205) (n' := 206) rfl yhw217 (yH_c (n := 204) (n' := 205) rfl yhw218 (yH_c (n := 203) (n' := 204) rfl yhw219 (yH_c (n := 202) (n' := 203) rfl yhw220 (yH_c (n := 201) (n' := 202) rfl yhw221 (yH_c (n := 200) (n' := 201) rfl yhw222 (yH_c (n := 199) (n' := 200) rfl yhw223 (yH_c (n := 198) (n' := 199) rfl yhw224 (yH_c (n := 197) (n' := 198) rfl yhw225 (yH_c (n := 196) (n' := 197) rfl yhw226 (yH_c (n := 195) (n' := 196) rfl yhw227 (yH_c (n := 194) (n' := 195) rfl yhw228 (yH_c (n := 193) (n' := 194) rfl yhw229 (yH_c (n := 192) (n' := 193) rfl yhw230 (yH_c (n := 191) (n' := 192) rfl yhw231 (yH_c (n := 190) (n' := 191) rfl yhw232 (yH_c (n := 189) (n' := 190) rfl yhw233 (yH_c (n := 188) (n' := 189) rfl yhw234 (yHz5)))))))))))))))))))))))))))))))))))))))))))))))
set_option maxRecDepth 100000 in
def yMz3 : List yMt := (yX12_lot, cX12_lot, 3, (some .boolean), 1) :: (yX12_beyond, cX12_beyond, 2, (some .boolean), 1) :: (yX12_bag, cX12_bag, 4, (some .int), 2) :: (yX12_read, cX12_read, 4, (some .int), 2) :: (yX12_misses, cX12_misses, 4, (some .int), 4) :: (yX12_doubt, cX12_doubt, 4, (some .int), 5) :: (yX12_lost, cX12_lost, 6, (some .int), 7) :: (yX12_counted, cX12_counted, 6, (some .int), 2) :: (yX12_shortOf, cX12_shortOf, 6, (some .int), 7) :: (yX12_load, cX12_load, 9, (some .int), 6) :: (yX12_feed, cX12_feed, 6, (some .int), 1) :: (yX12_terms, cX12_terms, 3, (some .int), 14) :: (yX12_fault, cX12_fault, 1, (some .int), 0) :: (yX12_written, cX12_written, 4, (some .int), 5) :: (yX12_value, cX12_value, 3, (some .long), 6) :: (yX12_price, cX12_price, 4, (some .long), 5) :: (yX12_bill, cX12_bill, 6, (some .long), 6) :: (yX12_part, cX12_part, 6, (some .long), 7) :: (yX12_due, cX12_due, 2, (some .int), 7) :: (yX12_want, cX12_want, 5, (some .boolean), 2) :: (yX12_wanted, cX12_wanted, 3, (some .int), 5) :: (yX12_washer, cX12_washer, 5, (some .int), 1) :: (yX12_dryers, cX12_dryers, 2, (some .boolean), 1) :: (yX12_job, cX12_job, 5, (some .int), 2) :: (yX12_clear, cX12_clear, 2, (some .int), 0) :: (yX12_night, cX12_night, 4, (some .int), 5) :: (yX12_round, cX12_round, 5, (some .int), 4) :: (yX12_supply, cX12_supply, 5, (some .boolean), 1) :: (yX12_buy, cX12_buy, 5, (some .int), 6) :: (yX12_told, cX12_told, 3, (some .int), 2) :: (yX12_count, cX12_count, 2, (some .int), 0) :: (yX12_within, cX12_within, 3, (some .boolean), 0) :: (yX12_asNumber, cX12_asNumber, 1, (some .int), 0) :: (yX12_isDay, cX12_isDay, 1, (some .boolean), 1) :: (yX12_areDays, cX12_areDays, 2, (some .boolean), 2) :: (yX12_isPlace, cX12_isPlace, 2, (some .boolean), 2) :: (yX12_isAsked, cX12_isAsked, 4, (some .boolean), 3) :: (yX12_feedNumber, cX12_feedNumber, 3, none, 0) :: (yX1_init, cX1_init, 1, none, 0) :: (yX1_has, cX1_has, 2, (some .boolean), 1) :: (yX1_isFull, cX1_isFull, 1, (some .boolean), 0) :: (yX1_addSheet, cX1_addSheet, 3, (some .int), 0) :: (yX1_addMove, cX1_addMove, 6, (some .int), 1) :: (yX1_putInOrder, cX1_putInOrder, 6, none, 0) :: (yX1_takeBack, cX1_takeBack, 2, (some .boolean), 1) :: (yX1_isRead, cX1_isRead, 5, (some .boolean), 0) :: (yX1_hasCome, cX1_hasCome, 4, (some .boolean), 0) :: yMz4
theorem yhw141 : Cond.code yX12_lot cX12_lot 3 (some .boolean) ∈ yWL := yhw (i := 2) (j := 233) rfl rfl
theorem yhw142 : Cond.code yX12_beyond cX12_beyond 2 (some .boolean) ∈ yWL := yhw (i := 2) (j := 237) rfl rfl
theorem yhw143 : Cond.code yX12_bag cX12_bag 4 (some .int) ∈ yWL := yhw (i := 3) (j := 1) rfl rfl
theorem yhw144 : Cond.code yX12_read cX12_read 4 (some .int) ∈ yWL := yhw (i := 3) (j := 9) rfl rfl
theorem yhw145 : Cond.code yX12_misses cX12_misses 4 (some .int) ∈ yWL := yhw (i := 3) (j := 17) rfl rfl
theorem yhw146 : Cond.code yX12_doubt cX12_doubt 4 (some .int) ∈ yWL := yhw (i := 3) (j := 30) rfl rfl
theorem yhw147 : Cond.code yX12_lost cX12_lost 6 (some .int) ∈ yWL := yhw (i := 3) (j := 40) rfl rfl
theorem yhw148 : Cond.code yX12_counted cX12_counted 6 (some .int) ∈ yWL := yhw (i := 3) (j := 54) rfl rfl
theorem yhw149 : Cond.code yX12_shortOf cX12_shortOf 6 (some .int) ∈ yWL := yhw (i := 3) (j := 62) rfl rfl
theorem yhw150 : Cond.code yX12_load cX12_load 9 (some .int) ∈ yWL := yhw (i := 3) (j := 74) rfl rfl
theorem yhw151 : Cond.code yX12_feed cX12_feed 6 (some .int) ∈ yWL := yhw (i := 3) (j := 105) rfl rfl
theorem yhw152 : Cond.code yX12_terms cX12_terms 3 (some .int) ∈ yWL := yhw (i := 3) (j := 113) rfl rfl
theorem yhw153 : Cond.code yX12_fault cX12_fault 1 (some .int) ∈ yWL := yhw (i := 6) (j := 78) rfl rfl
theorem yhw154 : Cond.code yX12_written cX12_written 4 (some .int) ∈ yWL := yhw (i := 6) (j := 82) rfl rfl
theorem yhw155 : Cond.code yX12_value cX12_value 3 (some .long) ∈ yWL := yhw (i := 6) (j := 88) rfl rfl
theorem yhw156 : Cond.code yX12_price cX12_price 4 (some .long) ∈ yWL := yhw (i := 6) (j := 205) rfl rfl
theorem yhw157 : Cond.code yX12_bill cX12_bill 6 (some .long) ∈ yWL := yhw (i := 6) (j := 225) rfl rfl
theorem yhw158 : Cond.code yX12_part cX12_part 6 (some .long) ∈ yWL := yhw (i := 6) (j := 236) rfl rfl
theorem yhw159 : Cond.code yX12_due cX12_due 2 (some .int) ∈ yWL := yhw (i := 7) (j := 32) rfl rfl
theorem yhw160 : Cond.code yX12_want cX12_want 5 (some .boolean) ∈ yWL := yhw (i := 7) (j := 46) rfl rfl
theorem yhw161 : Cond.code yX12_wanted cX12_wanted 3 (some .int) ∈ yWL := yhw (i := 7) (j := 50) rfl rfl
theorem yhw162 : Cond.code yX12_washer cX12_washer 5 (some .int) ∈ yWL := yhw (i := 7) (j := 66) rfl rfl
theorem yhw163 : Cond.code yX12_dryers cX12_dryers 2 (some .boolean) ∈ yWL := yhw (i := 7) (j := 74) rfl rfl
theorem yhw164 : Cond.code yX12_job cX12_job 5 (some .int) ∈ yWL := yhw (i := 7) (j := 78) rfl rfl
theorem yhw165 : Cond.code yX12_clear cX12_clear 2 (some .int) ∈ yWL := yhw (i := 7) (j := 86) rfl rfl
theorem yhw166 : Cond.code yX12_night cX12_night 4 (some .int) ∈ yWL := yhw (i := 7) (j := 90) rfl rfl
theorem yhw167 : Cond.code yX12_round cX12_round 5 (some .int) ∈ yWL := yhw (i := 7) (j := 131) rfl rfl
theorem yhw168 : Cond.code yX12_supply cX12_supply 5 (some .boolean) ∈ yWL := yhw (i := 7) (j := 171) rfl rfl
theorem yhw169 : Cond.code yX12_buy cX12_buy 5 (some .int) ∈ yWL := yhw (i := 7) (j := 175) rfl rfl
theorem yhw170 : Cond.code yX12_told cX12_told 3 (some .int) ∈ yWL := yhw (i := 7) (j := 201) rfl rfl
theorem yhw171 : Cond.code yX12_count cX12_count 2 (some .int) ∈ yWL := yhw (i := 7) (j := 213) rfl rfl
theorem yhw172 : Cond.code yX12_within cX12_within 3 (some .boolean) ∈ yWL := yhw (i := 2) (j := 37) rfl rfl
theorem yhw173 : Cond.code yX12_asNumber cX12_asNumber 1 (some .int) ∈ yWL := yhw (i := 2) (j := 157) rfl rfl
theorem yhw174 : Cond.code yX12_isDay cX12_isDay 1 (some .boolean) ∈ yWL := yhw (i := 2) (j := 118) rfl rfl
theorem yhw175 : Cond.code yX12_areDays cX12_areDays 2 (some .boolean) ∈ yWL := yhw (i := 2) (j := 115) rfl rfl
theorem yhw176 : Cond.code yX12_isPlace cX12_isPlace 2 (some .boolean) ∈ yWL := yhw (i := 2) (j := 79) rfl rfl
theorem yhw177 : Cond.code yX12_isAsked cX12_isAsked 4 (some .boolean) ∈ yWL := yhw (i := 2) (j := 112) rfl rfl
theorem yhw178 : Cond.code yX12_feedNumber cX12_feedNumber 3 none ∈ yWL := yhw (i := 3) (j := 109) rfl rfl
theorem yhw179 : Cond.code yX1_init cX1_init 1 none ∈ yWL := yhw (i := 0) (j := 124) rfl rfl
theorem yhw180 : Cond.code yX1_has cX1_has 2 (some .boolean) ∈ yWL := yhw (i := 2) (j := 74) rfl rfl
theorem yhw181 : Cond.code yX1_isFull cX1_isFull 1 (some .boolean) ∈ yWL := yhw (i := 2) (j := 88) rfl rfl
theorem yhw182 : Cond.code yX1_addSheet cX1_addSheet 3 (some .int) ∈ yWL := yhw (i := 2) (j := 62) rfl rfl
theorem yhw183 : Cond.code yX1_addMove cX1_addMove 6 (some .int) ∈ yWL := yhw (i := 2) (j := 92) rfl rfl
theorem yhw184 : Cond.code yX1_putInOrder cX1_putInOrder 6 none ∈ yWL := yhw (i := 2) (j := 96) rfl rfl
theorem yhw185 : Cond.code yX1_takeBack cX1_takeBack 2 (some .boolean) ∈ yWL := yhw (i := 2) (j := 104) rfl rfl
theorem yhw186 : Cond.code yX1_isRead cX1_isRead 5 (some .boolean) ∈ yWL := yhw (i := 3) (j := 13) rfl rfl
theorem yhw187 : Cond.code yX1_hasCome cX1_hasCome 4 (some .boolean) ∈ yWL := yhw (i := 2) (j := 122) rfl rfl
set_option maxRecDepth 100000 in
theorem yHz3 : yH 282 yMz3 := yH_c (n := 281) (n' := 282) rfl yhw141 (yH_c (n := 280) (n' := 281) rfl yhw142 (yH_c (n := 279) (n' := 280) rfl yhw143 (yH_c (n := 278) (n' := 279) rfl yhw144 (yH_c (n := 277) (n' := 278) rfl yhw145 (yH_c (n := 276) (n' := 277) rfl yhw146 (yH_c (n := 275) (n' := 276) rfl yhw147 (yH_c (n := 274) (n' := 275) rfl yhw148 (yH_c (n := 273) (n' := 274) rfl yhw149 (yH_c (n := 272) (n' := 273) rfl yhw150 (yH_c (n := 271) (n' := 272) rfl yhw151 (yH_c (n := 270) (n' := 271) rfl yhw152 (yH_c (n := 269) (n' := 270) rfl yhw153 (yH_c (n := 268) (n' := 269) rfl yhw154 (yH_c (n := 267) (n' := 268) rfl yhw155 (yH_c (n := 266) (n' := 267) rfl yhw156 (yH_c (n := 265) (n' := 266) rfl yhw157 (yH_c (n := 264) (n' := 265) rfl yhw158 (yH_c (n := 263) (n' := 264) rfl yhw159 (yH_c (n := 262) (n' := 263) rfl yhw160 (yH_c (n := 261) (n' := 262) rfl yhw161 (yH_c (n := 260) (n' := 261) rfl yhw162 (yH_c (n := 259) (n' := 260) rfl yhw163 (yH_c (n := 258) (n' := 259) rfl yhw164 (yH_c (n := 257) (n' := 258) rfl yhw165 (yH_c (n := 256) (n' := 257) rfl yhw166 (yH_c (n := 255) (n' := 256) rfl yhw167 (yH_c (n := 254) (n' := 255) rfl yhw168 (yH_c (n := 253) (n' := 254) rfl yhw169 (yH_c (n := 252) (n' := 253) rfl yhw170 (yH_c (n := 251) (n' := 252) rfl yhw171 (yH_c (n := 250) (n' := 251) rfl yhw172 (yH_c (n := 249) (n' := 250) rfl yhw173 (yH_c (n := 248) (n' := 249) rfl yhw174 (yH_c (n := 247) (n' := 248) rfl yhw175 (yH_c (n := 246) (n' := 247) rfl yhw176 (yH_c (n := 245) (n' := 246) rfl yhw177 (yH_c (n := 244) (n' := 245) rfl yhw178 (yH_c (n := 243) (n' := 244) rfl yhw179 (yH_c (n := 242) (n' := 243) rfl yhw180 (yH_c (n := 241) (n' := 242) rfl yhw181 (yH_c (n := 240) (n' := 241) rfl yhw182 (yH_c (n := 239) (n' := 240) rfl yhw183 (yH_c (n := 238) (n' := 239) rfl yhw184 (yH_c (n := 237) (n' := 238) rfl yhw185 (yH_c (n := 236) (n' := 237) rfl yhw186 (yH_c (n := 235) (n' := 236) rfl yhw187 (yHz4)))))))))))))))))))))))))))))))))))))))))))))))
set_option maxRecDepth 100000 in
def yMz2 : List yMt := (yX13_wanted, cX13_wanted, 3, (some .int), 4) :: (yX13_writesSign, cX13_writesSign, 2, none, 0) :: (yX13_blanks, cX13_blanks, 1, none, 1) :: (yX13_writesWord, cX13_writesWord, 5, none, 2) :: (yX13_writesNumber, cX13_writesNumber, 5, none, 2) :: (yX13_wordAt, cX13_wordAt, 3, (some .long), 0) :: (yX13_isSum, cX13_isSum, 1, (some .boolean), 0) :: (yX13_isProd, cX13_isProd, 1, (some .boolean), 0) :: (yX13_around, cX13_around, 5, (some .int), 1) :: (yX13_begins, cX13_begins, 3, none, 0) :: (yX13_writesOp, cX13_writesOp, 2, none, 3) :: (yX13_closes, cX13_closes, 2, none, 1) :: (yX13_writesNode, cX13_writesNode, 6, none, 4) :: (yX13_writesStatement, cX13_writesStatement, 4, none, 5) :: (yX13_written, cX13_written, 4, (some .int), 6) :: (yX13_washer, cX13_washer, 4, (some .int), 1) :: (yX13_dryers, cX13_dryers, 2, (some .boolean), 1) :: (yX13_job, cX13_job, 4, (some .int), 1) :: (yX13_clear, cX13_clear, 2, (some .int), 0) :: (yX13_isMixed, cX13_isMixed, 5, (some .boolean), 1) :: (yX13_first, cX13_first, 3, none, 0) :: (yX13_follows, cX13_follows, 7, (some .boolean), 0) :: (yX13_readyOn, cX13_readyOn, 6, (some .int), 0) :: (yX13_works, cX13_works, 7, none, 1) :: (yX13_night, cX13_night, 5, (some .int), 2) :: (yX13_apart, cX13_apart, 4, (some .int), 1) :: (yX13_round, cX13_round, 13, (some .int), 2) :: (yX13_supply, cX13_supply, 5, (some .boolean), 1) :: (yX13_costOf, cX13_costOf, 7, (some .long), 0) :: (yX13_buy, cX13_buy, 12, (some .int), 4) :: (yX13_told, cX13_told, 5, (some .int), 1) :: (yX13_count, cX13_count, 2, (some .int), 0) :: (yX12_init, cX12_init, 1, none, 2) :: (yX12_sort, cX12_sort, 7, (some .int), 1) :: (yX12_house, cX12_house, 6, (some .int), 1) :: (yX12_sheet, cX12_sheet, 4, (some .int), 2) :: (yX12_day, cX12_day, 2, (some .boolean), 0) :: (yX12_move, cX12_move, 5, (some .int), 3) :: (yX12_undo, cX12_undo, 2, (some .boolean), 2) :: (yX12_where, cX12_where, 4, (some .int), 4) :: (yX12_since, cX12_since, 4, (some .int), 4) :: (yX12_washes, cX12_washes, 4, (some .int), 4) :: (yX12_nights, cX12_nights, 6, (some .int), 4) :: (yX12_many, cX12_many, 6, (some .int), 6) :: (yX12_heat, cX12_heat, 5, (some .int), 1) :: (yX12_proven, cX12_proven, 3, (some .int), 3) :: (yX12_unsafe, cX12_unsafe, 3, (some .int), 6) :: yMz3
theorem yhw94 : Cond.code yX13_wanted cX13_wanted 3 (some .int) ∈ yWL := yhw (i := 11) (j := 45) rfl rfl
theorem yhw95 : Cond.code yX13_writesSign cX13_writesSign 2 none ∈ yWL := yhw (i := 11) (j := 71) rfl rfl
theorem yhw96 : Cond.code yX13_blanks cX13_blanks 1 none ∈ yWL := yhw (i := 11) (j := 67) rfl rfl
theorem yhw97 : Cond.code yX13_writesWord cX13_writesWord 5 none ∈ yWL := yhw (i := 11) (j := 63) rfl rfl
theorem yhw98 : Cond.code yX13_writesNumber cX13_writesNumber 5 none ∈ yWL := yhw (i := 11) (j := 75) rfl rfl
theorem yhw99 : Cond.code yX13_wordAt cX13_wordAt 3 (some .long) ∈ yWL := yhw (i := 11) (j := 91) rfl rfl
theorem yhw100 : Cond.code yX13_isSum cX13_isSum 1 (some .boolean) ∈ yWL := yhw (i := 11) (j := 98) rfl rfl
theorem yhw101 : Cond.code yX13_isProd cX13_isProd 1 (some .boolean) ∈ yWL := yhw (i := 11) (j := 101) rfl rfl
theorem yhw102 : Cond.code yX13_around cX13_around 5 (some .int) ∈ yWL := yhw (i := 11) (j := 95) rfl rfl
theorem yhw103 : Cond.code yX13_begins cX13_begins 3 none ∈ yWL := yhw (i := 11) (j := 83) rfl rfl
theorem yhw104 : Cond.code yX13_writesOp cX13_writesOp 2 none ∈ yWL := yhw (i := 11) (j := 105) rfl rfl
theorem yhw105 : Cond.code yX13_closes cX13_closes 2 none ∈ yWL := yhw (i := 11) (j := 87) rfl rfl
theorem yhw106 : Cond.code yX13_writesNode cX13_writesNode 6 none ∈ yWL := yhw (i := 11) (j := 79) rfl rfl
theorem yhw107 : Cond.code yX13_writesStatement cX13_writesStatement 4 none ∈ yWL := yhw (i := 11) (j := 59) rfl rfl
theorem yhw108 : Cond.code yX13_written cX13_written 4 (some .int) ∈ yWL := yhw (i := 11) (j := 55) rfl rfl
theorem yhw109 : Cond.code yX13_washer cX13_washer 4 (some .int) ∈ yWL := yhw (i := 11) (j := 109) rfl rfl
theorem yhw110 : Cond.code yX13_dryers cX13_dryers 2 (some .boolean) ∈ yWL := yhw (i := 11) (j := 113) rfl rfl
theorem yhw111 : Cond.code yX13_job cX13_job 4 (some .int) ∈ yWL := yhw (i := 11) (j := 117) rfl rfl
theorem yhw112 : Cond.code yX13_clear cX13_clear 2 (some .int) ∈ yWL := yhw (i := 11) (j := 121) rfl rfl
theorem yhw113 : Cond.code yX13_isMixed cX13_isMixed 5 (some .boolean) ∈ yWL := yhw (i := 11) (j := 129) rfl rfl
theorem yhw114 : Cond.code yX13_first cX13_first 3 none ∈ yWL := yhw (i := 11) (j := 133) rfl rfl
theorem yhw115 : Cond.code yX13_follows cX13_follows 7 (some .boolean) ∈ yWL := yhw (i := 11) (j := 145) rfl rfl
theorem yhw116 : Cond.code yX13_readyOn cX13_readyOn 6 (some .int) ∈ yWL := yhw (i := 11) (j := 141) rfl rfl
theorem yhw117 : Cond.code yX13_works cX13_works 7 none ∈ yWL := yhw (i := 11) (j := 137) rfl rfl
theorem yhw118 : Cond.code yX13_night cX13_night 5 (some .int) ∈ yWL := yhw (i := 11) (j := 125) rfl rfl
theorem yhw119 : Cond.code yX13_apart cX13_apart 4 (some .int) ∈ yWL := yhw (i := 11) (j := 152) rfl rfl
theorem yhw120 : Cond.code yX13_round cX13_round 13 (some .int) ∈ yWL := yhw (i := 11) (j := 149) rfl rfl
theorem yhw121 : Cond.code yX13_supply cX13_supply 5 (some .boolean) ∈ yWL := yhw (i := 11) (j := 159) rfl rfl
theorem yhw122 : Cond.code yX13_costOf cX13_costOf 7 (some .long) ∈ yWL := yhw (i := 11) (j := 167) rfl rfl
theorem yhw123 : Cond.code yX13_buy cX13_buy 12 (some .int) ∈ yWL := yhw (i := 11) (j := 163) rfl rfl
theorem yhw124 : Cond.code yX13_told cX13_told 5 (some .int) ∈ yWL := yhw (i := 11) (j := 171) rfl rfl
theorem yhw125 : Cond.code yX13_count cX13_count 2 (some .int) ∈ yWL := yhw (i := 11) (j := 175) rfl rfl
theorem yhw126 : Cond.code yX12_init cX12_init 1 none ∈ yWL := yhw (i := 0) (j := 33) rfl rfl
theorem yhw127 : Cond.code yX12_sort cX12_sort 7 (some .int) ∈ yWL := yhw (i := 2) (j := 34) rfl rfl
theorem yhw128 : Cond.code yX12_house cX12_house 6 (some .int) ∈ yWL := yhw (i := 2) (j := 45) rfl rfl
theorem yhw129 : Cond.code yX12_sheet cX12_sheet 4 (some .int) ∈ yWL := yhw (i := 2) (j := 53) rfl rfl
theorem yhw130 : Cond.code yX12_day cX12_day 2 (some .boolean) ∈ yWL := yhw (i := 2) (j := 66) rfl rfl
theorem yhw131 : Cond.code yX12_move cX12_move 5 (some .int) ∈ yWL := yhw (i := 2) (j := 70) rfl rfl
theorem yhw132 : Cond.code yX12_undo cX12_undo 2 (some .boolean) ∈ yWL := yhw (i := 2) (j := 100) rfl rfl
theorem yhw133 : Cond.code yX12_where cX12_where 4 (some .int) ∈ yWL := yhw (i := 2) (j := 108) rfl rfl
theorem yhw134 : Cond.code yX12_since cX12_since 4 (some .int) ∈ yWL := yhw (i := 2) (j := 142) rfl rfl
theorem yhw135 : Cond.code yX12_washes cX12_washes 4 (some .int) ∈ yWL := yhw (i := 2) (j := 150) rfl rfl
theorem yhw136 : Cond.code yX12_nights cX12_nights 6 (some .int) ∈ yWL := yhw (i := 2) (j := 161) rfl rfl
theorem yhw137 : Cond.code yX12_many cX12_many 6 (some .int) ∈ yWL := yhw (i := 2) (j := 169) rfl rfl
theorem yhw138 : Cond.code yX12_heat cX12_heat 5 (some .int) ∈ yWL := yhw (i := 2) (j := 183) rfl rfl
theorem yhw139 : Cond.code yX12_proven cX12_proven 3 (some .int) ∈ yWL := yhw (i := 2) (j := 191) rfl rfl
theorem yhw140 : Cond.code yX12_unsafe cX12_unsafe 3 (some .int) ∈ yWL := yhw (i := 2) (j := 214) rfl rfl
set_option maxRecDepth 100000 in
theorem yHz2 : yH 329 yMz2 := yH_c (n := 328) (n' := 329) rfl yhw94 (yH_c (n := 327) (n' := 328) rfl yhw95 (yH_c (n := 326) (n' := 327) rfl yhw96 (yH_c (n := 325) (n' := 326) rfl yhw97 (yH_c (n := 324) (n' := 325) rfl yhw98 (yH_c (n := 323) (n' := 324) rfl yhw99 (yH_c (n := 322) (n' := 323) rfl yhw100 (yH_c (n := 321) (n' := 322) rfl yhw101 (yH_c (n := 320) (n' := 321) rfl yhw102 (yH_c (n := 319) (n' := 320) rfl yhw103 (yH_c (n := 318) (n' := 319) rfl yhw104 (yH_c (n := 317) (n' := 318) rfl yhw105 (yH_c (n := 316) (n' := 317) rfl yhw106 (yH_c (n := 315) (n' := 316) rfl yhw107 (yH_c (n := 314) (n' := 315) rfl yhw108 (yH_c (n := 313) (n' := 314) rfl yhw109 (yH_c (n := 312) (n' := 313) rfl yhw110 (yH_c (n := 311) (n' := 312) rfl yhw111 (yH_c (n := 310) (n' := 311) rfl yhw112 (yH_c (n := 309) (n' := 310) rfl yhw113 (yH_c (n := 308) (n' := 309) rfl yhw114 (yH_c (n := 307) (n' := 308) rfl yhw115 (yH_c (n := 306) (n' := 307) rfl yhw116 (yH_c (n := 305) (n' := 306) rfl yhw117 (yH_c (n := 304) (n' := 305) rfl yhw118 (yH_c (n := 303) (n' := 304) rfl yhw119 (yH_c (n := 302) (n' := 303) rfl yhw120 (yH_c (n := 301) (n' := 302) rfl yhw121 (yH_c (n := 300) (n' := 301) rfl yhw122 (yH_c (n := 299) (n' := 300) rfl yhw123 (yH_c (n := 298) (n' := 299) rfl yhw124 (yH_c (n := 297) (n' := 298) rfl yhw125 (yH_c (n := 296) (n' := 297) rfl yhw126 (yH_c (n := 295) (n' := 296) rfl yhw127 (yH_c (n := 294) (n' := 295) rfl yhw128 (yH_c (n := 293) (n' := 294) rfl yhw129 (yH_c (n := 292) (n' := 293) rfl yhw130 (yH_c (n := 291) (n' := 292) rfl yhw131 (yH_c (n := 290) (n' := 291) rfl yhw132 (yH_c (n := 289) (n' := 290) rfl yhw133 (yH_c (n := 288) (n' := 289) rfl yhw134 (yH_c (n := 287) (n' := 288) rfl yhw135 (yH_c (n := 286) (n' := 287) rfl yhw136 (yH_c (n := 285) (n' := 286) rfl yhw137 (yH_c (n := 284) (n' := 285) rfl yhw138 (yH_c (n := 283) (n' := 284) rfl yhw139 (yH_c (n := 282) (n' := 283) rfl yhw140 (yHz3)))))))))))))))))))))))))))))))))))))))))))))))
set_option maxRecDepth 100000 in
def yMz1 : List yMt := (yX13_isReached, cX13_isReached, 4, (some .boolean), 1) :: (yX13_load, cX13_load, 11, (some .int), 4) :: (yX13_termsOn, cX13_termsOn, 4, (some .int), 0) :: (yX13_feed, cX13_feed, 8, (some .int), 0) :: (yX13_here, cX13_here, 1, (some .int), 0) :: (yX13_next, cX13_next, 2, none, 1) :: (yX13_fails, cX13_fails, 1, none, 0) :: (yX13_isWord, cX13_isWord, 3, (some .boolean), 0) :: (yX13_isSign, cX13_isSign, 2, (some .boolean), 0) :: (yX13_word, cX13_word, 3, none, 2) :: (yX13_sign, cX13_sign, 2, none, 2) :: (yX13_number, cX13_number, 2, (some .int), 2) :: (yX13_node, cX13_node, 7, (some .int), 0) :: (yX13_opens, cX13_opens, 1, none, 1) :: (yX13_wordOf, cX13_wordOf, 4, (some .int), 0) :: (yX13_isName, cX13_isName, 3, (some .boolean), 1) :: (yX13_begin, cX13_begin, 2, none, 0) :: (yX13_expression, cX13_expression, 2, (some .int), 4) :: (yX13_ends, cX13_ends, 2, none, 0) :: (yX13_ex, cX13_ex, 2, none, 3) :: (yX13_sum, cX13_sum, 2, none, 2) :: (yX13_prod, cX13_prod, 2, none, 2) :: (yX13_atom, cX13_atom, 4, none, 3) :: (yX13_cond, cX13_cond, 2, none, 2) :: (yX13_all, cX13_all, 2, none, 2) :: (yX13_test, cX13_test, 2, none, 3) :: (yX13_tells, cX13_tells, 2, none, 5) :: (yX13_terms, cX13_terms, 3, (some .int), 6) :: (yX13_fault, cX13_fault, 1, (some .int), 0) :: (yX13_held, cX13_held, 2, (some .long), 0) :: (yX13_times, cX13_times, 9, (some .long), 0) :: (yX13_rooted, cX13_rooted, 11, (some .long), 1) :: (yX13_worked, cX13_worked, 4, (some .long), 2) :: (yX13_bare, cX13_bare, 3, none, 0) :: (yX13_ofSort, cX13_ofSort, 2, none, 0) :: (yX13_ofSheet, cX13_ofSheet, 4, none, 3) :: (yX13_atHouse, cX13_atHouse, 5, none, 4) :: (yX13_value, cX13_value, 6, (some .long), 5) :: (yX13_lastOf, cX13_lastOf, 6, (some .int), 0) :: (yX13_priceOf, cX13_priceOf, 9, (some .long), 4) :: (yX13_price, cX13_price, 3, (some .long), 5) :: (yX13_bill, cX13_bill, 8, (some .long), 5) :: (yX13_parts, cX13_parts, 14, none, 5) :: (yX13_part, cX13_part, 8, (some .long), 6) :: (yX13_due, cX13_due, 6, (some .int), 4) :: (yX13_want, cX13_want, 5, (some .boolean), 1) :: (yX13_wantedOn, cX13_wantedOn, 9, (some .int), 3) :: yMz2
theorem yhw47 : Cond.code yX13_isReached cX13_isReached 4 (some .boolean) ∈ yWL := yhw (i := 10) (j := 72) rfl rfl
theorem yhw48 : Cond.code yX13_load cX13_load 11 (some .int) ∈ yWL := yhw (i := 10) (j := 63) rfl rfl
theorem yhw49 : Cond.code yX13_termsOn cX13_termsOn 4 (some .int) ∈ yWL := yhw (i := 10) (j := 0) rfl rfl
theorem yhw50 : Cond.code yX13_feed cX13_feed 8 (some .int) ∈ yWL := yhw (i := 10) (j := 76) rfl rfl
theorem yhw51 : Cond.code yX13_here cX13_here 1 (some .int) ∈ yWL := yhw (i := 10) (j := 88) rfl rfl
theorem yhw52 : Cond.code yX13_next cX13_next 2 none ∈ yWL := yhw (i := 10) (j := 84) rfl rfl
theorem yhw53 : Cond.code yX13_fails cX13_fails 1 none ∈ yWL := yhw (i := 10) (j := 96) rfl rfl
theorem yhw54 : Cond.code yX13_isWord cX13_isWord 3 (some .boolean) ∈ yWL := yhw (i := 10) (j := 105) rfl rfl
theorem yhw55 : Cond.code yX13_isSign cX13_isSign 2 (some .boolean) ∈ yWL := yhw (i := 10) (j := 160) rfl rfl
theorem yhw56 : Cond.code yX13_word cX13_word 3 none ∈ yWL := yhw (i := 10) (j := 152) rfl rfl
theorem yhw57 : Cond.code yX13_sign cX13_sign 2 none ∈ yWL := yhw (i := 10) (j := 156) rfl rfl
theorem yhw58 : Cond.code yX13_number cX13_number 2 (some .int) ∈ yWL := yhw (i := 10) (j := 148) rfl rfl
theorem yhw59 : Cond.code yX13_node cX13_node 7 (some .int) ∈ yWL := yhw (i := 10) (j := 180) rfl rfl
theorem yhw60 : Cond.code yX13_opens cX13_opens 1 none ∈ yWL := yhw (i := 10) (j := 176) rfl rfl
theorem yhw61 : Cond.code yX13_wordOf cX13_wordOf 4 (some .int) ∈ yWL := yhw (i := 10) (j := 113) rfl rfl
theorem yhw62 : Cond.code yX13_isName cX13_isName 3 (some .boolean) ∈ yWL := yhw (i := 10) (j := 109) rfl rfl
theorem yhw63 : Cond.code yX13_begin cX13_begin 2 none ∈ yWL := yhw (i := 10) (j := 168) rfl rfl
theorem yhw64 : Cond.code yX13_expression cX13_expression 2 (some .int) ∈ yWL := yhw (i := 10) (j := 164) rfl rfl
theorem yhw65 : Cond.code yX13_ends cX13_ends 2 none ∈ yWL := yhw (i := 10) (j := 184) rfl rfl
theorem yhw66 : Cond.code yX13_ex cX13_ex 2 none ∈ yWL := yhw (i := 10) (j := 172) rfl rfl
theorem yhw67 : Cond.code yX13_sum cX13_sum 2 none ∈ yWL := yhw (i := 10) (j := 188) rfl rfl
theorem yhw68 : Cond.code yX13_prod cX13_prod 2 none ∈ yWL := yhw (i := 10) (j := 192) rfl rfl
theorem yhw69 : Cond.code yX13_atom cX13_atom 4 none ∈ yWL := yhw (i := 10) (j := 196) rfl rfl
theorem yhw70 : Cond.code yX13_cond cX13_cond 2 none ∈ yWL := yhw (i := 10) (j := 200) rfl rfl
theorem yhw71 : Cond.code yX13_all cX13_all 2 none ∈ yWL := yhw (i := 10) (j := 204) rfl rfl
theorem yhw72 : Cond.code yX13_test cX13_test 2 none ∈ yWL := yhw (i := 10) (j := 208) rfl rfl
theorem yhw73 : Cond.code yX13_tells cX13_tells 2 none ∈ yWL := yhw (i := 10) (j := 100) rfl rfl
theorem yhw74 : Cond.code yX13_terms cX13_terms 3 (some .int) ∈ yWL := yhw (i := 10) (j := 80) rfl rfl
theorem yhw75 : Cond.code yX13_fault cX13_fault 1 (some .int) ∈ yWL := yhw (i := 10) (j := 212) rfl rfl
theorem yhw76 : Cond.code yX13_held cX13_held 2 (some .long) ∈ yWL := yhw (i := 11) (j := 9) rfl rfl
theorem yhw77 : Cond.code yX13_times cX13_times 9 (some .long) ∈ yWL := yhw (i := 11) (j := 4) rfl rfl
theorem yhw78 : Cond.code yX13_rooted cX13_rooted 11 (some .long) ∈ yWL := yhw (i := 11) (j := 1) rfl rfl
theorem yhw79 : Cond.code yX13_worked cX13_worked 4 (some .long) ∈ yWL := yhw (i := 10) (j := 237) rfl rfl
theorem yhw80 : Cond.code yX13_bare cX13_bare 3 none ∈ yWL := yhw (i := 10) (j := 225) rfl rfl
theorem yhw81 : Cond.code yX13_ofSort cX13_ofSort 2 none ∈ yWL := yhw (i := 10) (j := 229) rfl rfl
theorem yhw82 : Cond.code yX13_ofSheet cX13_ofSheet 4 none ∈ yWL := yhw (i := 10) (j := 221) rfl rfl
theorem yhw83 : Cond.code yX13_atHouse cX13_atHouse 5 none ∈ yWL := yhw (i := 10) (j := 233) rfl rfl
theorem yhw84 : Cond.code yX13_value cX13_value 6 (some .long) ∈ yWL := yhw (i := 10) (j := 216) rfl rfl
theorem yhw85 : Cond.code yX13_lastOf cX13_lastOf 6 (some .int) ∈ yWL := yhw (i := 11) (j := 21) rfl rfl
theorem yhw86 : Cond.code yX13_priceOf cX13_priceOf 9 (some .long) ∈ yWL := yhw (i := 11) (j := 17) rfl rfl
theorem yhw87 : Cond.code yX13_price cX13_price 3 (some .long) ∈ yWL := yhw (i := 11) (j := 13) rfl rfl
theorem yhw88 : Cond.code yX13_bill cX13_bill 8 (some .long) ∈ yWL := yhw (i := 11) (j := 25) rfl rfl
theorem yhw89 : Cond.code yX13_parts cX13_parts 14 none ∈ yWL := yhw (i := 11) (j := 33) rfl rfl
theorem yhw90 : Cond.code yX13_part cX13_part 8 (some .long) ∈ yWL := yhw (i := 11) (j := 29) rfl rfl
theorem yhw91 : Cond.code yX13_due cX13_due 6 (some .int) ∈ yWL := yhw (i := 11) (j := 37) rfl rfl
theorem yhw92 : Cond.code yX13_want cX13_want 5 (some .boolean) ∈ yWL := yhw (i := 11) (j := 41) rfl rfl
theorem yhw93 : Cond.code yX13_wantedOn cX13_wantedOn 9 (some .int) ∈ yWL := yhw (i := 11) (j := 49) rfl rfl
set_option maxRecDepth 100000 in
theorem yHz1 : yH 376 yMz1 := yH_c (n := 375) (n' := 376) rfl yhw47 (yH_c (n := 374) (n' := 375) rfl yhw48 (yH_c (n := 373) (n' := 374) rfl yhw49 (yH_c (n := 372) (n' := 373) rfl yhw50 (yH_c (n := 371) (n' := 372) rfl yhw51 (yH_c (n := 370) (n' := 371) rfl yhw52 (yH_c (n := 369) (n' := 370) rfl yhw53 (yH_c (n := 368) (n' := 369) rfl yhw54 (yH_c (n := 367) (n' := 368) rfl yhw55 (yH_c (n := 366) (n' := 367) rfl yhw56 (yH_c (n := 365) (n' := 366) rfl yhw57 (yH_c (n := 364) (n' := 365) rfl yhw58 (yH_c (n := 363) (n' := 364) rfl yhw59 (yH_c (n := 362) (n' := 363) rfl yhw60 (yH_c (n := 361) (n' := 362) rfl yhw61 (yH_c (n := 360) (n' := 361) rfl yhw62 (yH_c (n := 359) (n' := 360) rfl yhw63 (yH_c (n := 358) (n' := 359) rfl yhw64 (yH_c (n := 357) (n' := 358) rfl yhw65 (yH_c (n := 356) (n' := 357) rfl yhw66 (yH_c (n := 355) (n' := 356) rfl yhw67 (yH_c (n := 354) (n' := 355) rfl yhw68 (yH_c (n := 353) (n' := 354) rfl yhw69 (yH_c (n := 352) (n' := 353) rfl yhw70 (yH_c (n := 351) (n' := 352) rfl yhw71 (yH_c (n := 350) (n' := 351) rfl yhw72 (yH_c (n := 349) (n' := 350) rfl yhw73 (yH_c (n := 348) (n' := 349) rfl yhw74 (yH_c (n := 347) (n' := 348) rfl yhw75 (yH_c (n := 346) (n' := 347) rfl yhw76 (yH_c (n := 345) (n' := 346) rfl yhw77 (yH_c (n := 344) (n' := 345) rfl yhw78 (yH_c (n := 343) (n' := 344) rfl yhw79 (yH_c (n := 342) (n' := 343) rfl yhw80 (yH_c (n := 341) (n' := 342) rfl yhw81 (yH_c (n := 340) (n' := 341) rfl yhw82 (yH_c (n := 339) (n' := 340) rfl yhw83 (yH_c (n := 338) (n' := 339) rfl yhw84 (yH_c (n := 337) (n' := 338) rfl yhw85 (yH_c (n := 336) (n' := 337) rfl yhw86 (yH_c (n := 335) (n' := 336) rfl yhw87 (yH_c (n := 334) (n' := 335) rfl yhw88 (yH_c (n := 333) (n' := 334) rfl yhw89 (yH_c (n := 332) (n' := 333) rfl yhw90 (yH_c (n := 331) (n' := 332) rfl yhw91 (yH_c (n := 330) (n' := 331) rfl yhw92 (yH_c (n := 329) (n' := 330) rfl yhw93 (yHz2)))))))))))))))))))))))))))))))))))))))))))))))
set_option maxRecDepth 100000 in
def yMz0 : List yMt := (yX13_init, cX13_init, 1, none, 0) :: (yX13_in, cX13_in, 3, (some .boolean), 0) :: (yX13_max, cX13_max, 2, (some .int), 0) :: (yX13_min, cX13_min, 2, (some .int), 0) :: (yX13_abs, cX13_abs, 1, (some .int), 0) :: (yX13_isSort, cX13_isSort, 2, (some .boolean), 0) :: (yX13_isHouse, cX13_isHouse, 2, (some .boolean), 0) :: (yX13_isSheet, cX13_isSheet, 2, (some .boolean), 0) :: (yX13_isDay, cX13_isDay, 1, (some .boolean), 0) :: (yX13_sort, cX13_sort, 6, (some .int), 1) :: (yX13_house, cX13_house, 5, (some .int), 1) :: (yX13_sheet, cX13_sheet, 3, (some .int), 1) :: (yX13_day, cX13_day, 2, (some .boolean), 0) :: (yX13_isPlace, cX13_isPlace, 2, (some .boolean), 1) :: (yX13_addMove, cX13_addMove, 5, (some .int), 0) :: (yX13_move, cX13_move, 4, (some .int), 2) :: (yX13_undo, cX13_undo, 2, (some .boolean), 0) :: (yX13_isKnown, cX13_isKnown, 3, (some .boolean), 0) :: (yX13_last, cX13_last, 6, (some .int), 1) :: (yX13_isAsked, cX13_isAsked, 4, (some .boolean), 1) :: (yX13_placeOf, cX13_placeOf, 5, (some .int), 2) :: (yX13_sinceOf, cX13_sinceOf, 5, (some .int), 2) :: (yX13_where, cX13_where, 4, (some .int), 3) :: (yX13_since, cX13_since, 4, (some .int), 3) :: (yX13_gather, cX13_gather, 6, none, 1) :: (yX13_washesOf, cX13_washesOf, 6, (some .int), 2) :: (yX13_washes, cX13_washes, 4, (some .int), 3) :: (yX13_nights, cX13_nights, 7, (some .int), 3) :: (yX13_manyAt, cX13_manyAt, 7, (some .int), 3) :: (yX13_many, cX13_many, 5, (some .int), 4) :: (yX13_heat, cX13_heat, 4, (some .int), 1) :: (yX13_isProven, cX13_isProven, 7, (some .boolean), 1) :: (yX13_proven, cX13_proven, 3, (some .int), 2) :: (yX13_unsafe, cX13_unsafe, 8, (some .int), 3) :: (yX13_lot, cX13_lot, 3, (some .boolean), 1) :: (yX13_beyond, cX13_beyond, 2, (some .boolean), 1) :: (yX13_bag, cX13_bag, 3, (some .int), 1) :: (yX13_read, cX13_read, 4, (some .int), 1) :: (yX13_missesOf, cX13_missesOf, 8, (some .int), 3) :: (yX13_misses, cX13_misses, 4, (some .int), 4) :: (yX13_isDoubt, cX13_isDoubt, 10, (some .boolean), 4) :: (yX13_doubt, cX13_doubt, 4, (some .int), 5) :: (yX13_isLost, cX13_isLost, 5, (some .boolean), 5) :: (yX13_lost, cX13_lost, 7, (some .int), 6) :: (yX13_counted, cX13_counted, 5, (some .int), 1) :: (yX13_shortOf, cX13_shortOf, 7, (some .int), 4) :: (yX13_sums, cX13_sums, 7, none, 1) :: yMz1
theorem yhw0 : Cond.code yX13_init cX13_init 1 none ∈ yWL := yhw (i := 7) (j := 218) rfl rfl
theorem yhw1 : Cond.code yX13_in cX13_in 3 (some .boolean) ∈ yWL := yhw (i := 9) (j := 129) rfl rfl
theorem yhw2 : Cond.code yX13_max cX13_max 2 (some .int) ∈ yWL := yhw (i := 10) (j := 59) rfl rfl
theorem yhw3 : Cond.code yX13_min cX13_min 2 (some .int) ∈ yWL := yhw (i := 10) (j := 31) rfl rfl
theorem yhw4 : Cond.code yX13_abs cX13_abs 1 (some .int) ∈ yWL := yhw (i := 11) (j := 155) rfl rfl
theorem yhw5 : Cond.code yX13_isSort cX13_isSort 2 (some .boolean) ∈ yWL := yhw (i := 9) (j := 141) rfl rfl
theorem yhw6 : Cond.code yX13_isHouse cX13_isHouse 2 (some .boolean) ∈ yWL := yhw (i := 9) (j := 216) rfl rfl
theorem yhw7 : Cond.code yX13_isSheet cX13_isSheet 2 (some .boolean) ∈ yWL := yhw (i := 9) (j := 153) rfl rfl
theorem yhw8 : Cond.code yX13_isDay cX13_isDay 1 (some .boolean) ∈ yWL := yhw (i := 9) (j := 176) rfl rfl
theorem yhw9 : Cond.code yX13_sort cX13_sort 6 (some .int) ∈ yWL := yhw (i := 9) (j := 126) rfl rfl
theorem yhw10 : Cond.code yX13_house cX13_house 5 (some .int) ∈ yWL := yhw (i := 9) (j := 133) rfl rfl
theorem yhw11 : Cond.code yX13_sheet cX13_sheet 3 (some .int) ∈ yWL := yhw (i := 9) (j := 137) rfl rfl
theorem yhw12 : Cond.code yX13_day cX13_day 2 (some .boolean) ∈ yWL := yhw (i := 9) (j := 145) rfl rfl
theorem yhw13 : Cond.code yX13_isPlace cX13_isPlace 2 (some .boolean) ∈ yWL := yhw (i := 9) (j := 157) rfl rfl
theorem yhw14 : Cond.code yX13_addMove cX13_addMove 5 (some .int) ∈ yWL := yhw (i := 9) (j := 161) rfl rfl
theorem yhw15 : Cond.code yX13_move cX13_move 4 (some .int) ∈ yWL := yhw (i := 9) (j := 149) rfl rfl
theorem yhw16 : Cond.code yX13_undo cX13_undo 2 (some .boolean) ∈ yWL := yhw (i := 9) (j := 165) rfl rfl
theorem yhw17 : Cond.code yX13_isKnown cX13_isKnown 3 (some .boolean) ∈ yWL := yhw (i := 9) (j := 188) rfl rfl
theorem yhw18 : Cond.code yX13_last cX13_last 6 (some .int) ∈ yWL := yhw (i := 9) (j := 184) rfl rfl
theorem yhw19 : Cond.code yX13_isAsked cX13_isAsked 4 (some .boolean) ∈ yWL := yhw (i := 9) (j := 173) rfl rfl
theorem yhw20 : Cond.code yX13_placeOf cX13_placeOf 5 (some .int) ∈ yWL := yhw (i := 9) (j := 180) rfl rfl
theorem yhw21 : Cond.code yX13_sinceOf cX13_sinceOf 5 (some .int) ∈ yWL := yhw (i := 9) (j := 196) rfl rfl
theorem yhw22 : Cond.code yX13_where cX13_where 4 (some .int) ∈ yWL := yhw (i := 9) (j := 169) rfl rfl
theorem yhw23 : Cond.code yX13_since cX13_since 4 (some .int) ∈ yWL := yhw (i := 9) (j := 192) rfl rfl
theorem yhw24 : Cond.code yX13_gather cX13_gather 6 none ∈ yWL := yhw (i := 9) (j := 208) rfl rfl
theorem yhw25 : Cond.code yX13_washesOf cX13_washesOf 6 (some .int) ∈ yWL := yhw (i := 9) (j := 204) rfl rfl
theorem yhw26 : Cond.code yX13_washes cX13_washes 4 (some .int) ∈ yWL := yhw (i := 9) (j := 200) rfl rfl
theorem yhw27 : Cond.code yX13_nights cX13_nights 7 (some .int) ∈ yWL := yhw (i := 9) (j := 212) rfl rfl
theorem yhw28 : Cond.code yX13_manyAt cX13_manyAt 7 (some .int) ∈ yWL := yhw (i := 9) (j := 224) rfl rfl
theorem yhw29 : Cond.code yX13_many cX13_many 5 (some .int) ∈ yWL := yhw (i := 9) (j := 220) rfl rfl
theorem yhw30 : Cond.code yX13_heat cX13_heat 4 (some .int) ∈ yWL := yhw (i := 9) (j := 228) rfl rfl
theorem yhw31 : Cond.code yX13_isProven cX13_isProven 7 (some .boolean) ∈ yWL := yhw (i := 9) (j := 236) rfl rfl
theorem yhw32 : Cond.code yX13_proven cX13_proven 3 (some .int) ∈ yWL := yhw (i := 9) (j := 232) rfl rfl
theorem yhw33 : Cond.code yX13_unsafe cX13_unsafe 8 (some .int) ∈ yWL := yhw (i := 10) (j := 4) rfl rfl
theorem yhw34 : Cond.code yX13_lot cX13_lot 3 (some .boolean) ∈ yWL := yhw (i := 10) (j := 8) rfl rfl
theorem yhw35 : Cond.code yX13_beyond cX13_beyond 2 (some .boolean) ∈ yWL := yhw (i := 10) (j := 12) rfl rfl
theorem yhw36 : Cond.code yX13_bag cX13_bag 3 (some .int) ∈ yWL := yhw (i := 10) (j := 16) rfl rfl
theorem yhw37 : Cond.code yX13_read cX13_read 4 (some .int) ∈ yWL := yhw (i := 10) (j := 20) rfl rfl
theorem yhw38 : Cond.code yX13_missesOf cX13_missesOf 8 (some .int) ∈ yWL := yhw (i := 10) (j := 28) rfl rfl
theorem yhw39 : Cond.code yX13_misses cX13_misses 4 (some .int) ∈ yWL := yhw (i := 10) (j := 24) rfl rfl
theorem yhw40 : Cond.code yX13_isDoubt cX13_isDoubt 10 (some .boolean) ∈ yWL := yhw (i := 10) (j := 39) rfl rfl
theorem yhw41 : Cond.code yX13_doubt cX13_doubt 4 (some .int) ∈ yWL := yhw (i := 10) (j := 35) rfl rfl
theorem yhw42 : Cond.code yX13_isLost cX13_isLost 5 (some .boolean) ∈ yWL := yhw (i := 10) (j := 48) rfl rfl
theorem yhw43 : Cond.code yX13_lost cX13_lost 7 (some .int) ∈ yWL := yhw (i := 10) (j := 44) rfl rfl
theorem yhw44 : Cond.code yX13_counted cX13_counted 5 (some .int) ∈ yWL := yhw (i := 10) (j := 52) rfl rfl
theorem yhw45 : Cond.code yX13_shortOf cX13_shortOf 7 (some .int) ∈ yWL := yhw (i := 10) (j := 56) rfl rfl
theorem yhw46 : Cond.code yX13_sums cX13_sums 7 none ∈ yWL := yhw (i := 10) (j := 67) rfl rfl
set_option maxRecDepth 100000 in
theorem yHz0 : yH 423 yMz0 := yH_c (n := 422) (n' := 423) rfl yhw0 (yH_c (n := 421) (n' := 422) rfl yhw1 (yH_c (n := 420) (n' := 421) rfl yhw2 (yH_c (n := 419) (n' := 420) rfl yhw3 (yH_c (n := 418) (n' := 419) rfl yhw4 (yH_c (n := 417) (n' := 418) rfl yhw5 (yH_c (n := 416) (n' := 417) rfl yhw6 (yH_c (n := 415) (n' := 416) rfl yhw7 (yH_c (n := 414) (n' := 415) rfl yhw8 (yH_c (n := 413) (n' := 414) rfl yhw9 (yH_c (n := 412) (n' := 413) rfl yhw10 (yH_c (n := 411) (n' := 412) rfl yhw11 (yH_c (n := 410) (n' := 411) rfl yhw12 (yH_c (n := 409) (n' := 410) rfl yhw13 (yH_c (n := 408) (n' := 409) rfl yhw14 (yH_c (n := 407) (n' := 408) rfl yhw15 (yH_c (n := 406) (n' := 407) rfl yhw16 (yH_c (n := 405) (n' := 406) rfl yhw17 (yH_c (n := 404) (n' := 405) rfl yhw18 (yH_c (n := 403) (n' := 404) rfl yhw19 (yH_c (n := 402) (n' := 403) rfl yhw20 (yH_c (n := 401) (n' := 402) rfl yhw21 (yH_c (n := 400) (n' := 401) rfl yhw22 (yH_c (n := 399) (n' := 400) rfl yhw23 (yH_c (n := 398) (n' := 399) rfl yhw24 (yH_c (n := 397) (n' := 398) rfl yhw25 (yH_c (n := 396) (n' := 397) rfl yhw26 (yH_c (n := 395) (n' := 396) rfl yhw27 (yH_c (n := 394) (n' := 395) rfl yhw28 (yH_c (n := 393) (n' := 394) rfl yhw29 (yH_c (n := 392) (n' := 393) rfl yhw30 (yH_c (n := 391) (n' := 392) rfl yhw31 (yH_c (n := 390) (n' := 391) rfl yhw32 (yH_c (n := 389) (n' := 390) rfl yhw33 (yH_c (n := 388) (n' := 389) rfl yhw34 (yH_c (n := 387) (n' := 388) rfl yhw35 (yH_c (n := 386) (n' := 387) rfl yhw36 (yH_c (n := 385) (n' := 386) rfl yhw37 (yH_c (n := 384) (n' := 385) rfl yhw38 (yH_c (n := 383) (n' := 384) rfl yhw39 (yH_c (n := 382) (n' := 383) rfl yhw40 (yH_c (n := 381) (n' := 382) rfl yhw41 (yH_c (n := 380) (n' := 381) rfl yhw42 (yH_c (n := 379) (n' := 380) rfl yhw43 (yH_c (n := 378) (n' := 379) rfl yhw44 (yH_c (n := 377) (n' := 378) rfl yhw45 (yH_c (n := 376) (n' := 377) rfl yhw46 (yHz1)))))))))))))))))))))))))))))))))))))))))))))))
set_option maxRecDepth 100000 in
theorem yMz_eq : yMl = yMz0 := rfl
theorem yc_all : ∀ i, i < 24 * 18 → (ycmi i || Nat.ble 424 i) = true := by
  intro i hi
  refine yall_of (n := 18) (k := 0) (f := fun i => ycmi i || Nat.ble 424 i) (fun j hj => ?_) i hi
  match j, hj with
  | 0, _ => exact yc_0
  | 1, _ => exact yc_1
  | 2, _ => exact yc_2
  | 3, _ => exact yc_3
  | 4, _ => exact yc_4
  | 5, _ => exact yc_5
  | 6, _ => exact yc_6
  | 7, _ => exact yc_7
  | 8, _ => exact yc_8
  | 9, _ => exact yc_9
  | 10, _ => exact yc_10
  | 11, _ => exact yc_11
  | 12, _ => exact yc_12
  | 13, _ => exact yc_13
  | 14, _ => exact yc_14
  | 15, _ => exact yc_15
  | 16, _ => exact yc_16
  | 17, _ => exact yc_17
  | _ + 18, hj => omega
theorem ycode : ∀ a, a < 423 → Cond.code (yM a).1 (yM a).2.1 (yM a).2.2.1 (yM a).2.2.2.1 ∈ yWL := by
  intro a ha
  obtain ⟨y, hy⟩ := xnth_some (l := yMl) (i := a) (by rw [yMl_len]; omega)
  rw [yM_at hy]
  rw [yMz_eq] at hy
  exact yHz0 a y hy ha
def yGd (mi pc0 : Nat) (rs : List xR) : Prop := ∀ k r, xnth rs k = some r → r.1 < 41 → ∃ u, decode (yM mi).2.1 (pc0 + k) = .ok (yi (pc0 + k) r u) ∧ yok xFk yM mi (pc0 + k) r u = true ∧ (∀ w ∈ yw xFk yM (yM mi).1.cls r u, w ∈ yWL) ∧ (r.1 = 32 → u.1 = 4 → ∃ b0 m0 r0, Cond.code ⟨"java/lang/AbstractStringBuilder", (yM r.2.1).1.name, (yM r.2.1).1.desc⟩ b0 m0 r0 ∈ yWL)
theorem yGd_of {mi pc0 : Nat} {a : List xR} {vs : List ((Nat × Nat × Nat) × List (Nat × Nat))} (h : (ychk xFk yM 4 226 mi (yM mi) pc0 a vs && a.all (fun r => !Nat.beq r.1 32 || Nat.blt r.2.1 423)) = true) : yGd mi pc0 a := by
  rw [Bool.and_eq_true] at h
  refine ychk_P ycode a pc0 vs h.1 fun r hr e => ?_
  have h1 := List.all_eq_true.mp h.2 r hr
  rw [e] at h1
  exact Nat.le_of_ble_eq_true h1
theorem yxnth_app {α : Type} : ∀ (l1 l2 : List α) (k : Nat), xnth (l1 ++ l2) k = if k < l1.length then xnth l1 k else xnth l2 (k - l1.length)
  | [], l2, k => by simp
  | a :: l1, l2, 0 => by simp [xnth]
  | a :: l1, l2, k + 1 => by
    show xnth (l1 ++ l2) k = _
    rw [yxnth_app l1 l2 k]
    simp [xnth]
theorem yGd_app {mi pc0 pc1 : Nat} {a a' : List xR} (e : pc1 = pc0 + a.length) (h : yGd mi pc0 a) (h' : yGd mi pc1 a') : yGd mi pc0 (a ++ a') := by
  intro k r hk h38
  rw [yxnth_app] at hk
  by_cases hl : k < a.length
  · rw [if_pos hl] at hk
    exact h k r hk h38
  · rw [if_neg hl] at hk
    have := h' (k - a.length) r hk h38
    rwa [show pc1 + (k - a.length) = pc0 + k by omega] at this
def yG (k : Nat) (l : xP) : Prop := ∀ i m, xnth l i = some m → yGd (k + i) 0 m.1
theorem yG_nil {k : Nat} : yG k [] := fun i m h => by cases h
theorem yG_cons {k k' n : Nat} {a : List xR} {l : xP} (e : k' = k + 1) (h : yGd k 0 a) (t : yG k' l) : yG k ((a, n) :: l) := by
  intro i m hm
  match i, hm with
  | 0, hm =>
    cases hm
    exact h
  | i + 1, hm =>
    have h' := t i m hm
    subst e
    rw [show k + (i + 1) = k + 1 + i by omega]
    exact h'

theorem yGd_td {mi pc0 pc1 n : Nat} {a : List xR} (hn : n ≤ a.length) (e : pc1 = pc0 + n) (h : yGd mi pc0 (a.take n)) (h' : yGd mi pc1 (a.drop n)) : yGd mi pc0 a := by
  have := yGd_app (pc1 := pc1) (by rw [List.length_take, Nat.min_eq_left hn]; exact e) h h'
  rwa [List.take_append_drop] at this
theorem ygb0 : yGd 0 0 itiM_init := (yGd_td (n := 200) (pc1 := 200) (by decide +kernel) rfl (yGd_of yt0_0) (yGd_td (n := 200) (pc1 := 400) (by decide +kernel) rfl (yGd_of yt0_1) (yGd_td (n := 200) (pc1 := 600) (by decide +kernel) rfl (yGd_of yt0_2) (yGd_of yt0_3))))
theorem ygb69 : yGd 69 0 itiM_atom := (yGd_td (n := 200) (pc1 := 200) (by decide +kernel) rfl (yGd_of yt69_0) (yGd_td (n := 200) (pc1 := 400) (by decide +kernel) rfl (yGd_of yt69_1) (yGd_of yt69_2)))
theorem ygb73 : yGd 73 0 itiM_tells := (yGd_td (n := 200) (pc1 := 200) (by decide +kernel) rfl (yGd_of yt73_0) (yGd_td (n := 200) (pc1 := 400) (by decide +kernel) rfl (yGd_of yt73_1) (yGd_of yt73_2)))
theorem ygb78 : yGd 78 0 itiM_rooted := (yGd_td (n := 200) (pc1 := 200) (by decide +kernel) rfl (yGd_of yt78_0) (yGd_td (n := 200) (pc1 := 400) (by decide +kernel) rfl (yGd_of yt78_1) (yGd_of yt78_2)))
theorem ygb106 : yGd 106 0 itiM_writesNode := (yGd_td (n := 200) (pc1 := 200) (by decide +kernel) rfl (yGd_of yt106_0) (yGd_td (n := 200) (pc1 := 400) (by decide +kernel) rfl (yGd_of yt106_1) (yGd_td (n := 200) (pc1 := 600) (by decide +kernel) rfl (yGd_of yt106_2) (yGd_of yt106_3))))
theorem ygL0 : yGd 423 0 itiL_law_0 := (yGd_td (n := 100) (pc1 := 100) (by decide +kernel) rfl (yGd_of yt423_0_take) (yGd_of yt423_0_drop))
theorem ygL1 : yGd 423 200 itiL_law_1 := (yGd_td (n := 100) (pc1 := 300) (by decide +kernel) rfl (yGd_of yt423_1_take) (yGd_of yt423_1_drop))
theorem ygL2 : yGd 423 400 itiL_law_2 := (yGd_td (n := 100) (pc1 := 500) (by decide +kernel) rfl (yGd_of yt423_2_take) (yGd_of yt423_2_drop))
theorem ygL3 : yGd 423 600 itiL_law_3 := (yGd_td (n := 100) (pc1 := 700) (by decide +kernel) rfl (yGd_of yt423_3_take) (yGd_of yt423_3_drop))
theorem ygL4 : yGd 423 800 itiL_law_4 := (yGd_td (n := 100) (pc1 := 900) (by decide +kernel) rfl (yGd_of yt423_4_take) (yGd_of yt423_4_drop))
theorem ygL5 : yGd 423 1000 itiL_law_5 := (yGd_td (n := 100) (pc1 := 1100) (by decide +kernel) rfl (yGd_of yt423_5_take) (yGd_of yt423_5_drop))
theorem ygL6 : yGd 423 1200 itiL_law_6 := (yGd_td (n := 100) (pc1 := 1300) (by decide +kernel) rfl (yGd_of yt423_6_take) (yGd_of yt423_6_drop))
theorem ygL7 : yGd 423 1400 itiL_law_7 := (yGd_td (n := 100) (pc1 := 1500) (by decide +kernel) rfl (yGd_of yt423_7_take) (yGd_of yt423_7_drop))
theorem ygL8 : yGd 423 1600 itiL_law_8 := (yGd_td (n := 100) (pc1 := 1700) (by decide +kernel) rfl (yGd_of yt423_8_take) (yGd_of yt423_8_drop))
theorem ygL9 : yGd 423 1800 itiL_law_9 := (yGd_td (n := 100) (pc1 := 1900) (by decide +kernel) rfl (yGd_of yt423_9_take) (yGd_of yt423_9_drop))
theorem ygL10 : yGd 423 2000 itiL_law_10 := (yGd_of yt423_10_all)
set_option maxRecDepth 100000 in
theorem ygL : yGd 423 0 itiL_law := yGd_app (pc1 := 200) (by decide +kernel) ygL0 (yGd_app (pc1 := 400) (by decide +kernel) ygL1 (yGd_app (pc1 := 600) (by decide +kernel) ygL2 (yGd_app (pc1 := 800) (by decide +kernel) ygL3 (yGd_app (pc1 := 1000) (by decide +kernel) ygL4 (yGd_app (pc1 := 1200) (by decide +kernel) ygL5 (yGd_app (pc1 := 1400) (by decide +kernel) ygL6 (yGd_app (pc1 := 1600) (by decide +kernel) ygL7 (yGd_app (pc1 := 1800) (by decide +kernel) ygL8 (yGd_app (pc1 := 2000) (by decide +kernel) ygL9 (ygL10))))))))))
set_option maxRecDepth 100000 in
noncomputable def yPz7 : xP := (itiJS_checkIndex, 2) :: (itiJS_coder, 1) :: (itiJS_getBytes, 4) :: (itiJS_indexOf1, 2) :: (itiJS_indexOf2, 3) :: (itiJS_isLatin1, 1) :: (itiJS_length, 1) :: (itiJB_init, 1) :: (itiJB_append1, 2) :: (itiJB_append2, 2) :: (itiJB_append3, 2) :: (itiJB_charAt, 2) :: (itiJB_length, 1) :: (itiJB_toString, 1) :: (itiJL_canEncode1, 1) :: (itiJL_canEncode2, 1) :: (itiJL_charAt, 2) :: (itiJL_indexOf, 4) :: (itiJL_indexOfChar, 6) :: (itiJL_inflate, 5) :: (itiJU_charAt, 2) :: (itiJU_checkBoundsBeginEnd, 3) :: (itiJU_checkBoundsOffCount, 3) :: (itiJU_checkIndex, 2) :: (itiJU_coderFromArrayLen, 2) :: (itiJU_compress1, 6) :: (itiJU_compress2, 7) :: (itiJU_getChar, 2) :: (itiJU_getChars1, 5) :: (itiJU_getChars2, 7) :: (itiJU_indexOf, 4) :: (itiJU_indexOfChar, 4) :: (itiJU_indexOfCharUnsafe, 5) :: (itiJU_indexOfSupplementary, 7) :: (itiJU_inflate, 6) :: (itiJU_length, 1) :: (itiJU_newBytesFor, 1) :: (itiJU_newBytesLength, 1) :: (itiJU_putChar, 3) :: (itiJU_putCharSB, 3) :: (itiJU_putCharsAt, 7) :: (itiJR_checkLength, 2) :: (itiJR_copyOf, 3) :: (itiJR_copyOfRange, 3) :: (itiJR_copyOfRangeByte, 5) :: (itiJR_fill1, 4) :: (itiJR_fill2, 5) :: (itiJX_hugeLength, 3) :: (itiJX_newLength, 4) :: (itiJP_checkFromIndexSize, 4) :: (itiJP_checkFromToIndex, 4) :: (itiJP_checkIndex, 3) :: (itiL_law, 4) :: []
set_option maxRecDepth 100000 in
theorem yGz7 : yG 371 yPz7 := yG_cons (k := 371) (k' := 372) rfl (yGd_of yt371) (yG_cons (k := 372) (k' := 373) rfl (yGd_of yt372) (yG_cons (k := 373) (k' := 374) rfl (yGd_of yt373) (yG_cons (k := 374) (k' := 375) rfl (yGd_of yt374) (yG_cons (k := 375) (k' := 376) rfl (yGd_of yt375) (yG_cons (k := 376) (k' := 377) rfl (yGd_of yt376) (yG_cons (k := 377) (k' := 378) rfl (yGd_of yt377) (yG_cons (k := 378) (k' := 379) rfl (yGd_of yt378) (yG_cons (k := 379) (k' := 380) rfl (yGd_of yt379) (yG_cons (k := 380) (k' := 381) rfl (yGd_of yt380) (yG_cons (k := 381) (k' := 382) rfl (yGd_of yt381) (yG_cons (k := 382) (k' := 383) rfl (yGd_of yt382) (yG_cons (k := 383) (k' := 384) rfl (yGd_of yt383) (yG_cons (k := 384) (k' := 385) rfl (yGd_of yt384) (yG_cons (k := 385) (k' := 386) rfl (yGd_of yt385) (yG_cons (k := 386) (k' := 387) rfl (yGd_of yt386) (yG_cons (k := 387) (k' := 388) rfl (yGd_of yt387) (yG_cons (k := 388) (k' := 389) rfl (yGd_of yt388) (yG_cons (k := 389) (k' := 390) rfl (yGd_of yt389) (yG_cons (k := 390) (k' := 391) rfl (yGd_of yt390) (yG_cons (k := 391) (k' := 392) rfl (yGd_of yt391) (yG_cons (k := 392) (k' := 393) rfl (yGd_of yt392) (yG_cons (k := 393) (k' := 394) rfl (yGd_of yt393) (yG_cons (k := 394) (k' := 395) rfl (yGd_of yt394) (yG_cons (k := 395) (k' := 396) rfl (yGd_of yt395) (yG_cons (k := 396) (k' := 397) rfl (yGd_of yt396) (yG_cons (k := 397) (k' := 398) rfl (yGd_of yt397) (yG_cons (k := 398) (k' := 399) rfl (yGd_of yt398) (yG_cons (k := 399) (k' := 400) rfl (yGd_of yt399) (yG_cons (k := 400) (k' := 401) rfl (yGd_of yt400) (yG_cons (k := 401) (k' := 402) rfl (yGd_of yt401) (yG_cons (k := 402) (k' := 403) rfl (yGd_of yt402) (yG_cons (k := 403) (k' := 404) rfl (yGd_of yt403) (yG_cons (k := 404) (k' := 405) rfl (yGd_of yt404) (yG_cons (k := 405) (k' := 406) rfl (yGd_of yt405) (yG_cons (k := 406) (k' := 407) rfl (yGd_of yt406) (yG_cons (k := 407) (k' := 408) rfl (yGd_of yt407) (yG_cons (k := 408) (k' := 409) rfl (yGd_of yt408) (yG_cons (k := 409) (k' := 410) rfl (yGd_of yt409) (yG_cons (k := 410) (k' := 411) rfl (yGd_of yt410) (yG_cons (k := 411) (k' := 412) rfl (yGd_of yt411) (yG_cons (k := 412) (k' := 413) rfl (yGd_of yt412) (yG_cons (k := 413) (k' := 414) rfl (yGd_of yt413) (yG_cons (k := 414) (k' := 415) rfl (yGd_of yt414) (yG_cons (k := 415) (k' := 416) rfl (yGd_of yt415) (yG_cons (k := 416) (k' := 417) rfl (yGd_of yt416) (yG_cons (k := 417) (k' := 418) rfl (yGd_of yt417) (yG_cons (k := 418) (k' := 419) rfl (yGd_of yt418) (yG_cons (k := 419) (k' := 420) rfl (yGd_of yt419) (yG_cons (k := 420) (k' := 421) rfl (yGd_of yt420) (yG_cons (k := 421) (k' := 422) rfl (yGd_of yt421) (yG_cons (k := 422) (k' := 423) rfl (yGd_of yt422) (yG_cons (k := 423) (k' := 424) rfl ygL (yG_nil)))))))))))))))))))))))))))))))))))))))))))))))))))))
set_option maxRecDepth 100000 in
noncomputable def yPz6 : xP := (itiSupply_canBe, 1) :: (itiSupply_fewestCoins, 1) :: (itiSupply_lotsOn, 4) :: (itiTerms_init, 6) :: (itiTerms_lastOf, 4) :: (itiTerms_lastPrice, 5) :: (itiTerms_lastLoss, 4) :: (itiTerms_firstFeast, 3) :: (itiTerms_hasName, 2) :: (itiTerms_nameOf, 2) :: (itiTerms_exOfStatement, 2) :: (itiTerms_nameAll, 3) :: (itiTerms_exOf, 2) :: (itiTerms_exOfIf, 3) :: (itiTerms_exOfParts, 8) :: (itiTerms_joined, 5) :: (itiTerms_heldTo, 2) :: (itiTerms_times, 4) :: (itiTerms_holds, 2) :: (itiTerms_hasPart, 4) :: (itiTerms_compares, 6) :: (itiJA_init, 2) :: (itiJA_append1, 2) :: (itiJA_append2, 4) :: (itiJA_append3, 3) :: (itiJA_appendNull, 3) :: (itiJA_charAt, 5) :: (itiJA_ensureCapacityInternal, 3) :: (itiJA_getValue, 1) :: (itiJA_inflate, 2) :: (itiJA_inflateIfNeededFor, 2) :: (itiJA_isLatin1, 1) :: (itiJA_length, 1) :: (itiJA_newCapacity, 6) :: (itiJA_putStringAt, 3) :: (itiJC_highSurrogate, 1) :: (itiJC_isValidCodePoint, 2) :: (itiJC_lowSurrogate, 1) :: (itiJE_ordinal, 1) :: (itiJI_bitCount, 1) :: (itiJI_getChars, 7) :: (itiJI_stringSize, 4) :: (itiJM_abs1, 2) :: (itiJM_abs2, 2) :: (itiJM_max1, 2) :: (itiJM_max2, 2) :: (itiJM_min1, 2) :: (itiJM_min2, 2) :: (itiJS_init1, 5) :: (itiJS_init2, 2) :: (itiJS_charAt, 2) :: (itiJS_checkBoundsBeginEnd, 3) :: (itiJS_checkBoundsOffCount, 3) :: yPz7
set_option maxRecDepth 100000 in
theorem yGz6 : yG 318 yPz6 := yG_cons (k := 318) (k' := 319) rfl (yGd_of yt318) (yG_cons (k := 319) (k' := 320) rfl (yGd_of yt319) (yG_cons (k := 320) (k' := 321) rfl (yGd_of yt320) (yG_cons (k := 321) (k' := 322) rfl (yGd_of yt321) (yG_cons (k := 322) (k' := 323) rfl (yGd_of yt322) (yG_cons (k := 323) (k' := 324) rfl (yGd_of yt323) (yG_cons (k := 324) (k' := 325) rfl (yGd_of yt324) (yG_cons (k := 325) (k' := 326) rfl (yGd_of yt325) (yG_cons (k := 326) (k' := 327) rfl (yGd_of yt326) (yG_cons (k := 327) (k' := 328) rfl (yGd_of yt327) (yG_cons (k := 328) (k' := 329) rfl (yGd_of yt328) (yG_cons (k := 329) (k' := 330) rfl (yGd_of yt329) (yG_cons (k := 330) (k' := 331) rfl (yGd_of yt330) (yG_cons (k := 331) (k' := 332) rfl (yGd_of yt331) (yG_cons (k := 332) (k' := 333) rfl (yGd_of yt332) (yG_cons (k := 333) (k' := 334) rfl (yGd_of yt333) (yG_cons (k := 334) (k' := 335) rfl (yGd_of yt334) (yG_cons (k := 335) (k' := 336) rfl (yGd_of yt335) (yG_cons (k := 336) (k' := 337) rfl (yGd_of yt336) (yG_cons (k := 337) (k' := 338) rfl (yGd_of yt337) (yG_cons (k := 338) (k' := 339) rfl (yGd_of yt338) (yG_cons (k := 339) (k' := 340) rfl (yGd_of yt339) (yG_cons (k := 340) (k' := 341) rfl (yGd_of yt340) (yG_cons (k := 341) (k' := 342) rfl (yGd_of yt341) (yG_cons (k := 342) (k' := 343) rfl (yGd_of yt342) (yG_cons (k := 343) (k' := 344) rfl (yGd_of yt343) (yG_cons (k := 344) (k' := 345) rfl (yGd_of yt344) (yG_cons (k := 345) (k' := 346) rfl (yGd_of yt345) (yG_cons (k := 346) (k' := 347) rfl (yGd_of yt346) (yG_cons (k := 347) (k' := 348) rfl (yGd_of yt347) (yG_cons (k := 348) (k' := 349) rfl (yGd_of yt348) (yG_cons (k := 349) (k' := 350) rfl (yGd_of yt349) (yG_cons (k := 350) (k' := 351) rfl (yGd_of yt350) (yG_cons (k := 351) (k' := 352) rfl (yGd_of yt351) (yG_cons (k := 352) (k' := 353) rfl (yGd_of yt352) (yG_cons (k := 353) (k' := 354) rfl (yGd_of yt353) (yG_cons (k := 354) (k' := 355) rfl (yGd_of yt354) (yG_cons (k := 355) (k' := 356) rfl (yGd_of yt355) (yG_cons (k := 356) (k' := 357) rfl (yGd_of yt356) (yG_cons (k := 357) (k' := 358) rfl (yGd_of yt357) (yG_cons (k := 358) (k' := 359) rfl (yGd_of yt358) (yG_cons (k := 359) (k' := 360) rfl (yGd_of yt359) (yG_cons (k := 360) (k' := 361) rfl (yGd_of yt360) (yG_cons (k := 361) (k' := 362) rfl (yGd_of yt361) (yG_cons (k := 362) (k' := 363) rfl (yGd_of yt362) (yG_cons (k := 363) (k' := 364) rfl (yGd_of yt363) (yG_cons (k := 364) (k' := 365) rfl (yGd_of yt364) (yG_cons (k := 365) (k' := 366) rfl (yGd_of yt365) (yG_cons (k := 366) (k' := 367) rfl (yGd_of yt366) (yG_cons (k := 367) (k' := 368) rfl (yGd_of yt367) (yG_cons (k := 368) (k' := 369) rfl (yGd_of yt368) (yG_cons (k := 369) (k' := 370) rfl (yGd_of yt369) (yG_cons (k := 370) (k' := 371) rfl (yGd_of yt370) (yGz7)))))))))))))))))))))))))))))))))))))))))))))))))))))
set_option maxRecDepth 100000 in
noncomputable def yPz5 : xP := (itiNode_writeWord, 2) :: (itiNode_writeNumber, 2) :: (itiNode_partFromWord, 2) :: (itiReader_init, 1) :: (itiReader_readAll1, 5) :: (itiReader_chain, 2) :: (itiReader_isLetter, 1) :: (itiReader_isDigit, 1) :: (itiReader_scanAll, 5) :: (itiReader_kindOf, 1) :: (itiReader_wordOf, 3) :: (itiReader_readDigits, 3) :: (itiReader_isWritten, 5) :: (itiReader_begin, 1) :: (itiReader_step, 1) :: (itiReader_fail, 1) :: (itiReader_pass, 2) :: (itiReader_passWord, 2) :: (itiReader_passNumber, 2) :: (itiReader_opens, 1) :: (itiReader_closes, 2) :: (itiReader_readStatement, 2) :: (itiReader_readRest, 3) :: (itiReader_readNewName, 5) :: (itiReader_readParty, 2) :: (itiReader_readPair, 3) :: (itiReader_letHere, 2) :: (itiReader_readEx, 1) :: (itiReader_readIf, 4) :: (itiReader_readSum, 5) :: (itiReader_readProd, 5) :: (itiReader_isTimes, 1) :: (itiReader_append, 3) :: (itiReader_readAtom, 2) :: (itiReader_readToParen, 2) :: (itiReader_readList, 5) :: (itiReader_readWord, 4) :: (itiReader_readCond, 4) :: (itiReader_readAll2, 4) :: (itiReader_readTest, 4) :: (itiReader_readToBracket, 2) :: (itiSorts_init, 1) :: (itiSorts_has, 2) :: (itiSorts_add, 6) :: (itiSorts_waysOrPieces, 5) :: (itiSorts_fewest, 5) :: (itiSorts_greatest, 5) :: (itiSorts_waysWithin, 5) :: (itiSorts_spread, 6) :: (itiSorts_addPieces, 6) :: (itiSupply_init, 1) :: (itiSupply_plan, 6) :: (itiSupply_choose, 7) :: yPz6
set_option maxRecDepth 100000 in
theorem yGz5 : yG 265 yPz5 := yG_cons (k := 265) (k' := 266) rfl (yGd_of yt265) (yG_cons (k := 266) (k' := 267) rfl (yGd_of yt266) (yG_cons (k := 267) (k' := 268) rfl (yGd_of yt267) (yG_cons (k := 268) (k' := 269) rfl (yGd_of yt268) (yG_cons (k := 269) (k' := 270) rfl (yGd_of yt269) (yG_cons (k := 270) (k' := 271) rfl (yGd_of yt270) (yG_cons (k := 271) (k' := 272) rfl (yGd_of yt271) (yG_cons (k := 272) (k' := 273) rfl (yGd_of yt272) (yG_cons (k := 273) (k' := 274) rfl (yGd_of yt273) (yG_cons (k := 274) (k' := 275) rfl (yGd_of yt274) (yG_cons (k := 275) (k' := 276) rfl (yGd_of yt275) (yG_cons (k := 276) (k' := 277) rfl (yGd_of yt276) (yG_cons (k := 277) (k' := 278) rfl (yGd_of yt277) (yG_cons (k := 278) (k' := 279) rfl (yGd_of yt278) (yG_cons (k := 279) (k' := 280) rfl (yGd_of yt279) (yG_cons (k := 280) (k' := 281) rfl (yGd_of yt280) (yG_cons (k := 281) (k' := 282) rfl (yGd_of yt281) (yG_cons (k := 282) (k' := 283) rfl (yGd_of yt282) (yG_cons (k := 283) (k' := 284) rfl (yGd_of yt283) (yG_cons (k := 284) (k' := 285) rfl (yGd_of yt284) (yG_cons (k := 285) (k' := 286) rfl (yGd_of yt285) (yG_cons (k := 286) (k' := 287) rfl (yGd_of yt286) (yG_cons (k := 287) (k' := 288) rfl (yGd_of yt287) (yG_cons (k := 288) (k' := 289) rfl (yGd_of yt288) (yG_cons (k := 289) (k' := 290) rfl (yGd_of yt289) (yG_cons (k := 290) (k' := 291) rfl (yGd_of yt290) (yG_cons (k := 291) (k' := 292) rfl (yGd_of yt291) (yG_cons (k := 292) (k' := 293) rfl (yGd_of yt292) (yG_cons (k := 293) (k' := 294) rfl (yGd_of yt293) (yG_cons (k := 294) (k' := 295) rfl (yGd_of yt294) (yG_cons (k := 295) (k' := 296) rfl (yGd_of yt295) (yG_cons (k := 296) (k' := 297) rfl (yGd_of yt296) (yG_cons (k := 297) (k' := 298) rfl (yGd_of yt297) (yG_cons (k := 298) (k' := 299) rfl (yGd_of yt298) (yG_cons (k := 299) (k' := 300) rfl (yGd_of yt299) (yG_cons (k := 300) (k' := 301) rfl (yGd_of yt300) (yG_cons (k := 301) (k' := 302) rfl (yGd_of yt301) (yG_cons (k := 302) (k' := 303) rfl (yGd_of yt302) (yG_cons (k := 303) (k' := 304) rfl (yGd_of yt303) (yG_cons (k := 304) (k' := 305) rfl (yGd_of yt304) (yG_cons (k := 305) (k' := 306) rfl (yGd_of yt305) (yG_cons (k := 306) (k' := 307) rfl (yGd_of yt306) (yG_cons (k := 307) (k' := 308) rfl (yGd_of yt307) (yG_cons (k := 308) (k' := 309) rfl (yGd_of yt308) (yG_cons (k := 309) (k' := 310) rfl (yGd_of yt309) (yG_cons (k := 310) (k' := 311) rfl (yGd_of yt310) (yG_cons (k := 311) (k' := 312) rfl (yGd_of yt311) (yG_cons (k := 312) (k' := 313) rfl (yGd_of yt312) (yG_cons (k := 313) (k' := 314) rfl (yGd_of yt313) (yG_cons (k := 314) (k' := 315) rfl (yGd_of yt314) (yG_cons (k := 315) (k' := 316) rfl (yGd_of yt315) (yG_cons (k := 316) (k' := 317) rfl (yGd_of yt316) (yG_cons (k := 317) (k' := 318) rfl (yGd_of yt317) (yGz6)))))))))))))))))))))))))))))))))))))))))))))))))))))
set_option maxRecDepth 100000 in
noncomputable def yPz4 : xP := (itiHouses_add, 5) :: (itiHouses_planRound, 3) :: (itiHouses_visitRest, 7) :: (itiHouses_visitNext, 9) :: (itiHouses_goBack, 6) :: (itiHouses_isBetter, 3) :: (itiHouses_minutesApart, 5) :: (itiLedger_init, 5) :: (itiLedger_isFull, 1) :: (itiLedger_take, 4) :: (itiLedger_inForce, 3) :: (itiLedger_holdDay, 2) :: (itiLedger_holdSort, 2) :: (itiLedger_holdHouse, 2) :: (itiLedger_holdSheet, 4) :: (itiLedger_holdSheetInPlace, 5) :: (itiLedger_isProven, 7) :: (itiLedger_isUnsafe, 5) :: (itiLedger_unsafeSheet, 5) :: (itiLedger_valueNow, 4) :: (itiLedger_priceOn, 8) :: (itiLedger_billOf, 9) :: (itiLedger_partOf, 9) :: (itiLedger_shareBy, 5) :: (itiLedger_lostValue, 6) :: (itiLedger_partOfValue, 9) :: (itiLedger_greatestRest, 3) :: (itiLedger_isDue, 5) :: (itiLedger_dueSheet, 4) :: (itiLedger_wantedOn, 10) :: (itiLedger_mixes, 4) :: (itiNight_init, 2) :: (itiNight_addWasher, 4) :: (itiNight_addJob, 4) :: (itiNight_plan, 2) :: (itiNight_search, 7) :: (itiNight_tryNext, 14) :: (itiNight_firstReady, 4) :: (itiNight_firstDryer, 3) :: (itiNight_readyOn, 6) :: (itiNight_needsChange, 3) :: (itiNode_init, 2) :: (itiNode_of, 3) :: (itiNode_textOf, 3) :: (itiNode_writeStatement, 2) :: (itiNode_writePair, 3) :: (itiNode_write, 2) :: (itiNode_writeJoined, 3) :: (itiNode_writeConds, 3) :: (itiNode_writeIf, 4) :: (itiNode_writeList, 3) :: (itiNode_writePart, 5) :: (itiNode_isHeldApart, 3) :: yPz5
set_option maxRecDepth 100000 in
theorem yGz4 : yG 212 yPz4 := yG_cons (k := 212) (k' := 213) rfl (yGd_of yt212) (yG_cons (k := 213) (k' := 214) rfl (yGd_of yt213) (yG_cons (k := 214) (k' := 215) rfl (yGd_of yt214) (yG_cons (k := 215) (k' := 216) rfl (yGd_of yt215) (yG_cons (k := 216) (k' := 217) rfl (yGd_of yt216) (yG_cons (k := 217) (k' := 218) rfl (yGd_of yt217) (yG_cons (k := 218) (k' := 219) rfl (yGd_of yt218) (yG_cons (k := 219) (k' := 220) rfl (yGd_of yt219) (yG_cons (k := 220) (k' := 221) rfl (yGd_of yt220) (yG_cons (k := 221) (k' := 222) rfl (yGd_of yt221) (yG_cons (k := 222) (k' := 223) rfl (yGd_of yt222) (yG_cons (k := 223) (k' := 224) rfl (yGd_of yt223) (yG_cons (k := 224) (k' := 225) rfl (yGd_of yt224) (yG_cons (k := 225) (k' := 226) rfl (yGd_of yt225) (yG_cons (k := 226) (k' := 227) rfl (yGd_of yt226) (yG_cons (k := 227) (k' := 228) rfl (yGd_of yt227) (yG_cons (k := 228) (k' := 229) rfl (yGd_of yt228) (yG_cons (k := 229) (k' := 230) rfl (yGd_of yt229) (yG_cons (k := 230) (k' := 231) rfl (yGd_of yt230) (yG_cons (k := 231) (k' := 232) rfl (yGd_of yt231) (yG_cons (k := 232) (k' := 233) rfl (yGd_of yt232) (yG_cons (k := 233) (k' := 234) rfl (yGd_of yt233) (yG_cons (k := 234) (k' := 235) rfl (yGd_of yt234) (yG_cons (k := 235) (k' := 236) rfl (yGd_of yt235) (yG_cons (k := 236) (k' := 237) rfl (yGd_of yt236) (yG_cons (k := 237) (k' := 238) rfl (yGd_of yt237) (yG_cons (k := 238) (k' := 239) rfl (yGd_of yt238) (yG_cons (k := 239) (k' := 240) rfl (yGd_of yt239) (yG_cons (k := 240) (k' := 241) rfl (yGd_of yt240) (yG_cons (k := 241) (k' := 242) rfl (yGd_of yt241) (yG_cons (k := 242) (k' := 243) rfl (yGd_of yt242) (yG_cons (k := 243) (k' := 244) rfl (yGd_of yt243) (yG_cons (k := 244) (k' := 245) rfl (yGd_of yt244) (yG_cons (k := 245) (k' := 246) rfl (yGd_of yt245) (yG_cons (k := 246) (k' := 247) rfl (yGd_of yt246) (yG_cons (k := 247) (k' := 248) rfl (yGd_of yt247) (yG_cons (k := 248) (k' := 249) rfl (yGd_of yt248) (yG_cons (k := 249) (k' := 250) rfl (yGd_of yt249) (yG_cons (k := 250) (k' := 251) rfl (yGd_of yt250) (yG_cons (k := 251) (k' := 252) rfl (yGd_of yt251) (yG_cons (k := 252) (k' := 253) rfl (yGd_of yt252) (yG_cons (k := 253) (k' := 254) rfl (yGd_of yt253) (yG_cons (k := 254) (k' := 255) rfl (yGd_of yt254) (yG_cons (k := 255) (k' := 256) rfl (yGd_of yt255) (yG_cons (k := 256) (k' := 257) rfl (yGd_of yt256) (yG_cons (k := 257) (k' := 258) rfl (yGd_of yt257) (yG_cons (k := 258) (k' := 259) rfl (yGd_of yt258) (yG_cons (k := 259) (k' := 260) rfl (yGd_of yt259) (yG_cons (k := 260) (k' := 261) rfl (yGd_of yt260) (yG_cons (k := 261) (k' := 262) rfl (yGd_of yt261) (yG_cons (k := 262) (k' := 263) rfl (yGd_of yt262) (yG_cons (k := 263) (k' := 264) rfl (yGd_of yt263) (yG_cons (k := 264) (k' := 265) rfl (yGd_of yt264) (yGz5)))))))))))))))))))))))))))))))))))))))))))))))))))))
set_option maxRecDepth 100000 in
noncomputable def yPz3 : xP := (itiC_due, 2) :: (itiC_want, 5) :: (itiC_wanted, 3) :: (itiC_washer, 5) :: (itiC_dryers, 2) :: (itiC_job, 5) :: (itiC_clear, 2) :: (itiC_night, 4) :: (itiC_round, 5) :: (itiC_supply, 5) :: (itiC_buy, 5) :: (itiC_told, 3) :: (itiC_count, 2) :: (itiC_within, 3) :: (itiC_asNumber, 1) :: (itiC_isDay, 1) :: (itiC_areDays, 2) :: (itiC_isPlace, 2) :: (itiC_isAsked, 4) :: (itiC_feedNumber, 3) :: (itiBook_init, 1) :: (itiBook_has, 2) :: (itiBook_isFull, 1) :: (itiBook_addSheet, 3) :: (itiBook_addMove, 6) :: (itiBook_putInOrder, 6) :: (itiBook_takeBack, 2) :: (itiBook_isRead, 5) :: (itiBook_hasCome, 4) :: (itiBook_isKnown, 3) :: (itiBook_isInHistory, 4) :: (itiBook_lastOf, 7) :: (itiBook_lastInto, 8) :: (itiBook_placeAt, 5) :: (itiBook_sinceAt, 5) :: (itiBook_washesAt, 8) :: (itiBook_nightsAt, 10) :: (itiBook_isAt, 5) :: (itiBook_manyAt, 7) :: (itiBook_toldOfSheet, 3) :: (itiBook_toldOfMove, 3) :: (itiEvidence_init, 2) :: (itiEvidence_addBag, 3) :: (itiEvidence_addCount, 5) :: (itiEvidence_addHeat, 4) :: (itiEvidence_hasHeat, 6) :: (itiEvidence_missesOf, 8) :: (itiEvidence_isDoubted, 10) :: (itiEvidence_isLostAt, 5) :: (itiEvidence_lostAt, 7) :: (itiEvidence_shortAt, 8) :: (itiHouses_init, 1) :: (itiHouses_has, 2) :: yPz4
set_option maxRecDepth 100000 in
theorem yGz3 : yG 159 yPz3 := yG_cons (k := 159) (k' := 160) rfl (yGd_of yt159) (yG_cons (k := 160) (k' := 161) rfl (yGd_of yt160) (yG_cons (k := 161) (k' := 162) rfl (yGd_of yt161) (yG_cons (k := 162) (k' := 163) rfl (yGd_of yt162) (yG_cons (k := 163) (k' := 164) rfl (yGd_of yt163) (yG_cons (k := 164) (k' := 165) rfl (yGd_of yt164) (yG_cons (k := 165) (k' := 166) rfl (yGd_of yt165) (yG_cons (k := 166) (k' := 167) rfl (yGd_of yt166) (yG_cons (k := 167) (k' := 168) rfl (yGd_of yt167) (yG_cons (k := 168) (k' := 169) rfl (yGd_of yt168) (yG_cons (k := 169) (k' := 170) rfl (yGd_of yt169) (yG_cons (k := 170) (k' := 171) rfl (yGd_of yt170) (yG_cons (k := 171) (k' := 172) rfl (yGd_of yt171) (yG_cons (k := 172) (k' := 173) rfl (yGd_of yt172) (yG_cons (k := 173) (k' := 174) rfl (yGd_of yt173) (yG_cons (k := 174) (k' := 175) rfl (yGd_of yt174) (yG_cons (k := 175) (k' := 176) rfl (yGd_of yt175) (yG_cons (k := 176) (k' := 177) rfl (yGd_of yt176) (yG_cons (k := 177) (k' := 178) rfl (yGd_of yt177) (yG_cons (k := 178) (k' := 179) rfl (yGd_of yt178) (yG_cons (k := 179) (k' := 180) rfl (yGd_of yt179) (yG_cons (k := 180) (k' := 181) rfl (yGd_of yt180) (yG_cons (k := 181) (k' := 182) rfl (yGd_of yt181) (yG_cons (k := 182) (k' := 183) rfl (yGd_of yt182) (yG_cons (k := 183) (k' := 184) rfl (yGd_of yt183) (yG_cons (k := 184) (k' := 185) rfl (yGd_of yt184) (yG_cons (k := 185) (k' := 186) rfl (yGd_of yt185) (yG_cons (k := 186) (k' := 187) rfl (yGd_of yt186) (yG_cons (k := 187) (k' := 188) rfl (yGd_of yt187) (yG_cons (k := 188) (k' := 189) rfl (yGd_of yt188) (yG_cons (k := 189) (k' := 190) rfl (yGd_of yt189) (yG_cons (k := 190) (k' := 191) rfl (yGd_of yt190) (yG_cons (k := 191) (k' := 192) rfl (yGd_of yt191) (yG_cons (k := 192) (k' := 193) rfl (yGd_of yt192) (yG_cons (k := 193) (k' := 194) rfl (yGd_of yt193) (yG_cons (k := 194) (k' := 195) rfl (yGd_of yt194) (yG_cons (k := 195) (k' := 196) rfl (yGd_of yt195) (yG_cons (k := 196) (k' := 197) rfl (yGd_of yt196) (yG_cons (k := 197) (k' := 198) rfl (yGd_of yt197) (yG_cons (k := 198) (k' := 199) rfl (yGd_of yt198) (yG_cons (k := 199) (k' := 200) rfl (yGd_of yt199) (yG_cons (k := 200) (k' := 201) rfl (yGd_of yt200) (yG_cons (k := 201) (k' := 202) rfl (yGd_of yt201) (yG_cons (k := 202) (k' := 203) rfl (yGd_of yt202) (yG_cons (k := 203) (k' := 204) rfl (yGd_of yt203) (yG_cons (k := 204) (k' := 205) rfl (yGd_of yt204) (yG_cons (k := 205) (k' := 206) rfl (yGd_of yt205) (yG_cons (k := 206) (k' := 207) rfl (yGd_of yt206) (yG_cons (k := 207) (k' := 208) rfl (yGd_of yt207) (yG_cons (k := 208) (k' := 209) rfl (yGd_of yt208) (yG_cons (k := 209) (k' := 210) rfl (yGd_of yt209) (yG_cons (k := 210) (k' := 211) rfl (yGd_of yt210) (yG_cons (k := 211) (k' := 212) rfl (yGd_of yt211) (yGz4)))))))))))))))))))))))))))))))))))))))))))))))))))))
set_option maxRecDepth 100000 in
noncomputable def yPz2 : xP := (itiM_writesNode, 6) :: (itiM_writesStatement, 4) :: (itiM_written, 4) :: (itiM_washer, 4) :: (itiM_dryers, 2) :: (itiM_job, 4) :: (itiM_clear, 2) :: (itiM_isMixed, 5) :: (itiM_first, 3) :: (itiM_follows, 7) :: (itiM_readyOn, 6) :: (itiM_works, 7) :: (itiM_night, 5) :: (itiM_apart, 4) :: (itiM_round, 13) :: (itiM_supply, 5) :: (itiM_costOf, 7) :: (itiM_buy, 12) :: (itiM_told, 5) :: (itiM_count, 2) :: (itiC_init, 1) :: (itiC_sort, 7) :: (itiC_house, 6) :: (itiC_sheet, 4) :: (itiC_day, 2) :: (itiC_move, 5) :: (itiC_undo, 2) :: (itiC_where, 4) :: (itiC_since, 4) :: (itiC_washes, 4) :: (itiC_nights, 6) :: (itiC_many, 6) :: (itiC_heat, 5) :: (itiC_proven, 3) :: (itiC_unsafe, 3) :: (itiC_lot, 3) :: (itiC_beyond, 2) :: (itiC_bag, 4) :: (itiC_read, 4) :: (itiC_misses, 4) :: (itiC_doubt, 4) :: (itiC_lost, 6) :: (itiC_counted, 6) :: (itiC_shortOf, 6) :: (itiC_load, 9) :: (itiC_feed, 6) :: (itiC_terms, 3) :: (itiC_fault, 1) :: (itiC_written, 4) :: (itiC_value, 3) :: (itiC_price, 4) :: (itiC_bill, 6) :: (itiC_part, 6) :: yPz3
set_option maxRecDepth 100000 in
theorem yGz2 : yG 106 yPz2 := yG_cons (k := 106) (k' := 107) rfl ygb106 (yG_cons (k := 107) (k' := 108) rfl (yGd_of yt107) (yG_cons (k := 108) (k' := 109) rfl (yGd_of yt108) (yG_cons (k := 109) (k' := 110) rfl (yGd_of yt109) (yG_cons (k := 110) (k' := 111) rfl (yGd_of yt110) (yG_cons (k := 111) (k' := 112) rfl (yGd_of yt111) (yG_cons (k := 112) (k' := 113) rfl (yGd_of yt112) (yG_cons (k := 113) (k' := 114) rfl (yGd_of yt113) (yG_cons (k := 114) (k' := 115) rfl (yGd_of yt114) (yG_cons (k := 115) (k' := 116) rfl (yGd_of yt115) (yG_cons (k := 116) (k' := 117) rfl (yGd_of yt116) (yG_cons (k := 117) (k' := 118) rfl (yGd_of yt117) (yG_cons (k := 118) (k' := 119) rfl (yGd_of yt118) (yG_cons (k := 119) (k' := 120) rfl (yGd_of yt119) (yG_cons (k := 120) (k' := 121) rfl (yGd_of yt120) (yG_cons (k := 121) (k' := 122) rfl (yGd_of yt121) (yG_cons (k := 122) (k' := 123) rfl (yGd_of yt122) (yG_cons (k := 123) (k' := 124) rfl (yGd_of yt123) (yG_cons (k := 124) (k' := 125) rfl (yGd_of yt124) (yG_cons (k := 125) (k' := 126) rfl (yGd_of yt125) (yG_cons (k := 126) (k' := 127) rfl (yGd_of yt126) (yG_cons (k := 127) (k' := 128) rfl (yGd_of yt127) (yG_cons (k := 128) (k' := 129) rfl (yGd_of yt128) (yG_cons (k := 129) (k' := 130) rfl (yGd_of yt129) (yG_cons (k := 130) (k' := 131) rfl (yGd_of yt130) (yG_cons (k := 131) (k' := 132) rfl (yGd_of yt131) (yG_cons (k := 132) (k' := 133) rfl (yGd_of yt132) (yG_cons (k := 133) (k' := 134) rfl (yGd_of yt133) (yG_cons (k := 134) (k' := 135) rfl (yGd_of yt134) (yG_cons (k := 135) (k' := 136) rfl (yGd_of yt135) (yG_cons (k := 136) (k' := 137) rfl (yGd_of yt136) (yG_cons (k := 137) (k' := 138) rfl (yGd_of yt137) (yG_cons (k := 138) (k' := 139) rfl (yGd_of yt138) (yG_cons (k := 139) (k' := 140) rfl (yGd_of yt139) (yG_cons (k := 140) (k' := 141) rfl (yGd_of yt140) (yG_cons (k := 141) (k' := 142) rfl (yGd_of yt141) (yG_cons (k := 142) (k' := 143) rfl (yGd_of yt142) (yG_cons (k := 143) (k' := 144) rfl (yGd_of yt143) (yG_cons (k := 144) (k' := 145) rfl (yGd_of yt144) (yG_cons (k := 145) (k' := 146) rfl (yGd_of yt145) (yG_cons (k := 146) (k' := 147) rfl (yGd_of yt146) (yG_cons (k := 147) (k' := 148) rfl (yGd_of yt147) (yG_cons (k := 148) (k' := 149) rfl (yGd_of yt148) (yG_cons (k := 149) (k' := 150) rfl (yGd_of yt149) (yG_cons (k := 150) (k' := 151) rfl (yGd_of yt150) (yG_cons (k := 151) (k' := 152) rfl (yGd_of yt151) (yG_cons (k := 152) (k' := 153) rfl (yGd_of yt152) (yG_cons (k := 153) (k' := 154) rfl (yGd_of yt153) (yG_cons (k := 154) (k' := 155) rfl (yGd_of yt154) (yG_cons (k := 155) (k' := 156) rfl (yGd_of yt155) (yG_cons (k := 156) (k' := 157) rfl (yGd_of yt156) (yG_cons (k := 157) (k' := 158) rfl (yGd_of yt157) (yG_cons (k := 158) (k' := 159) rfl (yGd_of yt158) (yGz3)))))))))))))))))))))))))))))))))))))))))))))))))))))
set_option maxRecDepth 100000 in
noncomputable def yPz1 : xP := (itiM_fails, 1) :: (itiM_isWord, 3) :: (itiM_isSign, 2) :: (itiM_word, 3) :: (itiM_sign, 2) :: (itiM_number, 2) :: (itiM_node, 7) :: (itiM_opens, 1) :: (itiM_wordOf, 4) :: (itiM_isName, 3) :: (itiM_begin, 2) :: (itiM_expression, 2) :: (itiM_ends, 2) :: (itiM_ex, 2) :: (itiM_sum, 2) :: (itiM_prod, 2) :: (itiM_atom, 4) :: (itiM_cond, 2) :: (itiM_all, 2) :: (itiM_test, 2) :: (itiM_tells, 2) :: (itiM_terms, 3) :: (itiM_fault, 1) :: (itiM_held, 2) :: (itiM_times, 9) :: (itiM_rooted, 11) :: (itiM_worked, 4) :: (itiM_bare, 3) :: (itiM_ofSort, 2) :: (itiM_ofSheet, 4) :: (itiM_atHouse, 5) :: (itiM_value, 6) :: (itiM_lastOf, 6) :: (itiM_priceOf, 9) :: (itiM_price, 3) :: (itiM_bill, 8) :: (itiM_parts, 14) :: (itiM_part, 8) :: (itiM_due, 6) :: (itiM_want, 5) :: (itiM_wantedOn, 9) :: (itiM_wanted, 3) :: (itiM_writesSign, 2) :: (itiM_blanks, 1) :: (itiM_writesWord, 5) :: (itiM_writesNumber, 5) :: (itiM_wordAt, 3) :: (itiM_isSum, 1) :: (itiM_isProd, 1) :: (itiM_around, 5) :: (itiM_begins, 3) :: (itiM_writesOp, 2) :: (itiM_closes, 2) :: yPz2
set_option maxRecDepth 100000 in
theorem yGz1 : yG 53 yPz1 := yG_cons (k := 53) (k' := 54) rfl (yGd_of yt53) (yG_cons (k := 54) (k' := 55) rfl (yGd_of yt54) (yG_cons (k := 55) (k' := 56) rfl (yGd_of yt55) (yG_cons (k := 56) (k' := 57) rfl (yGd_of yt56) (yG_cons (k := 57) (k' := 58) rfl (yGd_of yt57) (yG_cons (k := 58) (k' := 59) rfl (yGd_of yt58) (yG_cons (k := 59) (k' := 60) rfl (yGd_of yt59) (yG_cons (k := 60) (k' := 61) rfl (yGd_of yt60) (yG_cons (k := 61) (k' := 62) rfl (yGd_of yt61) (yG_cons (k := 62) (k' := 63) rfl (yGd_of yt62) (yG_cons (k := 63) (k' := 64) rfl (yGd_of yt63) (yG_cons (k := 64) (k' := 65) rfl (yGd_of yt64) (yG_cons (k := 65) (k' := 66) rfl (yGd_of yt65) (yG_cons (k := 66) (k' := 67) rfl (yGd_of yt66) (yG_cons (k := 67) (k' := 68) rfl (yGd_of yt67) (yG_cons (k := 68) (k' := 69) rfl (yGd_of yt68) (yG_cons (k := 69) (k' := 70) rfl ygb69 (yG_cons (k := 70) (k' := 71) rfl (yGd_of yt70) (yG_cons (k := 71) (k' := 72) rfl (yGd_of yt71) (yG_cons (k := 72) (k' := 73) rfl (yGd_of yt72) (yG_cons (k := 73) (k' := 74) rfl ygb73 (yG_cons (k := 74) (k' := 75) rfl (yGd_of yt74) (yG_cons (k := 75) (k' := 76) rfl (yGd_of yt75) (yG_cons (k := 76) (k' := 77) rfl (yGd_of yt76) (yG_cons (k := 77) (k' := 78) rfl (yGd_of yt77) (yG_cons (k := 78) (k' := 79) rfl ygb78 (yG_cons (k := 79) (k' := 80) rfl (yGd_of yt79) (yG_cons (k := 80) (k' := 81) rfl (yGd_of yt80) (yG_cons (k := 81) (k' := 82) rfl (yGd_of yt81) (yG_cons (k := 82) (k' := 83) rfl (yGd_of yt82) (yG_cons (k := 83) (k' := 84) rfl (yGd_of yt83) (yG_cons (k := 84) (k' := 85) rfl (yGd_of yt84) (yG_cons (k := 85) (k' := 86) rfl (yGd_of yt85) (yG_cons (k := 86) (k' := 87) rfl (yGd_of yt86) (yG_cons (k := 87) (k' := 88) rfl (yGd_of yt87) (yG_cons (k := 88) (k' := 89) rfl (yGd_of yt88) (yG_cons (k := 89) (k' := 90) rfl (yGd_of yt89) (yG_cons (k := 90) (k' := 91) rfl (yGd_of yt90) (yG_cons (k := 91) (k' := 92) rfl (yGd_of yt91) (yG_cons (k := 92) (k' := 93) rfl (yGd_of yt92) (yG_cons (k := 93) (k' := 94) rfl (yGd_of yt93) (yG_cons (k := 94) (k' := 95) rfl (yGd_of yt94) (yG_cons (k := 95) (k' := 96) rfl (yGd_of yt95) (yG_cons (k := 96) (k' := 97) rfl (yGd_of yt96) (yG_cons (k := 97) (k' := 98) rfl (yGd_of yt97) (yG_cons (k := 98) (k' := 99) rfl (yGd_of yt98) (yG_cons (k := 99) (k' := 100) rfl (yGd_of yt99) (yG_cons (k := 100) (k' := 101) rfl (yGd_of yt100) (yG_cons (k := 101) (k' := 102) rfl (yGd_of yt101) (yG_cons (k := 102) (k' := 103) rfl (yGd_of yt102) (yG_cons (k := 103) (k' := 104) rfl (yGd_of yt103) (yG_cons (k := 104) (k' := 105) rfl (yGd_of yt104) (yG_cons (k := 105) (k' := 106) rfl (yGd_of yt105) (yGz2)))))))))))))))))))))))))))))))))))))))))))))))))))))
set_option maxRecDepth 100000 in
noncomputable def yPz0 : xP := (itiM_init, 1) :: (itiM_in, 3) :: (itiM_max, 2) :: (itiM_min, 2) :: (itiM_abs, 1) :: (itiM_isSort, 2) :: (itiM_isHouse, 2) :: (itiM_isSheet, 2) :: (itiM_isDay, 1) :: (itiM_sort, 6) :: (itiM_house, 5) :: (itiM_sheet, 3) :: (itiM_day, 2) :: (itiM_isPlace, 2) :: (itiM_addMove, 5) :: (itiM_move, 4) :: (itiM_undo, 2) :: (itiM_isKnown, 3) :: (itiM_last, 6) :: (itiM_isAsked, 4) :: (itiM_placeOf, 5) :: (itiM_sinceOf, 5) :: (itiM_where, 4) :: (itiM_since, 4) :: (itiM_gather, 6) :: (itiM_washesOf, 6) :: (itiM_washes, 4) :: (itiM_nights, 7) :: (itiM_manyAt, 7) :: (itiM_many, 5) :: (itiM_heat, 4) :: (itiM_isProven, 7) :: (itiM_proven, 3) :: (itiM_unsafe, 8) :: (itiM_lot, 3) :: (itiM_beyond, 2) :: (itiM_bag, 3) :: (itiM_read, 4) :: (itiM_missesOf, 8) :: (itiM_misses, 4) :: (itiM_isDoubt, 10) :: (itiM_doubt, 4) :: (itiM_isLost, 5) :: (itiM_lost, 7) :: (itiM_counted, 5) :: (itiM_shortOf, 7) :: (itiM_sums, 7) :: (itiM_isReached, 4) :: (itiM_load, 11) :: (itiM_termsOn, 4) :: (itiM_feed, 8) :: (itiM_here, 1) :: (itiM_next, 2) :: yPz1
set_option maxRecDepth 100000 in
theorem yGz0 : yG 0 yPz0 := yG_cons (k := 0) (k' := 1) rfl ygb0 (yG_cons (k := 1) (k' := 2) rfl (yGd_of yt1) (yG_cons (k := 2) (k' := 3) rfl (yGd_of yt2) (yG_cons (k := 3) (k' := 4) rfl (yGd_of yt3) (yG_cons (k := 4) (k' := 5) rfl (yGd_of yt4) (yG_cons (k := 5) (k' := 6) rfl (yGd_of yt5) (yG_cons (k := 6) (k' := 7) rfl (yGd_of yt6) (yG_cons (k := 7) (k' := 8) rfl (yGd_of yt7) (yG_cons (k := 8) (k' := 9) rfl (yGd_of yt8) (yG_cons (k := 9) (k' := 10) rfl (yGd_of yt9) (yG_cons (k := 10) (k' := 11) rfl (yGd_of yt10) (yG_cons (k := 11) (k' := 12) rfl (yGd_of yt11) (yG_cons (k := 12) (k' := 13) rfl (yGd_of yt12) (yG_cons (k := 13) (k' := 14) rfl (yGd_of yt13) (yG_cons (k := 14) (k' := 15) rfl (yGd_of yt14) (yG_cons (k := 15) (k' := 16) rfl (yGd_of yt15) (yG_cons (k := 16) (k' := 17) rfl (yGd_of yt16) (yG_cons (k := 17) (k' := 18) rfl (yGd_of yt17) (yG_cons (k := 18) (k' := 19) rfl (yGd_of yt18) (yG_cons (k := 19) (k' := 20) rfl (yGd_of yt19) (yG_cons (k := 20) (k' := 21) rfl (yGd_of yt20) (yG_cons (k := 21) (k' := 22) rfl (yGd_of yt21) (yG_cons (k := 22) (k' := 23) rfl (yGd_of yt22) (yG_cons (k := 23) (k' := 24) rfl (yGd_of yt23) (yG_cons (k := 24) (k' := 25) rfl (yGd_of yt24) (yG_cons (k := 25) (k' := 26) rfl (yGd_of yt25) (yG_cons (k := 26) (k' := 27) rfl (yGd_of yt26) (yG_cons (k := 27) (k' := 28) rfl (yGd_of yt27) (yG_cons (k := 28) (k' := 29) rfl (yGd_of yt28) (yG_cons (k := 29) (k' := 30) rfl (yGd_of yt29) (yG_cons (k := 30) (k' := 31) rfl (yGd_of yt30) (yG_cons (k := 31) (k' := 32) rfl (yGd_of yt31) (yG_cons (k := 32) (k' := 33) rfl (yGd_of yt32) (yG_cons (k := 33) (k' := 34) rfl (yGd_of yt33) (yG_cons (k := 34) (k' := 35) rfl (yGd_of yt34) (yG_cons (k := 35) (k' := 36) rfl (yGd_of yt35) (yG_cons (k := 36) (k' := 37) rfl (yGd_of yt36) (yG_cons (k := 37) (k' := 38) rfl (yGd_of yt37) (yG_cons (k := 38) (k' := 39) rfl (yGd_of yt38) (yG_cons (k := 39) (k' := 40) rfl (yGd_of yt39) (yG_cons (k := 40) (k' := 41) rfl (yGd_of yt40) (yG_cons (k := 41) (k' := 42) rfl (yGd_of yt41) (yG_cons (k := 42) (k' := 43) rfl (yGd_of yt42) (yG_cons (k := 43) (k' := 44) rfl (yGd_of yt43) (yG_cons (k := 44) (k' := 45) rfl (yGd_of yt44) (yG_cons (k := 45) (k' := 46) rfl (yGd_of yt45) (yG_cons (k := 46) (k' := 47) rfl (yGd_of yt46) (yG_cons (k := 47) (k' := 48) rfl (yGd_of yt47) (yG_cons (k := 48) (k' := 49) rfl (yGd_of yt48) (yG_cons (k := 49) (k' := 50) rfl (yGd_of yt49) (yG_cons (k := 50) (k' := 51) rfl (yGd_of yt50) (yG_cons (k := 51) (k' := 52) rfl (yGd_of yt51) (yG_cons (k := 52) (k' := 53) rfl (yGd_of yt52) (yGz1)))))))))))))))))))))))))))))))))))))))))))))))))))))
set_option maxRecDepth 100000 in
theorem yPz_eq : xPg = yPz0 := rfl
theorem ySel_0 : Cond.selects "java/lang/StringBuilder" ⟨"java/lang/AbstractStringBuilder", "isLatin1", "()Z"⟩ ⟨"java/lang/AbstractStringBuilder", "isLatin1", "()Z"⟩ ∈ tables_1 := List.mem_of_getElem? (i := 1131) (by decide +kernel)
theorem ySel_in : ∀ q ∈ yPs, Cond.privateMethod (yPm q) ∈ tables_1 ∧ Cond.instanceMethod (yPm q) ∈ tables_1 := List.forall_mem_cons.mpr ⟨⟨List.mem_of_getElem? (i := 1098) (by decide +kernel), List.mem_of_getElem? (i := 1099) (by decide +kernel)⟩, List.forall_mem_cons.mpr ⟨⟨List.mem_of_getElem? (i := 1137) (by decide +kernel), List.mem_of_getElem? (i := 1138) (by decide +kernel)⟩, List.forall_mem_cons.mpr ⟨⟨List.mem_of_getElem? (i := 1398) (by decide +kernel), List.mem_of_getElem? (i := 1399) (by decide +kernel)⟩, List.forall_mem_cons.mpr ⟨⟨List.mem_of_getElem? (i := 1406) (by decide +kernel), List.mem_of_getElem? (i := 1407) (by decide +kernel)⟩, List.forall_mem_cons.mpr ⟨⟨List.mem_of_getElem? (i := 1102) (by decide +kernel), List.mem_of_getElem? (i := 1103) (by decide +kernel)⟩, List.forall_mem_cons.mpr ⟨⟨List.mem_of_getElem? (i := 1410) (by decide +kernel), List.mem_of_getElem? (i := 1411) (by decide +kernel)⟩, fun _ h => absurd h List.not_mem_nil⟩⟩⟩⟩⟩⟩
theorem yCk_ok : yCk xFk yM xPg yWL := by
  intro mi pc r hr h38
  unfold xcode at hr
  cases hm : xnth xPg mi with
  | none => rw [hm] at hr; cases hr
  | some m =>
    rw [hm] at hr
    have hr : xnth m.1 pc = some r := hr
    rw [yPz_eq] at hm
    have h := yGz0 mi m hm
    rw [Nat.zero_add] at h
    have := h pc r hr h38
    rwa [Nat.zero_add] at this
theorem xnth_len {α : Type} : ∀ {l : List α} {i : Nat} {v : α}, xnth l i = some v → i < l.length := yxnth_lt
theorem yPg_len : xPg.length = 424 := by decide +kernel
theorem yCm_ok : yCm yM xPg := by
  intro mi m hm
  have hl := yxnth_lt hm
  rw [yPg_len] at hl
  have h : (ycmi mi || Nat.ble 424 mi) = true := yc_all mi (by omega)
  have hb : Nat.ble 424 mi = false := by
    cases hq : Nat.ble 424 mi with
    | false => rfl
    | true => exact absurd (Nat.le_of_ble_eq_true hq) (by omega)
  rw [hb, Bool.or_false] at h
  unfold ycmi at h
  cases hy : xnth yMl mi with
  | none => rw [hy] at h; cases h
  | some y =>
    rw [hy, hm] at h
    rw [yM_at hy]
    simp only [Bool.and_eq_true, Bool.not_eq_true'] at h
    refine ⟨h.1.1, Nat.eq_of_beq_eq_true h.1.2, fun q => ?_⟩
    have := h.2
    rw [q] at this
    cases this
/-- the words hold -/
theorem yWL_hts {args : Array Value} {s : State} (h : ∀ w ∈ lw_tbl, w.before args s = true) : ∀ w ∈ yWL, w.before args s = true := by
  intro w hw
  have hw := (List.mem_filter.mp hw).1
  rcases List.mem_append.mp hw with hw | hw
  · obtain ⟨q, hq, rfl⟩ := List.mem_map.mp hw
    obtain ⟨h1, h2⟩ := ySel_in q hq
    have hne : (yPm q).cls ≠ "java/lang/invoke/MethodHandle" ∧ (yPm q).cls ≠ "java/lang/invoke/VarHandle" := by
      show ("java/lang/AbstractStringBuilder" : String) ≠ _ ∧ ("java/lang/AbstractStringBuilder" : String) ≠ _
      decide
    exact y_selP hne (h _ (List.mem_append_right _ ySel_0)) rfl (h _ (List.mem_append_right _ h1)) (h _ (List.mem_append_right _ h2))
  · exact h w hw

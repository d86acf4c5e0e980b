/-! the constants' picture at the start -/
theorem kK_mem {i : Nat} (hi : i < 38) {w : Cond} (h : w ∈ zK i) : w ∈ nwL := nwz_P zK_ok w (List.mem_flatMap.mpr ⟨i, List.mem_range.mpr hi, h⟩)
theorem kS_mem {i : Nat} (hi : i < 34) {w : Cond} (h : w ∈ zS i) : w ∈ nwL := nwz_P zS_ok w (List.mem_flatMap.mpr ⟨i, List.mem_range.mpr hi, h⟩)
theorem kA_mem {a t n : Nat} (ha : a ∈ zAr) (hq : xnth xFTc a = some (100 + t, n)) {w : Cond} (h : w ∈ zA a t n) : w ∈ nwL := by
  refine nwz_P zA_ok w (List.mem_flatMap.mpr ⟨a, ha, ?_⟩)
  unfold zAq
  rw [hq]
  show w ∈ zA a (100 + t - 100) n
  rw [Nat.add_sub_cancel_left]
  exact h
/-- a constant's address -/
noncomputable def acO (s : State) (b0 a : Nat) : Nat := match (tmA a).eval #[Value.ref b0] s none [] s with
  | some (.ref t) => t
  | _ => 0
def xo2 (o : Option (Option Int)) : Option Int := match o with
  | some q => q
  | none => none
theorem xo2_P {o : Option (Option Int)} {v : Int} (h : xo2 o = some v) : o = some (some v) := by
  cases o with
  | none => cases h
  | some q =>
    have h : q = some v := h
    rw [h]
section CONS
variable {s : State} {b0 : Nat}
theorem acO_ref {a t : Nat} (h : (tmA a).eval #[Value.ref b0] s none [] s = some (.ref t)) : acO s b0 a = t := by
  unfold acO
  rw [h]
theorem ycv_ac {b : Nat} {ac : Nat → Nat} {oq : Value} {v : Int} (h1 : 0 < v) (h2 : v.toNat < 200) : ycv b ac oq (2, v) = .ref (ac v.toNat) := by
  show va_rf (yrf b ac v) = _
  unfold yrf
  rw [if_neg (show ¬ v ≤ 0 by omega)]
  unfold yad
  rw [if_pos (show v.toNat < xNC from h2)]
  rfl
theorem kEv (hN : ∀ w ∈ nwL, w.before #[Value.ref b0] s = true) {i : Nat} (hi : i < 38) : (tmA (2 + i)).eval #[Value.ref b0] s none [] s = some (.ref (acO s b0 (2 + i))) ∧ va_O "LinenPool$Kind" (acO s b0 (2 + i)) (fun q => s.heap.size ≤ q) s s.heap := by
  have hex := hN _ (kK_mem hi (show Cond.exactly (tmA (2 + i)) "LinenPool$Kind" ∈ zK i from List.mem_cons_self))
  obtain ⟨t, _, _, _, h1, _⟩ := Cond.exactly_spec (args := #[Value.ref b0]) (first := s) (o := none) (s := s) (idx := []) (t := tmA (2 + i)) (cls := "LinenPool$Kind") hex
  have e := acO_ref h1
  rw [e]
  exact ⟨h1, va_Oof hex h1 (fun a ha => Nat.not_le.mpr ha)⟩
theorem sEv (hN : ∀ w ∈ nwL, w.before #[Value.ref b0] s = true) {i : Nat} (hi : i < 34) : (tmA (44 + 2 * i)).eval #[Value.ref b0] s none [] s = some (.ref (acO s b0 (44 + 2 * i))) ∧ va_O "java/lang/String" (acO s b0 (44 + 2 * i)) (fun q => s.heap.size ≤ q) s s.heap := by
  have hex := hN _ (kS_mem hi (show Cond.exactly (tmA (44 + 2 * i)) "java/lang/String" ∈ zS i from List.mem_cons_self))
  obtain ⟨t, _, _, _, h1, _⟩ := Cond.exactly_spec (args := #[Value.ref b0]) (first := s) (o := none) (s := s) (idx := []) (t := tmA (44 + 2 * i)) (cls := "java/lang/String") hex
  have e := acO_ref h1
  rw [e]
  exact ⟨h1, va_Oof hex h1 (fun a ha => Nat.not_le.mpr ha)⟩
/-- what the rows say -/
theorem zcl_arr {a t n : Nat} (ha : a < 200) (hq : xnth xFTc a = some (100 + t, n)) (ht : t < 8) : (t = 0 ∨ t = 2 ∨ t = 5) ∧ n < 2147483648 ∧ a ∈ zAr ∧ ∀ j, j < n → ∃ v, xct xE0 a j = some v ∧ (if t = 5 then 0 ≤ v ∧ 2 ≤ v.toNat ∧ v.toNat ≤ 39 else -2147483648 ≤ v ∧ v < 2147483648) := by
  have h := zcl_ok a ha
  unfold zcl at h
  rw [hq] at h
  have h100 : Nat.blt (100 + t) 100 = false := by
    cases hb : Nat.blt (100 + t) 100 with
    | false => rfl
    | true => unfold Nat.blt at hb; have := Nat.le_of_ble_eq_true hb; omega
  have h : cond (Nat.blt (100 + t) 100) _ (Nat.beq (100 + t) 999 || ((Nat.beq (100 + t) 100 || Nat.beq (100 + t) 102 || Nat.beq (100 + t) 105) && Nat.blt n 2147483648 && decide (a ∈ zAr) && zrow a (100 + t - 100) n)) = true := h
  rw [h100] at h
  have h : (Nat.beq (100 + t) 999 || ((Nat.beq (100 + t) 100 || Nat.beq (100 + t) 102 || Nat.beq (100 + t) 105) && Nat.blt n 2147483648 && decide (a ∈ zAr) && zrow a (100 + t - 100) n)) = true := h
  rw [beq_ff (show 100 + t ≠ 999 by omega), Bool.false_or, Bool.and_eq_true, Bool.and_eq_true, Bool.and_eq_true, Bool.or_eq_true, Bool.or_eq_true, Nat.add_sub_cancel_left] at h
  obtain ⟨⟨⟨h1, h2⟩, h3⟩, h4⟩ := h
  refine ⟨?_, ?_, of_decide_eq_true h3, fun j hj => ?_⟩
  · rcases h1 with (h1 | h1) | h1
    · have := Nat.eq_of_beq_eq_true h1; omega
    · have := Nat.eq_of_beq_eq_true h1; omega
    · have := Nat.eq_of_beq_eq_true h1; omega
  · unfold Nat.blt at h2
    exact Nat.le_of_ble_eq_true h2
  · unfold zrow at h4
    have h5 := List.all_eq_true.mp h4 j (List.mem_range.mpr hj)
    cases hx : xct xE0 a j with
    | none => rw [hx] at h5; cases h5
    | some v =>
      rw [hx] at h5
      refine ⟨v, rfl, ?_⟩
      have h5 : cond (Nat.beq t 5) (decide (0 ≤ v) && (Nat.ble 2 v.toNat && Nat.ble v.toNat 39)) (decide (-2147483648 ≤ v) && decide (v < 2147483648)) = true := h5
      by_cases h6 : t = 5
      · rw [if_pos h6]
        rw [h6] at h5
        have h5 : (decide (0 ≤ v) && (Nat.ble 2 v.toNat && Nat.ble v.toNat 39)) = true := h5
        rw [Bool.and_eq_true, Bool.and_eq_true] at h5
        exact ⟨of_decide_eq_true h5.1, Nat.le_of_ble_eq_true h5.2.1, Nat.le_of_ble_eq_true h5.2.2⟩
      · rw [if_neg h6]
        rw [beq_ff h6] at h5
        have h5 : (decide (-2147483648 ≤ v) && decide (v < 2147483648)) = true := h5
        rw [Bool.and_eq_true] at h5
        exact ⟨of_decide_eq_true h5.1, of_decide_eq_true h5.2⟩
theorem aEv (hN : ∀ w ∈ nwL, w.before #[Value.ref b0] s = true) {a t n : Nat} (ha : a < 200) (hq : xnth xFTc a = some (100 + t, n)) (ht : t < 8) : (tmA a).eval #[Value.ref b0] s none [] s = some (.ref (acO s b0 a)) ∧ va_T (yTy.getD t .int) (acO s b0 a) n (fun j => ycv s.heap.size (acO s b0) .null (xtag t, xna t ((xct xE0 a j).getD 0))) (fun q => s.heap.size ≤ q) s s.heap := by
  obtain ⟨h1, h2, h3, h4⟩ := zcl_arr ha hq ht
  have hm : ∀ w ∈ zA a t n, w.before #[Value.ref b0] s = true := fun w hw => hN w (kA_mem h3 hq hw)
  have harr : (Cond.arrayOf (tmA a) (yTy.getD t .int)).before #[Value.ref b0] s = true := hm _ List.mem_cons_self
  have hlen : (Cond.eq (.length (tmA a)) (.int (Int32.ofNat n))).before #[Value.ref b0] s = true := hm _ (List.mem_cons_of_mem _ List.mem_cons_self)
  have hel : ∀ j, j < n → (Cond.eq (.elem (tmA a) (.int (Int32.ofNat j))) (zE t ((xct xE0 a j).getD 0))).before #[Value.ref b0] s = true := fun j hj => hm _ (List.mem_cons_of_mem _ (List.mem_cons_of_mem _ (List.mem_map.mpr ⟨j, List.mem_range.mpr hj, rfl⟩)))
  obtain ⟨t1, e1, e2⟩ := va_Tof (f := fun j => ycv s.heap.size (acO s b0) .null (xtag t, xna t ((xct xE0 a j).getD 0))) (A := fun q => s.heap.size ≤ q) h2 harr (va_eqt hlen) (fun j hj => by
    show (Term.elem (tmA a) (.int (Int32.ofNat j))).eval #[Value.ref b0] s none [] s = some (ycv s.heap.size (acO s b0) .null (xtag t, xna t ((xct xE0 a j).getD 0)))
    obtain ⟨v, hv, hv2⟩ := h4 j hj
    have h5 := hel j hj
    rw [hv] at h5 ⊢
    have h5 : (Cond.eq (.elem (tmA a) (.int (Int32.ofNat j))) (zE t v)).before #[Value.ref b0] s = true := h5
    show _ = some (ycv s.heap.size (acO s b0) .null (xtag t, xna t v))
    rcases h1 with e | e | e
    · subst e
      exact va_eqt h5
    · subst e
      exact va_eqt h5
    · subst e
      rw [if_pos rfl] at hv2
      obtain ⟨i, hi⟩ : ∃ i, v.toNat = 2 + i := ⟨v.toNat - 2, by omega⟩
      have h5 : (Cond.eq (.elem (tmA a) (.int (Int32.ofNat j))) (tmA v.toNat)).before #[Value.ref b0] s = true := h5
      have h6 := (kEv hN (i := i) (by omega)).1
      rw [hi] at h5
      rw [va_eqv h5 h6]
      show _ = some (ycv s.heap.size (acO s b0) .null (2, v))
      rw [ycv_ac (by omega) (by omega), hi]) (fun a ha => Nat.not_le.mpr ha)
  rw [acO_ref e1]
  exact ⟨e1, e2⟩
theorem vEv (hN : ∀ w ∈ nwL, w.before #[Value.ref b0] s = true) {i : Nat} (hi : i < 34) : (tmA (45 + 2 * i)).eval #[Value.ref b0] s none [] s = some (.ref (acO s b0 (45 + 2 * i))) := by
  obtain ⟨-, -, -, h⟩ := zs_ok i hi
  cases hq : xnth xFTc (45 + 2 * i) with
  | none => rw [hq] at h; cases h
  | some q =>
    rw [hq] at h
    obtain ⟨c, n⟩ := q
    have h : some c = some 102 := h
    cases h
    exact (aEv hN (t := 2) (by omega) hq (by decide)).1
/-- the fields of a Kind, of a String -/
theorem kFl (hN : ∀ w ∈ nwL, w.before #[Value.ref b0] s = true) {i : Nat} (hi : i < 38) : va_OF "java/lang/Enum" "ordinal" "I" (.int (Int32.ofInt (i : Int))) (acO s b0 (2 + i)) (fun q => s.heap.size ≤ q) s s.heap ∧ va_OF "LinenPool$Kind" "word" "Ljava/lang/String;" (.ref (acO s b0 (kW i).toNat)) (acO s b0 (2 + i)) (fun q => s.heap.size ≤ q) s s.heap ∧ va_OF "LinenPool$Kind" "slot" "I" (.int (Int32.ofInt (kL i))) (acO s b0 (2 + i)) (fun q => s.heap.size ≤ q) s s.heap := by
  have hm : ∀ w ∈ zK i, w.before #[Value.ref b0] s = true := fun w hw => hN w (kK_mem hi hw)
  obtain ⟨h1, -⟩ := kEv hN hi
  obtain ⟨-, ⟨g1, g2, g3, g4⟩, -⟩ := zk_ok i hi
  have hA : ∀ a : Nat, a < s.heap.size → ¬ s.heap.size ≤ a := fun a ha => Nat.not_le.mpr ha
  obtain ⟨j, hj⟩ : ∃ j, (kW i).toNat = 44 + 2 * j := ⟨((kW i).toNat - 44) / 2, by omega⟩
  have h2 := (sEv hN (i := j) (by omega)).1
  rw [← hj] at h2
  refine ⟨vk_OFof h1 (va_eqt (hm _ (List.mem_cons_of_mem _ List.mem_cons_self))) hA, vk_OFof h1 (va_eqv (hm _ (List.mem_cons_of_mem _ (List.mem_cons_of_mem _ List.mem_cons_self))) h2) hA, vk_OFof h1 (va_eqt (hm _ (List.mem_cons_of_mem _ (List.mem_cons_of_mem _ (List.mem_cons_of_mem _ List.mem_cons_self))))) hA⟩
theorem sFl (hN : ∀ w ∈ nwL, w.before #[Value.ref b0] s = true) {i : Nat} (hi : i < 34) : va_OF "java/lang/String" "value" "[B" (.ref (acO s b0 (45 + 2 * i))) (acO s b0 (44 + 2 * i)) (fun q => s.heap.size ≤ q) s s.heap ∧ va_OF "java/lang/String" "coder" "B" (.int (Int32.ofInt 0)) (acO s b0 (44 + 2 * i)) (fun q => s.heap.size ≤ q) s s.heap := by
  have hm : ∀ w ∈ zS i, w.before #[Value.ref b0] s = true := fun w hw => hN w (kS_mem hi hw)
  obtain ⟨h1, -⟩ := sEv hN hi
  have hA : ∀ a : Nat, a < s.heap.size → ¬ s.heap.size ≤ a := fun a ha => Nat.not_le.mpr ha
  have h2 := vEv hN hi
  rw [(zs_ok i hi).2.1] at h2
  exact ⟨vk_OFof h1 h2 hA, vk_OFof h1 (va_eqt (hm _ (List.mem_cons_of_mem _ List.mem_cons_self))) hA⟩
/-- an object among the constants is a Kind or a String -/
theorem zcl_obj {a c n : Nat} (ha : a < 200) (hq : xnth xFTc a = some (c, n)) (hc : c < 100) : (c = 0 ∧ ∃ i, i < 34 ∧ a = 44 + 2 * i) ∨ (c = 50 ∧ ∃ i, i < 38 ∧ a = 2 + i) := by
  have h := zcl_ok a ha
  unfold zcl at h
  rw [hq] at h
  have h : cond (Nat.blt c 100) ((Nat.beq c 0 && Nat.beq n 4 && Nat.ble 44 a && Nat.ble a 110 && Nat.beq (a % 2) 0) || (Nat.beq c 50 && Nat.beq n 3 && Nat.ble 2 a && Nat.ble a 39)) _ = true := h
  have h100 : Nat.blt c 100 = true := Nat.ble_eq_true_of_le hc
  rw [h100] at h
  have h : ((Nat.beq c 0 && Nat.beq n 4 && Nat.ble 44 a && Nat.ble a 110 && Nat.beq (a % 2) 0) || (Nat.beq c 50 && Nat.beq n 3 && Nat.ble 2 a && Nat.ble a 39)) = true := h
  simp only [Bool.or_eq_true, Bool.and_eq_true] at h
  rcases h with ⟨⟨⟨⟨h1, h2⟩, h3⟩, h4⟩, h5⟩ | ⟨⟨⟨h1, h2⟩, h3⟩, h4⟩
  · have h3 := Nat.le_of_ble_eq_true h3
    have h4 := Nat.le_of_ble_eq_true h4
    have h5 := Nat.eq_of_beq_eq_true h5
    exact Or.inl ⟨Nat.eq_of_beq_eq_true h1, (a - 44) / 2, by omega, by omega⟩
  · have h3 := Nat.le_of_ble_eq_true h3
    have h4 := Nat.le_of_ble_eq_true h4
    exact Or.inr ⟨Nat.eq_of_beq_eq_true h1, a - 2, by omega, by omega⟩
theorem xct_row {E : xE} {a k : Nat} {row : List (Option Int)} {v : Int} (h : xnth E.2.2 a = some row) (hx : xct E a k = some v) : xnth row k = some (some v) := by
  unfold xct at hx
  rw [h] at hx
  exact xo2_P hx
theorem xct_nil {E : xE} {a k : Nat} (h : xnth E.2.2 a = some []) : xct E a k = none := by
  cases hx : xct E a k with
  | none => rfl
  | some v =>
    have q : (none : Option (Option Int)) = some (some v) := xct_row h hx
    cases q
theorem xct_none {E : xE} {a k : Nat} (h : xnth E.2.2 a = none) : xct E a k = none := by
  cases hx : xct E a k with
  | none => rfl
  | some v =>
    unfold xct at hx
    rw [h] at hx
    have hx : (none : Option Int) = some v := hx
    cases hx
/-- the statics' values -/
theorem tEv (hN : ∀ w ∈ nwL, w.before #[Value.ref b0] s = true) {a : Nat} (h : a ∈ (List.range 38).map (fun i => 2 + i) ++ [40, 41, 140, 141]) : (tmA a).eval #[Value.ref b0] s none [] s = some (.ref (acO s b0 a)) ∧ a < 200 := by
  rcases List.mem_append.mp h with h | h
  · obtain ⟨i, hi, rfl⟩ := List.mem_map.mp h
    have hi := List.mem_range.mp hi
    exact ⟨(kEv hN hi).1, by omega⟩
  · simp only [List.mem_cons, List.not_mem_nil, or_false] at h
    rcases h with rfl | rfl | rfl | rfl
    · exact ⟨(aEv hN (a := 40) (t := 5) (n := 38) (by decide) (by decide +kernel) (by decide)).1, by decide⟩
    · exact ⟨(aEv hN (a := 41) (t := 0) (n := 38) (by decide) (by decide +kernel) (by decide)).1, by decide⟩
    · exact ⟨(aEv hN (a := 140) (t := 2) (n := 100) (by decide) (by decide +kernel) (by decide)).1, by decide⟩
    · exact ⟨(aEv hN (a := 141) (t := 2) (n := 100) (by decide) (by decide +kernel) (by decide)).1, by decide⟩
end CONS

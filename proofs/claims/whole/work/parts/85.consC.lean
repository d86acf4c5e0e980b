/-! the picture of the constants; what is known of the classes -/
theorem st0_len : xFTc.length = 200 ∧ xCTc.length = 200 ∧ xFTf.length = 192 ∧ xCTf.length = 192 := by decide +kernel
theorem xnth_no {α : Type} {l : List α} {i : Nat} (h : l.length ≤ i) : xnth l i = none := by
  cases hx : xnth l i with
  | none => rfl
  | some v => exact absurd (yxnth_lt hx) (Nat.not_lt.mpr h)
theorem xE1_ty {a : Nat} (h : a < 200) : xnth xE1.2.1 a = xnth xE0.2.1 a := by
  show xnth (xFTc ++ xFTf) a = xnth xFTc a
  rw [yxnth_app, if_pos (by rw [st0_len.1]; exact h)]
theorem xE1_ty2 {a : Nat} (h : 200 ≤ a) : xnth xE1.2.1 a = xnth xFTf (a - 200) := by
  show xnth (xFTc ++ xFTf) a = xnth xFTf (a - 200)
  rw [yxnth_app, if_neg (by rw [st0_len.1]; exact Nat.not_lt.mpr h), st0_len.1]
theorem xE1_ct {a k : Nat} (h : a < 200) : xct xE1 a k = xct xE0 a k := by
  have e : xnth xE1.2.2 a = xnth xE0.2.2 a := by
    show xnth (xCTc ++ xCTf) a = xnth xCTc a
    rw [yxnth_app, if_pos (by rw [st0_len.2.1]; exact h)]
  unfold xct
  rw [e]
noncomputable def xEf : xE := (0, [], xCTf)
theorem xE1_ct2 {a k : Nat} (h : 200 ≤ a) : xct xE1 a k = xct xEf (a - 200) k := by
  have e : xnth xE1.2.2 a = xnth xEf.2.2 (a - 200) := by
    show xnth (xCTc ++ xCTf) a = xnth xCTf (a - 200)
    rw [yxnth_app, if_neg (by rw [st0_len.2.1]; exact Nat.not_lt.mpr h), st0_len.2.1]
  unfold xct
  rw [e]
theorem xE0_ct {a k : Nat} (h : 200 ≤ a) : xct xE0 a k = none := xct_none (E := xE0) (xnth_no (by show xCTc.length ≤ a; rw [st0_len.2.1]; exact h))
theorem xE1_no {a k : Nat} (h : 392 ≤ a) : xct xE1 a k = none := by
  rw [xE1_ct2 (by omega)]
  exact xct_none (E := xEf) (xnth_no (by show xCTf.length ≤ a - 200; rw [st0_len.2.2.2]; omega))
section CONSC
variable {s : State} {b0 : Nat}
theorem kInj (hN : ∀ w ∈ nwL, w.before #[Value.ref b0] s = true) {i j : Nat} (hi : i < 38) (hj : j < 38) (h : acO s b0 (2 + i) = acO s b0 (2 + j)) : i = j := by
  have key : ∀ {i : Nat}, i < 38 → s.fieldOf? (acO s b0 (2 + i)) "java/lang/Enum" "ordinal" "I" = some (.int (Int32.ofInt (i : Int))) := fun {i} hi => by
    rw [← va_fe (args := #[Value.ref b0]) (first := s) (o := none) (idx := []) (kEv hN hi).1]
    exact va_eqt (hN _ (kK_mem hi (List.mem_cons_of_mem _ List.mem_cons_self)))
  have h1 := key hi
  rw [h, key hj] at h1
  have h2 : Int32.ofInt (j : Int) = Int32.ofInt (i : Int) := Value.int.inj (Option.some.inj h1)
  have h3 := congrArg Int32.toInt h2
  rw [y_i32R (show yR (j : Int) from ⟨by omega, by omega⟩), y_i32R (show yR (i : Int) from ⟨by omega, by omega⟩)] at h3
  omega
theorem yC_0 (hN : ∀ w ∈ nwL, w.before #[Value.ref b0] s = true) (hT : ∀ w ∈ ySel ++ lw_tbl, w.before #[Value.ref b0] s = true) {L : Nat} {xs : Nat → Int32} (hL : L ≤ 3072) (hX : va_X b0 L xs s s.heap) (hbl : b0 < s.heap.size) : ∃ oq, yC s.heap.size (acO s b0) oq xE0 L (fun j => (xs j).toInt) s s.heap := by
  have hA : ∀ a : Nat, a < s.heap.size → ¬ s.heap.size ≤ a := fun a ha => Nat.not_le.mpr ha
  have lay : ∀ q ∈ ySt, (Cond.laysStatic q.1 q.2.1 q.2.2.1).before #[Value.ref b0] s = true ∧ (Cond.initialized q.1).before #[Value.ref b0] s = true := fun q hq =>
    ⟨hT _ (ywz_P stW_ok _ (List.mem_flatMap.mpr ⟨q, hq, List.mem_cons_self⟩)), hT _ (ywz_P stW_ok _ (List.mem_flatMap.mpr ⟨q, hq, List.mem_cons_of_mem _ List.mem_cons_self⟩))⟩
  have hx : ∀ w ∈ zX, w.before #[Value.ref b0] s = true := fun w hw => hN w (nwz_P zX_ok w hw)
  have hn : ∀ w ∈ nxW, w.before #[Value.ref b0] s = true := fun w hw => hT w (ywz_P nxW_ok w hw)
  have q3 : ("jdk/internal/util/Preconditions", "SIOOBE_FORMATTER", "Ljava/util/function/BiFunction;", ((3, 0) : xAV)) ∈ ySt := by decide +kernel
  have q2 : ("java/lang/String", "COMPACT_STRINGS", "Z", ((0, 1) : xAV)) ∈ ySt := by decide +kernel
  obtain ⟨oq, hoq, hz⟩ : ∃ oq : Value, (oq = .null ∨ ∃ t, oq = .ref t) ∧ va_Z "jdk/internal/util/Preconditions" "SIOOBE_FORMATTER" "Ljava/util/function/BiFunction;" oq (fun q => s.heap.size ≤ q) s s.heap := by
    rcases va_Zqof (A := fun q => s.heap.size ≤ q) (lay _ q3).1 (lay _ q3).2 (hx _ (List.mem_cons_of_mem _ List.mem_cons_self)) hA with h | ⟨t, h⟩
    · exact ⟨.null, Or.inl rfl, h⟩
    · exact ⟨.ref t, Or.inr ⟨t, rfl⟩, h⟩
  refine ⟨oq, ?_, ?_, ⟨?_, by omega, fun j => y_toR _⟩, ?_, ⟨?_, ?_⟩, hoq, ?_⟩
  · intro a c n ha h1 hq hc
    have hq : xnth xFTc a = some (c, n) := hq
    rcases zcl_obj ha hq hc with ⟨rfl, i, hi, rfl⟩ | ⟨rfl, i, hi, rfl⟩
    · obtain ⟨r1, -⟩ := zs_ok i hi
      refine ⟨(sEv hN hi).2, fun k v hv => ?_⟩
      have hr := xct_row (E := xE0) r1 hv
      rcases k with _ | _ | _ | _ | k
      · have e : ((45 + 2 * i : Nat) : Int) = v := Option.some.inj (Option.some.inj hr)
        subst e
        have e2 : ycv s.heap.size (acO s b0) .null (2, ((45 + 2 * i : Nat) : Int)) = .ref (acO s b0 (45 + 2 * i)) := by rw [ycv_ac (by omega) (by omega), Int.toNat_natCast]
        refine ⟨?_, ?_, rfl⟩
        · show va_OF (yFd 0 0).1 (yFd 0 0).2.1 (yFd 0 0).2.2 (ycv s.heap.size (acO s b0) .null (2, ((45 + 2 * i : Nat) : Int))) _ _ _ _
          rw [e2]
          exact (sFl hN hi).1
        · show (0 : Int) ≤ ((45 + 2 * i : Nat) : Int)
          omega
      · have e : (0 : Int) = v := Option.some.inj (Option.some.inj hr)
        subst e
        exact ⟨(sFl hN hi).2, True.intro, rfl⟩
      · have hr : (none : Option Int) = some v := Option.some.inj hr
        cases hr
      · have hr : (none : Option Int) = some v := Option.some.inj hr
        cases hr
      · have hr : (none : Option (Option Int)) = some (some v) := hr
        cases hr
    · obtain ⟨r1, ⟨g1, g2, g3, g4⟩, g5, g6⟩ := zk_ok i hi
      refine ⟨(kEv hN hi).2, fun k v hv => ?_⟩
      have hr := xct_row (E := xE0) r1 hv
      rcases k with _ | _ | _ | k
      · have e : (i : Int) = v := Option.some.inj (Option.some.inj hr)
        subst e
        exact ⟨(kFl hN hi).1, ⟨by omega, by omega⟩, rfl⟩
      · have e : kW i = v := Option.some.inj (Option.some.inj hr)
        subst e
        refine ⟨?_, g1, rfl⟩
        show va_OF (yFd 50 1).1 (yFd 50 1).2.1 (yFd 50 1).2.2 (ycv s.heap.size (acO s b0) .null (2, kW i)) _ _ _ _
        rw [ycv_ac (by omega) (by omega)]
        exact (kFl hN hi).2.1
      · have e : kL i = v := Option.some.inj (Option.some.inj hr)
        subst e
        exact ⟨(kFl hN hi).2.2, ⟨g5, g6⟩, rfl⟩
      · have hr : (none : Option (Option Int)) = some (some v) := hr
        cases hr
  · intro a c n ha h1 hq hc hc2
    have hq : xnth xFTc a = some (c, n) := hq
    obtain ⟨t, rfl⟩ : ∃ t, c = 100 + t := ⟨c - 100, by omega⟩
    obtain ⟨g1, g2, g3, g4⟩ := zcl_arr ha hq (by omega)
    rw [Nat.add_sub_cancel_left]
    refine ⟨(aEv hN ha hq (by omega)).2, g2, fun k hk => ?_⟩
    obtain ⟨v, hv, hv2⟩ := g4 k hk
    refine ⟨v, hv, ?_⟩
    rcases g1 with e | e | e
    · subst e
      rw [if_neg (by decide)] at hv2
      exact hv2
    · subst e
      exact True.intro
    · subst e
      rw [if_pos rfl] at hv2
      exact hv2.1
  · obtain ⟨scr, x1, x2, x3, x4, x5⟩ := hX
    have e : acO s b0 1 = b0 := acO_ref (t := b0) (a := 1) rfl
    rw [e]
    exact ⟨scr, x1, x2, x3, Nat.le_of_eq x4.symm, by rw [x4], fun j hj => (x5 j hj).trans (by
      show some (Value.int (xs j)) = some (Value.int (Int32.ofInt (xs j).toInt))
      rw [y_of]), Nat.not_le.mpr hbl⟩
  · intro q hq
    rcases zt_ok q hq with ⟨h1, h2, h3, h4⟩ | rfl | rfl
    · obtain ⟨e1, e2⟩ := tEv hN h4
      have e3 : q.2.2.2 = (2, q.2.2.2.2) := Prod.ext h1 rfl
      rw [e3, ycv_ac h2 e2]
      rw [h3] at e1
      exact va_Zof (lay q hq).1 (lay q hq).2 e1 hA
    · have h0 := va_eqt (hx _ List.mem_cons_self)
      rw [show (1 : Int32) = Int32.ofInt 1 by decide] at h0
      exact va_Zof (lay _ hq).1 (lay _ hq).2 h0 hA
    · exact hz
  · intro q hq
    simp only [yStr, List.mem_cons, List.not_mem_nil, or_false] at hq
    rcases hq with rfl | rfl
    · exact vk_R.of (A := #[Value.ref b0]) (hn _ (by decide +kernel)) (va_eqv (hx _ (List.mem_cons_of_mem _ (List.mem_cons_of_mem _ List.mem_cons_self))) (sEv hN (i := 32) (by decide)).1)
    · exact vk_R.of (A := #[Value.ref b0]) (hn _ (by decide +kernel)) (sEv hN (i := 33) (by decide)).1
  · refine ⟨fun q hq => va_Nw.of (A := #[Value.ref b0]) rfl (hT _ (ywz_P nmW_ok _ (List.mem_map.mpr ⟨q, hq, rfl⟩))), fun q hq => va_Nw.of (A := #[Value.ref b0]) rfl (hT _ (ywz_P nfW_ok _ (List.mem_map.mpr ⟨q, hq, rfl⟩))), va_AO.of (A := #[Value.ref b0]) (hn _ List.mem_cons_self), va_AO.of (A := #[Value.ref b0]) (hn _ (List.mem_cons_of_mem _ List.mem_cons_self)), over_moved (Vm.Alike.refl _) (hn _ (List.mem_cons_of_mem _ (List.mem_cons_of_mem _ List.mem_cons_self))), cast_moved (Vm.Alike.refl _) (hn _ (by decide +kernel))⟩
  · have f : ∀ z : Nat, (z = 0 ∨ (2 ≤ z ∧ z < 40) ∨ xNC ≤ z) → (z = 0 ∧ yrf s.heap.size (acO s b0) ((z : Nat) : Int) = none) ∨ (2 ≤ z ∧ z < 40 ∧ yrf s.heap.size (acO s b0) ((z : Nat) : Int) = some (acO s b0 z) ∧ acO s b0 z < s.heap.size) ∨ (200 ≤ z ∧ yrf s.heap.size (acO s b0) ((z : Nat) : Int) = some (s.heap.size + (z - 200))) := by
      intro z hz
      rcases hz with h | h | h
      · subst h
        exact Or.inl ⟨rfl, rfl⟩
      · refine Or.inr (Or.inl ⟨h.1, h.2, ?_, ?_⟩)
        · unfold yrf
          rw [if_neg (by omega), Int.toNat_natCast]
          unfold yad
          rw [if_pos (show z < xNC by show z < 200; omega)]
        · obtain ⟨i, rfl⟩ : ∃ i, z = 2 + i := ⟨z - 2, by omega⟩
          obtain ⟨cell, -, -, -, h4⟩ := (kEv hN (i := i) (by omega)).2
          exact Nat.not_le.mp h4
      · have h : 200 ≤ z := h
        refine Or.inr (Or.inr ⟨h, ?_⟩)
        unfold yrf
        rw [if_neg (by omega), Int.toNat_natCast]
        unfold yad
        rw [if_neg (show ¬ z < xNC by show ¬ z < 200; omega)]
        rfl
    intro x y hx0 hy0
    rcases f x hx0 with ⟨h1, h2⟩ | ⟨h1, h2, h3, h4⟩ | ⟨h1, h2⟩ <;> rcases f y hy0 with ⟨g1, g2⟩ | ⟨g1, g2, g3, g4⟩ | ⟨g1, g2⟩
    · exact ⟨fun _ => by omega, fun h => by rw [h]⟩
    · exact ⟨fun h => (by rw [h2, g3] at h; cases h), fun h => by omega⟩
    · exact ⟨fun h => (by rw [h2, g2] at h; cases h), fun h => by omega⟩
    · exact ⟨fun h => (by rw [h3, g2] at h; cases h), fun h => by omega⟩
    · refine ⟨fun h => ?_, fun h => by rw [h]⟩
      rw [h3, g3] at h
      have h := Option.some.inj h
      obtain ⟨i, rfl⟩ : ∃ i, x = 2 + i := ⟨x - 2, by omega⟩
      obtain ⟨j, rfl⟩ : ∃ j, y = 2 + j := ⟨y - 2, by omega⟩
      rw [kInj hN (by omega) (by omega) h]
    · refine ⟨fun h => ?_, fun h => by omega⟩
      rw [h3, g2] at h
      have h := Option.some.inj h
      omega
    · exact ⟨fun h => (by rw [h2, g2] at h; cases h), fun h => by omega⟩
    · refine ⟨fun h => ?_, fun h => by omega⟩
      rw [h2, g3] at h
      have h := Option.some.inj h
      omega
    · refine ⟨fun h => ?_, fun h => by rw [h]⟩
      rw [h2, g2] at h
      have h := Option.some.inj h
      omega
theorem yC_E1 {b L : Nat} {ac : Nat → Nat} {oq : Value} {Xs : Nat → Int} {U : State} {H : Heap} (h : yC b ac oq xE0 L Xs U H) : yC b ac oq xE1 L Xs U H := by
  refine ⟨fun a c n ha h1 hq hc => ?_, fun a c n ha h1 hq hc hc2 => ?_, h.2.2⟩
  · rw [xE1_ty ha] at hq
    obtain ⟨u1, u2⟩ := h.1 a c n ha h1 hq hc
    exact ⟨u1, fun k v hv => u2 k v (by rw [← xE1_ct ha]; exact hv)⟩
  · rw [xE1_ty ha] at hq
    obtain ⟨u1, u2, u3⟩ := h.2.1 a c n ha h1 hq hc hc2
    have e : (fun j => ycv b ac .null (xtag (c - 100), xna (c - 100) ((xct xE1 a j).getD 0))) = fun j => ycv b ac .null (xtag (c - 100), xna (c - 100) ((xct xE0 a j).getD 0)) := by
      funext j
      rw [xE1_ct ha]
    refine ⟨by rw [e]; exact u1, u2, fun k hk => ?_⟩
    obtain ⟨v, hv, hv2⟩ := u3 k hk
    exact ⟨v, by rw [xE1_ct ha]; exact hv, hv2⟩
end CONSC
/-- the fields' types -/
def ytF (ci k : Nat) : FieldType := match vwCl[ci]? with
  | some q => (parseFieldDescriptor (q.2.1 k).2.2.1).getD .int
  | none => .int
noncomputable def ycc (ci : Nat) : Bool := match vwCl[ci]? with
  | some q => (match xnth xFk ci with
    | some f => Nat.beq f.length q.2.2
    | none => false) && (List.range q.2.2).all (fun k => (match parseFieldDescriptor (q.2.1 k).2.2.1 with
    | some ty => Nat.beq (ykt ty) (yfk xFk ci k)
    | none => false))
  | none => true
set_option maxRecDepth 100000 in
theorem ycc_ok : ∀ ci, ci < 14 → ycc ci = true := by decide +kernel
set_option maxRecDepth 100000 in
theorem yCl_ok : yCl xFk yWL ytF := by
  intro ci q hq
  have hlt : ci < 14 := (List.getElem?_eq_some_iff.mp hq).1
  have h := ycc_ok ci hlt
  unfold ycc at h
  rw [hq] at h
  have h : ((match xnth xFk ci with
    | some f => Nat.beq f.length q.2.2
    | none => false) && (List.range q.2.2).all (fun k => (match parseFieldDescriptor (q.2.1 k).2.2.1 with
    | some ty => Nat.beq (ykt ty) (yfk xFk ci k)
    | none => false))) = true := h
  rw [Bool.and_eq_true] at h
  refine ⟨fun w hw => yin_P lyW_ok w (List.mem_flatMap.mpr ⟨q, List.mem_of_getElem? hq, hw⟩), ?_, fun k hk => ?_, ?_⟩
  · have h1 := h.1
    cases hf : xnth xFk ci with
    | none => rw [hf] at h1; cases h1
    | some f => rw [hf] at h1; exact ⟨f, rfl, Nat.eq_of_beq_eq_true h1⟩
  · have h2 := List.all_eq_true.mp h.2 k (List.mem_range.mpr hk)
    cases hp : parseFieldDescriptor (q.2.1 k).2.2.1 with
    | none => rw [hp] at h2; cases h2
    | some ty =>
      rw [hp] at h2
      have e : ytF ci k = ty := by
        unfold ytF
        rw [hq]
        show (parseFieldDescriptor (q.2.1 k).2.2.1).getD .int = ty
        rw [hp]
        rfl
      rw [e]
      exact ⟨rfl, Nat.eq_of_beq_eq_true h2⟩
  · match ci, hq, hlt with
    | 0, hq, _ => cases hq; exact nmJ0
    | 1, hq, _ => cases hq; exact nmJ4
    | 2, hq, _ => cases hq; exact nmX1
    | 3, hq, _ => cases hq; exact nmX2
    | 4, hq, _ => cases hq; exact nmX3
    | 5, hq, _ => cases hq; exact nmX5
    | 6, hq, _ => cases hq; exact nmX6
    | 7, hq, _ => cases hq; exact nmX7
    | 8, hq, _ => cases hq; exact nmX8
    | 9, hq, _ => cases hq; exact nmX9
    | 10, hq, _ => cases hq; exact nmX10
    | 11, hq, _ => cases hq; exact nmX11
    | 12, hq, _ => cases hq; exact nmX12
    | 13, hq, _ => cases hq; exact nmX13
    | n + 14, _, hlt => exact absurd hlt (by omega)
theorem zcl_big {z c n : Nat} (hz : z < 200) (h : xnth xFTc z = some (c, n)) (hc : 100 ≤ c) : c < 108 ∨ c = 999 := by
  have h1 := zcl_ok z hz
  unfold zcl at h1
  rw [h] at h1
  have h100 : Nat.blt c 100 = false := by
    cases hb : Nat.blt c 100 with
    | false => rfl
    | true => unfold Nat.blt at hb; have := Nat.le_of_ble_eq_true hb; omega
  have h1 : cond (Nat.blt c 100) _ (Nat.beq c 999 || ((Nat.beq c 100 || Nat.beq c 102 || Nat.beq c 105) && Nat.blt n 2147483648 && decide (z ∈ zAr) && zrow z (c - 100) n)) = true := h1
  rw [h100] at h1
  have h1 : (Nat.beq c 999 || ((Nat.beq c 100 || Nat.beq c 102 || Nat.beq c 105) && Nat.blt n 2147483648 && decide (z ∈ zAr) && zrow z (c - 100) n)) = true := h1
  simp only [Bool.or_eq_true, Bool.and_eq_true] at h1
  rcases h1 with h1 | ⟨⟨⟨(h1 | h1) | h1, -⟩, -⟩, -⟩
  · exact Or.inr (Nat.eq_of_beq_eq_true h1)
  · have := Nat.eq_of_beq_eq_true h1; omega
  · have := Nat.eq_of_beq_eq_true h1; omega
  · have := Nat.eq_of_beq_eq_true h1; omega
theorem zcl_sm {z c n : Nat} (hz : z < 200) (h : xnth xFTc z = some (c, n)) (hc : c < 100) : c = 0 ∨ c = 50 := by
  rcases zcl_obj hz h hc with ⟨h1, -⟩ | ⟨h1, -⟩
  · exact Or.inl h1
  · exact Or.inr h1
noncomputable def yrw (i : Nat) : Bool := match xnth xFTf i with
  | some q => !(Nat.beq q.1 100 || Nat.beq q.1 102) || decide (xnth xCTf i = some [])
  | none => true
set_option maxRecDepth 100000 in
theorem yrw_ok : ∀ i, i < 192 → yrw i = true := by decide +kernel
theorem yTb_0 : yTb xE0 xFk yWL ytF :=
  ⟨Nat.le_refl _, by decide +kernel, fun a k h => xE0_ct h, fun z c' n hz h => ⟨zcl_sm hz h, zcl_big hz h⟩, yCl_ok, rfl, fun w hw => (List.mem_filter.mp hw).2, fun a c' n h1 h2 => absurd (Nat.lt_of_lt_of_le h2 h1) (Nat.lt_irrefl _)⟩
theorem yTb_1 : yTb xE1 xFk yWL ytF := by
  refine ⟨Nat.le_of_ble_eq_true rfl, by decide +kernel, fun a k h => xE1_no h, fun z c' n hz h => ?_, yCl_ok, rfl, fun w hw => (List.mem_filter.mp hw).2, fun a c' n h1 h2 h3 h4 j => ?_⟩
  · rw [xE1_ty hz] at h
    exact ⟨zcl_sm hz h, zcl_big hz h⟩
  · have h1 : 200 ≤ a := h1
    have h2 : a < 392 := h2
    rw [xE1_ty2 h1] at h3
    have h5 := yrw_ok (a - 200) (by omega)
    unfold yrw at h5
    rw [h3] at h5
    have h5 : (!(Nat.beq c' 100 || Nat.beq c' 102) || decide (xnth xCTf (a - 200) = some [])) = true := h5
    have h6 : (Nat.beq c' 100 || Nat.beq c' 102) = true := by rcases h4 with e | e <;> subst e <;> rfl
    rw [h6, Bool.not_true, Bool.false_or] at h5
    rw [xE1_ct2 h1]
    exact xct_nil (E := xEf) (of_decide_eq_true h5)
/-- the classes' numbers and slots -/
theorem yK_0 {s : State} {args : Array Value} (hT : ∀ w ∈ ySel ++ lw_tbl, w.before args s = true) : ∃ (D : va_G) (cA : Nat → ClassId), va_K D vwCl (yTys cA) s := by
  have hW : ∀ w ∈ yWL, w.before args s = true := fun w hw => hT w (List.mem_filter.mp hw).1
  have hn : ∀ w ∈ nxW, w.before args s = true := fun w hw => hT w (ywz_P nxW_ok w hw)
  have one : ∀ (ci : Nat) (q : vw_C), vwCl[ci]? = some q → ∃ (cC : ClassId) (iS : Nat → Nat), u_Kn s q.1 q.2.1 q.2.2 cC iS := fun ci q hq =>
    u_known hW (fun w hw => yin_P lyW_ok w (List.mem_flatMap.mpr ⟨q, List.mem_of_getElem? hq, hw⟩)) (hT _ (ywz_P inW_ok _ (List.mem_map.mpr ⟨q, List.mem_of_getElem? hq, rfl⟩)))
  obtain ⟨c0, i0, -⟩ := one 0 _ rfl
  have all : ∀ ci : Nat, ∃ g : ClassId × (Nat → Nat), ∀ q : vw_C, vwCl[ci]? = some q → u_Kn s q.1 q.2.1 q.2.2 g.1 g.2 := by
    intro ci
    cases hq : vwCl[ci]? with
    | none => exact ⟨(c0, i0), fun q h => by cases h⟩
    | some q0 =>
      obtain ⟨cC, iS, h⟩ := one ci q0 hq
      exact ⟨(cC, iS), fun q h2 => by cases h2; exact h⟩
  obtain ⟨g, hg⟩ := Classical.axiomOfChoice all
  have arr : ∀ t : Nat, ∃ cA : ClassId, t < 8 → ArrOfT s cA (yTy.getD t .int) ∧ va_RA s cA (yTy.getD t .int) := by
    intro t
    have prim : ∀ ty : FieldType, (Cond.arrayClass ty).before args s = true → ∃ cA : ClassId, ArrOfT s cA ty ∧ s.vm.findClass ("[" ++ ty.toString) = some cA := fun ty h => by
      obtain ⟨c, k, comp, h1, h2, h3⟩ := Cond.arrayClass_spec h
      exact ⟨c, fun n z => ⟨fun k h => (by cases h), k, h2, comp, h3⟩, h1⟩
    have obj : ∀ C : String, (Cond.arrayOver (.object C)).before args s = true → ∃ cA : ClassId, ArrOfT s cA (.object C) ∧ va_RA s cA (.object C) := fun C h => by
      obtain ⟨comp, c, k, h1, h2, h3, h4, h5⟩ := Cond.arrayOver_spec h
      exact ⟨c, fun n z => ⟨fun k h => (by cases h), k, h3, comp, h4⟩, ⟨k, comp, h3, h4, h1, h5⟩⟩
    match t with
    | 0 => obtain ⟨c, h1, h2⟩ := prim .int (hn _ (by decide +kernel)); exact ⟨c, fun _ => ⟨h1, h2⟩⟩
    | 1 => obtain ⟨c, h1, h2⟩ := prim .long (hn _ (by decide +kernel)); exact ⟨c, fun _ => ⟨h1, h2⟩⟩
    | 2 => obtain ⟨c, h1, h2⟩ := prim .byte (hn _ (by decide +kernel)); exact ⟨c, fun _ => ⟨h1, h2⟩⟩
    | 3 => obtain ⟨c, h1, h2⟩ := prim .char (hn _ (by decide +kernel)); exact ⟨c, fun _ => ⟨h1, h2⟩⟩
    | 4 => obtain ⟨c, h1, h2⟩ := prim .boolean (hn _ (by decide +kernel)); exact ⟨c, fun _ => ⟨h1, h2⟩⟩
    | 5 => obtain ⟨c, h1, h2⟩ := obj "LinenPool$Kind" (hn _ List.mem_cons_self); exact ⟨c, fun _ => ⟨h1, h2⟩⟩
    | 6 => obtain ⟨c, h1, h2⟩ := obj "LinenPool$Terms" (hn _ (List.mem_cons_of_mem _ List.mem_cons_self)); exact ⟨c, fun _ => ⟨h1, h2⟩⟩
    | 7 =>
      obtain ⟨comp, c, k, h1, h2, h3, h4, h5⟩ := arrayOverA_spec (hn _ (List.mem_cons_of_mem _ (List.mem_cons_of_mem _ List.mem_cons_self)))
      exact ⟨c, fun _ => ⟨fun n z => ⟨fun k h => (by cases h), k, h3, comp, h4⟩, h5⟩⟩
    | t + 8 => exact ⟨c0, fun h => absurd h (by omega)⟩
  obtain ⟨cA, hcA⟩ := Classical.axiomOfChoice arr
  refine ⟨(fun c => (g c).1, fun c => (g c).2), cA, fun c q hq => hg c q hq, fun k q hq => ?_⟩
  have hk : k < 8 := by
    have := (List.getElem?_eq_some_iff.mp hq).1
    simpa [yTys] using this
  have e := yTys_at (cA := cA) hk
  rw [e] at hq
  cases hq
  exact hcA k hk

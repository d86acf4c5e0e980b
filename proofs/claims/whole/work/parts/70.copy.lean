/-! arraycopy, grids -/
section YCOPY
variable {p : Program} {l : Launch} {e : Env} {R : Room} {s : State} {m : MethodId} {args : Array Value} {below : List Frame} {meth : Method} {c : Code} {Q : State → Prop}
variable {b : Nat} {ac : Nat → Nat} {oq : Value} {D : va_G} {cA : Nat → ClassId} {E : xE} {F : List (List Nat)} {L : Nat} {Xs : Nat → Int}
variable {k0 n0 pc nx : Nat} {ls st : List xAV} {σ : xS} {cc : ByteArray} {H : Heap} {locs : List Loc} {rs : Array Slot}
theorem ycon_copy {src sp dst dp n a k : Nat} (hn : ∀ j, xct E dst j = none) : ycon E (xcopy E σ src sp dst dp n) a k = if a = dst ∧ (dp ≤ k ∧ k < dp + n) then xag E σ src (sp + (k - dp)) else ycon E σ a k := by
  have hx : xg (xcopy E σ src sp dst dp n) a k = if a = dst ∧ (dp ≤ k ∧ k < dp + n) then xag E σ src (sp + (k - dp)) else xg σ a k := by
    show cond (Nat.beq a dst && (Nat.ble dp k && Nat.ble (k + 1) (dp + n))) (xag E σ src (sp + (k - dp))) (σ.1 a k) = _
    by_cases h : a = dst ∧ (dp ≤ k ∧ k < dp + n)
    · rw [if_pos h, h.1, Nat.beq_refl, Nat.ble_eq_true_of_le h.2.1, Nat.ble_eq_true_of_le h.2.2]; rfl
    · rw [if_neg h]
      have : (Nat.beq a dst && (Nat.ble dp k && Nat.ble (k + 1) (dp + n))) = false := by
        cases h1 : Nat.beq a dst with
        | false => rfl
        | true =>
          cases h2 : Nat.ble dp k with
          | false => rfl
          | true =>
            cases h3 : Nat.ble (k + 1) (dp + n) with
            | false => rfl
            | true => exact absurd ⟨Nat.eq_of_beq_eq_true h1, Nat.le_of_ble_eq_true h2, Nat.le_of_ble_eq_true h3⟩ h
      rw [this]; rfl
  unfold ycon
  by_cases h : a = dst ∧ (dp ≤ k ∧ k < dp + n)
  · rw [if_pos h]
    have hc : xct E a k = none := by rw [h.1]; exact hn k
    rw [hc]
    simp only
    rw [hx, if_pos h]
  · rw [if_neg h]
    cases xct E a k with
    | some v => rfl
    | none => simp only; rw [hx, if_neg h]
theorem ys_copy {x y sp dp n : Int} {t nx' ny index : Nat} {own : String} (hx : p.tables.exec = Jvm.exec) (hb : c.code = cc) (hml : c.maxLocals = rs.size) (hE : xNC ≤ E.1) (h0 : xnth E.2.1 0 = some (999, 0)) (hown : s.vm.findClass own = some m.cls) (hlink : (Cond.methodLink own index arraycopyName).before args s = true) (hnat : (Cond.native arraycopyName).before args s = true) (hstat : (Cond.static arraycopyName).before args s = true) (hini : (Cond.initialized "java/lang/System").before args s = true)
    (hK : va_K D vwCl (yTys cA) s) (hC : yC b ac oq E L Xs s s.heap) (hH : yHp b ac D cA E F L Xs s σ H locs) (ht : t = 0 ∨ t = 2) (ha : xarr E σ x t = some nx') (hb' : xarr E σ y t = some ny) (hR : yR sp ∧ yR dp ∧ yR n) (hcd : ((0 ≤ sp ∧ 0 ≤ dp) ∧ 0 ≤ n) ∧ (sp + n ≤ (nx' : Int) ∧ dp + n ≤ (ny : Int))) (hy : xNC ≤ y.toNat) (hne : x.toNat ≠ y.toNat) (hct : ∀ j, xct E y.toNat j = none)
    (hframes : 1 ≤ R.frames) (hlocals : ((st.map (ycv b ac oq)).map fun v => v.category).sum + (nativeFrameWords "java/lang/System" "arraycopy" 5 + 11) ≤ R.locals) (hdg : decode cc pc = .ok (.invokestatic index, 3))
    (kk : ∀ (H1 : Heap) (locs1 : List Loc), yHp b ac D cA E F L Xs s (xcopy E σ x.toNat sp.toNat y.toNat dp.toNat n.toNat) H1 locs1 → W p l e R s m args below meth c H1 locs1 (xnew E σ - k0) (xsl σ - n0) Q (F0 m (pc + 3) rs (st.map (ycv b ac oq)))) : yW b ac oq E p l e R s m args below meth c Q k0 n0 H locs σ pc rs ((0, n) :: (0, dp) :: (2, y) :: (0, sp) :: (2, x) :: st) := by
  obtain ⟨⟨⟨c1, c2⟩, c3⟩, c4, c5⟩ := hcd
  obtain ⟨a0, scr, q1, q2, q3, q4, q5, q6, q7, q8⟩ := yarr_of hE h0 hK hC hH ha (by omega)
  have hty := xarr_P hb'
  have hpos : 0 < y := by
    by_cases h : 0 < y
    · exact h
    · have : y.toNat = 0 := Int.toNat_of_nonpos (by omega)
      rw [this] at hy
      exact absurd hy (by decide)
  obtain ⟨hlt, hcl, hvk⟩ := yT_at hH.2.2.1 hE hy hty
  have he := yws_at (b := b) (ac := ac) (cA := cA) (E := E) (F := F) (σ := σ) hy hlt
  have hE2 : yE b ac cA E F σ y.toNat = .inl (cA t, ny, yar b ac t (ycon E σ y.toNat)) := by
    unfold yE; rw [hty]; simp only
    rw [if_neg (by omega), show 100 + t - 100 = t by omega]
  rw [hE2] at he
  have hat : H[yad b ac y.toNat]? = some (vp_cell (cA t) (ny, yar b ac t (ycon E σ y.toNat))) := hH.1 _ _ he
  rw [yar_cell] at hat
  have hmk : ∀ z : Int, ycv b ac .null (xtag t, xna t z) = Value.int (Int32.ofInt (xna t z)) := fun z => by rcases ht with e | e <;> subst e <;> rfl
  have ecell : arrV (cA t) ny (fun j => ycv b ac .null (xtag t, xna t (ycon E σ y.toNat j))) = arrV (cA t) ny (fun j => Value.int (Int32.ofInt (xna t (ycon E σ y.toNat j)))) := congrArg (arrV (cA t) ny) (funext fun j => hmk _)
  rw [ecell] at hat
  have hse : ∀ z, xag E σ x z = xag E σ (x.toNat : Int) z := fun z => by
    unfold xag
    rw [Int.toNat_natCast]
  have hn' : ∀ {z : Int}, 0 ≤ z → yR z → ¬ Int32.ofInt z < 0 := fun {z} h hr => by rw [y_0, y_lt hr yR_0]; omega
  show W p l e R s m args below meth c H locs (xnew E σ - k0) (xsl σ - n0) Q (F0 m pc rs (.int (Int32.ofInt n) :: .int (Int32.ofInt dp) :: va_rf (yrf b ac y) :: .int (Int32.ofInt sp) :: va_rf (yrf b ac x) :: st.map (ycv b ac oq)))
  rw [q1, yrf_pos hpos]
  intro T hT X
  obtain ⟨hs6, kc0, hk0, cm0, hkk0⟩ := q3
  obtain ⟨-, kc1, hk1, cm1, hkk1⟩ := (hK.2 t _ (yTys_at (by omega))).1 ny (fun j => .int (Int32.ofInt (xna t (ycon E σ y.toNat j))))
  obtain ⟨vm', X', step⟩ := X.arraycopy hx hown hlink hnat hstat hini (src := a0) (dst := yad b ac y.toNat) (cs := scr) (cd := arrV (cA t) ny (fun j => .int (Int32.ofInt (xna t (ycon E σ y.toNat j))))) (srcPos := Int32.ofInt sp) (destPos := Int32.ofInt dp) (n := Int32.ofInt n) (by rw [hT]; exact q2) (by rw [hT]; exact hat)
    hs6 (fun _ h => by cases h) q4 (fun h => by cases h) hk0 hk1 hkk0 hkk1 (by rcases ht with e | e <;> subst e <;> simp [refKind, yTy]) (hn' c1 hR.1) (hn' c2 hR.2.1) (hn' c3 hR.2.2)
    (by rw [y_i32R hR.1, y_i32R hR.2.2]; omega)
    (by rw [y_i32R hR.2.1, y_i32R hR.2.2, arrV_size]; omega)
    (fun vm₁ _ i hi => by
      rw [y_nat c3 hR.2.2] at hi
      rw [y_nat c1 hR.1]
      have e : scr.slots.getD (sp.toNat + i) .null = .int (Int32.ofInt (xna t (xag E σ x (sp.toNat + i)))) := by
        rw [Array.getD_eq_getD_getElem?, (q8 _ (by omega)).1, hmk]
        rfl
      rw [e]
      refine ⟨?_, trivial⟩
      have hv := yvv_of (q8 (sp.toNat + i) (by omega)).2
      have hnn := xna_na t (xag E σ x (sp.toNat + i))
      rcases ht with e | e <;> subst e
      · rfl
      · exact (y_nar (b := b) (ac := ac) (ty := .byte) (t := 2) (w := xna 2 (xag E σ x (sp.toNat + i))) rfl (by decide) hnn hv).2)
    (g := F0 m pc rs (.int (Int32.ofInt n) :: .int (Int32.ofInt dp) :: .ref (yad b ac y.toNat) :: .int (Int32.ofInt sp) :: .ref a0 :: st.map (ycv b ac oq))) rfl (by rw [hml]) (rest := st.map (ycv b ac oq)) rfl (by rw [hb]; exact hdg) hframes (by show 2 * 0 + _ + _ ≤ _; omega)
  have e1 : copied scr (arrV (cA t) ny (fun j => .int (Int32.ofInt (xna t (ycon E σ y.toNat j))))) (Int32.ofInt sp) (Int32.ofInt dp) (Int32.ofInt n) = arrV (cA t) ny (fun j => .int (va_cpy (fun z => Int32.ofInt (xna t (xag E σ x z))) (fun z => Int32.ofInt (xna t (ycon E σ y.toNat z))) (Int32.ofInt sp).toNatClampNeg (Int32.ofInt dp).toNatClampNeg (Int32.ofInt n).toNatClampNeg j)) :=
    va_copiedX (fun z => Value.int z) scr (cA t) (fun z => Int32.ofInt (xna t (xag E σ x z))) (fun z => Int32.ofInt (xna t (ycon E σ y.toNat z))) (n0 := nx') (fun j hj => by rw [(q8 j hj).1, hmk]) (by rw [y_nat c1 hR.1, y_nat c3 hR.2.2]; omega)
  rw [e1, y_nat c1 hR.1, y_nat c2 hR.2.1, y_nat c3 hR.2.2] at X' step
  generalize hcell : arrV (cA t) ny (fun j => Value.int (va_cpy (fun z => Int32.ofInt (xna t (xag E σ x z))) (fun z => Int32.ofInt (xna t (ycon E σ y.toNat z))) sp.toNat dp.toNat n.toNat j)) = cell1 at X' step
  have hl : yad b ac y.toNat < H.size := (Array.getElem?_eq_some_iff.mp hat).1
  have hheap : ((T.setVm vm').setCell (yad b ac y.toNat) cell1).heap = H.setIfInBounds (yad b ac y.toNat) cell1 := by rw [← hT]; rfl
  have oqq : ∀ q : Nat, q ≠ yad b ac y.toNat → (H.setIfInBounds (yad b ac y.toNat) cell1)[q]? = H[q]? := fun q hq => by simp [Array.getElem?_setIfInBounds, Ne.symm hq]
  have hD : va_D (fun q => b ≤ q) (yws b ac cA E F σ) := yws_D
  have hA : b ≤ yad b ac y.toNat := hD.2 _ _ he
  have hcon : ∀ a k, ycon E (xcopy E σ x.toNat sp.toNat y.toNat dp.toNat n.toNat) a k = if a = y.toNat ∧ (dp.toNat ≤ k ∧ k < dp.toNat + n.toNat) then xag E σ x (sp.toNat + (k - dp.toNat)) else ycon E σ a k := fun a k => by rw [ycon_copy hct, hse]
  have hset : yws b ac cA E F (xcopy E σ x.toNat sp.toNat y.toNat dp.toNat n.toNat) = (yws b ac cA E F σ).set (y.toNat - xNC) (yad b ac y.toNat, .inl (cA t, ny, yar b ac t (ycon E (xcopy E σ x.toNat sp.toNat y.toNat dp.toNat n.toNat) y.toNat))) := by
    refine yws_set hy hlt rfl ?_ ?_
    · unfold yE
      have : xty E (xcopy E σ x.toNat sp.toNat y.toNat dp.toNat n.toNat) y.toNat = some (100 + t, ny) := hty
      rw [this]; simp only
      rw [if_neg (by omega), show 100 + t - 100 = t by omega]
    · intro j h1 h2
      have hc : ycon E (xcopy E σ x.toNat sp.toNat y.toNat dp.toNat n.toNat) j = ycon E σ j := by
        funext k'
        rw [hcon, if_neg (fun z => h2 z.1)]
      unfold yE
      have : xty E (xcopy E σ x.toNat sp.toNat y.toNat dp.toNat n.toNat) j = xty E σ j := rfl
      rw [this]
      cases xty E σ j with
      | none => rfl
      | some q => simp only; unfold yfs; rw [hc]
  have hat1 : (H.setIfInBounds (yad b ac y.toNat) cell1)[yad b ac y.toNat]? = some cell1 := by simp [Array.getElem?_setIfInBounds, hl]
  have hT1 : yT E F (xcopy E σ x.toNat sp.toNat y.toNat dp.toNat n.toNat) := by
    intro a h1 h2
    obtain ⟨c2, n2, g1, g2, g3⟩ := hH.2.2.1 a h1 h2
    refine ⟨c2, n2, g1, g2, fun k hk => ?_⟩
    rw [hcon]
    by_cases h : a = y.toNat ∧ (dp.toNat ≤ k ∧ k < dp.toNat + n.toNat)
    · rw [if_pos h]
      rw [h.1, hty] at g1
      have g1 := congrArg Prod.fst (Option.some.inj g1)
      simp only at g1
      subst g1
      unfold ysk
      rw [if_neg (by omega), show 100 + t - 100 = t by omega]
      have hb9 : sp.toNat + (k - dp.toNat) < nx' := by clear hcl hvk g2 g3 hct; omega
      exact (q8 _ hb9).2
    · rw [if_neg h]; exact g3 k hk
  have hcl1 : vp_cell (cA t) (ny, yar b ac t (ycon E (xcopy E σ x.toNat sp.toNat y.toNat dp.toNat n.toNat) y.toNat)) = cell1 := by
    rw [yar_cell, ← hcell]
    refine congrArg (arrV (cA t) ny) (funext fun k => ?_)
    rw [hmk, hcon]
    unfold va_cpy
    by_cases h : dp.toNat ≤ k ∧ k < dp.toNat + n.toNat
    · rw [if_pos h, if_pos ⟨rfl, h⟩]
    · rw [if_neg h, if_neg (fun z => h z.2)]
  have K := fun (locs1 : List Loc) (hl1 : ∀ l ∈ locs1, b ≤ l.base) => kk (H.setIfInBounds (yad b ac y.toNat) cell1) locs1 ⟨by rw [hset]; exact hH.1.set hD he (show (H.setIfInBounds (yad b ac y.toNat) cell1)[yad b ac y.toNat]? = some (vp_cell _ _) by rw [hcl1]; exact hat1) oqq, by rw [Array.size_setIfInBounds]; exact hH.2.1, hT1, hH.2.2.2.1, by rw [Array.size_setIfInBounds]; exact hH.2.2.2.2.1, fun q g1 g2 => by
      rw [oqq q (fun e => g2 (by rw [e]; exact hA))]
      exact hH.2.2.2.2.2.1 q g1 g2, hl1⟩
  obtain ⟨t9, a1, b1⟩ := K _ (fun q hq => by
      rcases List.mem_append.mp hq with h | h
      · exact hH.2.2.2.2.2.2 q h
      · obtain ⟨z, -, hz⟩ := List.mem_map.mp h
        rw [← hz]
        exact hA) _ hheap X'
  exact ⟨t9, step t9 a1, b1⟩
/-- what a grid's rows are -/
theorem xrows_facts {t k o : Nat} (hE : xNC ≤ E.1) (hct : ∀ a k, E.1 ≤ a → xct E a k = none) (ho1 : E.1 ≤ o) : ∀ (m j : Nat) (σ : xS), o < xnew E σ →
    xnew E (xrows E t k o m j σ) = xnew E σ + m ∧ xsl (xrows E t k o m j σ) = xsl σ + m * k ∧ xL (xrows E t k o m j σ) = xL σ ∧ xX (xrows E t k o m j σ) = xX σ ∧
    (∀ a q, xty E σ a = some q → xty E (xrows E t k o m j σ) a = some q) ∧ (∀ i, i < m → xty E (xrows E t k o m j σ) (xnew E σ + i) = some (100 + t, k)) ∧
    (∀ a z, a < xnew E σ → ycon E (xrows E t k o m j σ) a z = if a = o ∧ (j ≤ z ∧ z < j + m) then ((xnew E σ + (z - j) : Nat) : Int) else ycon E σ a z) ∧
    (∀ i z, i < m → ycon E (xrows E t k o m j σ) (xnew E σ + i) z = 0) := by
  intro m
  induction m with
  | zero =>
    intro j σ ho
    refine ⟨rfl, by simp [xrows], rfl, rfl, fun _ _ h => h, fun i h => absurd h (Nat.not_lt_zero _), fun a z _ => ?_, fun i z h => absurd h (Nat.not_lt_zero _)⟩
    rw [if_neg (by omega)]
    rfl
  | succ m ih =>
    intro j σ ho
    have hn1 : xnew E (xs (xal E σ (100 + t) k) o j ((xnew E σ : Nat) : Int)) = xnew E σ + 1 := by rw [xnew_xs, xnew_al]
    obtain ⟨i1, i2, i3, i4, i5, i6, i7, i8⟩ := ih (j + 1) (xs (xal E σ (100 + t) k) o j ((xnew E σ : Nat) : Int)) (by rw [hn1]; omega)
    rw [hn1] at i1 i6 i7 i8
    have hx : xrows E t k o (m + 1) j σ = xrows E t k o m (j + 1) (xs (xal E σ (100 + t) k) o j ((xnew E σ : Nat) : Int)) := rfl
    rw [hx]
    have hnone : xct E o j = none := hct _ _ ho1
    have hle : E.1 ≤ xnew E σ := Nat.le_add_right _ _
    refine ⟨by rw [i1]; omega, ?_, i3, i4, fun a q h => i5 a q (by rw [xty_xs]; exact xty_al hE h), fun i hi => ?_, fun a z ha => ?_, fun i z hi => ?_⟩
    · rw [i2, xsl_xs, xsl_al, Nat.succ_mul]; omega
    · by_cases h0 : i = 0
      · subst h0
        exact i5 _ _ (by rw [xty_xs]; exact yxty_new hE)
      · have := i6 (i - 1) (by omega)
        rw [show xnew E σ + 1 + (i - 1) = xnew E σ + i by omega] at this
        exact this
    · rw [i7 a z (by omega), ycon_xs hnone, ycon_al (by omega)]
      by_cases h : a = o
      · by_cases hz : z = j
        · subst hz
          rw [if_neg (by omega), if_pos ⟨h, rfl⟩, if_pos ⟨h, by omega, by omega⟩, Nat.sub_self, Nat.add_zero]
        · by_cases hz2 : j + 1 ≤ z ∧ z < j + 1 + m
          · rw [if_pos ⟨h, hz2⟩, if_pos ⟨h, by omega, by omega⟩]
            congr 1
            omega
          · rw [if_neg (fun q => hz2 q.2), if_neg (fun q => hz q.2), if_neg (fun q => hz2 ⟨by omega, by omega⟩)]
      · rw [if_neg (fun q => h q.1), if_neg (fun q => h q.1), if_neg (fun q => h q.1)]
    · by_cases h0 : i = 0
      · subst h0
        have e0 : xnew E σ + 0 = xnew E σ := rfl
        rw [e0, i7 _ z (by omega), if_neg (by omega), ycon_xs hnone, if_neg (by omega), ycon_new (hct _ _ hle)]
      · have := i8 (i - 1) z (by omega)
        rw [show xnew E σ + 1 + (i - 1) = xnew E σ + i by omega] at this
        exact this
theorem y_outer (c : ClassId) (N h0 : Nat) : ∀ i : Nat, Jvm.Free.Multi.outerC c N h0 i = arrV c N (fun j => va_rf (if j < i then some (h0 + 1 + j) else none))
  | 0 => by
    show ({ cls := c, slots := Array.replicate N .null, vm := .none } : Cell) = _
    rw [arrV_new]
    refine congrArg (arrV c N) (funext fun j => ?_)
    simp [va_rf]
  | i + 1 => by
    show (Jvm.Free.Multi.outerC c N h0 i).setSlot i (.ref (h0 + 1 + i)) = _
    rw [y_outer c N h0 i, arrV_store]
    refine congrArg (arrV c N) (funext fun j => ?_)
    by_cases e : j = i
    · subst e
      simp [updV, va_rf]
    · by_cases h : j < i
      · simp [updV, e, h, Nat.lt_succ_of_lt h]
      · simp [updV, e, h, show ¬ j < i + 1 by omega]
theorem ys_mna {n k : Int} {t index : Nat} {own : String} (hx : p.tables.exec = Jvm.exec) (hb : c.code = cc) (hE : xNC ≤ E.1) (hct : ∀ a k, E.1 ≤ a → xct E a k = none) (hown : s.vm.findClass own = some m.cls) (hK : va_K D vwCl (yTys cA) s) (hH : yHp b ac D cA E F L Xs s σ H locs) (h0 : 0 ≤ n ∧ n ≤ 1000) (h1 : 0 ≤ k ∧ k ≤ 1000) (hlink : (Cond.classLink own index ("[" ++ (FieldType.array .int).toString)).before args s = true) (hov : (Cond.arrayOver (.array .int)).before args s = true) (harr : (Cond.arrayClass .int).before args s = true) (hk : k0 ≤ xnew E σ ∧ n0 ≤ xsl σ) (hroom : xnew E σ + 1 + n.toNat - k0 ≤ R.cells ∧ xsl σ + n.toNat + n.toNat * k.toNat - n0 ≤ R.slots) (hdg : decode cc pc = .ok (.multianewarray index 2, 4))
    (kk : ∀ (H1 : Heap), yHp b ac D cA E F L Xs s (xrows E 0 k.toNat (xnew E σ) n.toNat 0 (xal E σ 107 n.toNat)) H1 locs → yW b ac oq E p l e R s m args below meth c Q k0 n0 H1 locs (xrows E 0 k.toNat (xnew E σ) n.toNat 0 (xal E σ 107 n.toNat)) (pc + 4) rs ((2, ((xnew E σ : Nat) : Int)) :: st)) : yW b ac oq E p l e R s m args below meth c Q k0 n0 H locs σ pc rs ((0, k) :: (0, n) :: st) := by
  have hRn : yR n := by unfold yR; omega
  have hRk : yR k := by unfold yR; omega
  have hle : E.1 ≤ xnew E σ := Nat.le_add_right _ _
  have hxx : xNC ≤ xnew E σ := Nat.le_trans hE hle
  obtain ⟨i1, i2, i3, i4, i5, i6, i7, i8⟩ := xrows_facts (t := 0) (k := k.toNat) (o := xnew E σ) hE hct hle n.toNat 0 (xal E σ 107 n.toNat) (by rw [xnew_al]; omega)
  rw [xnew_al] at i1 i6 i7 i8
  rw [xsl_al] at i2
  have hRA0 : s.vm.findClass "[I" = some (cA 0) := (hK.2 0 _ (yTys_at (by omega))).2
  have hRA7 : s.vm.findClass ("[" ++ (FieldType.array .int).toString) = some (cA 7) := (hK.2 7 _ (yTys_at (by omega))).2
  intro T hT X
  obtain ⟨vm₁, cA1, comp, -, fA, fC, hO, -, X', step⟩ := Jvm.Stand.multianewarray2F X hx hown hlink hov harr (g := F0 m pc rs (.int (Int32.ofInt k) :: .int (Int32.ofInt n) :: st.map (ycv b ac oq))) rfl (by rw [hb]; exact hdg) rfl (by rw [y_0, y_lt hRn yR_0]; omega) (by rw [y_0, y_lt hRk yR_0]; omega) (by rw [y_nat h0.1 hRn]; omega) (by rw [y_nat h1.1 hRk]; show k.toNat * 4 ≤ _; omega) (by rw [y_nat h1.1 hRk]; omega) rfl rfl (by rw [y_nat h0.1 hRn]; omega) (by rw [y_nat h0.1 hRn, y_nat h1.1 hRk]; omega)
  have e1 : cA1 = cA 7 := Option.some.inj (fA.symm.trans hRA7)
  have e2 : comp = cA 0 := Option.some.inj (fC.symm.trans hRA0)
  subst e1
  subst e2
  rw [y_nat h0.1 hRn, y_nat h1.1 hRk] at X' step
  have hTh : (T.setVm vm₁).heap = H := hT
  obtain ⟨f1, f2, -, -⟩ := Jvm.Free.Multi.fill_facts (T.setVm vm₁) (cA 7) (cA 0) n.toNat k.toNat (defaultValue .int) n.toNat
  have hold : ∀ x : Nat, x < H.size → (Jvm.Free.Multi.fill (T.setVm vm₁) (cA 7) (cA 0) n.toNat k.toNat (defaultValue .int) n.toNat).heap[x]? = H[x]? := fun x hx => by
    have := Jvm.Free.Multi.fill_old (T.setVm vm₁) (cA 7) (cA 0) n.toNat k.toNat (defaultValue .int) (a := x) (by rw [hTh]; exact hx) n.toNat
    rw [hTh] at this
    exact this
  have hrow : ∀ j : Nat, j < n.toNat → (Jvm.Free.Multi.fill (T.setVm vm₁) (cA 7) (cA 0) n.toNat k.toNat (defaultValue .int) n.toNat).heap[H.size + 1 + j]? = some (arrV (cA 0) k.toNat (fun _ => .int 0)) := fun j hj => by
    have := Jvm.Free.Multi.fill_inner (T.setVm vm₁) (cA 7) (cA 0) n.toNat k.toNat (defaultValue .int) n.toNat j hj
    rw [hTh] at this
    rw [this, ← arrV_new]
    rfl
  rw [hTh] at f1 f2
  generalize Jvm.Free.Multi.fill (T.setVm vm₁) (cA 7) (cA 0) n.toNat k.toNat (defaultValue .int) n.toNat = G at X' step f1 f2 hold hrow
  generalize hσ : xrows E 0 k.toNat (xnew E σ) n.toNat 0 (xal E σ 107 n.toNat) = σ1 at *
  have hHp : yHp b ac D cA E F L Xs s σ1 G.heap locs := by
    refine ⟨?_, by rw [f1, i1, hH.2.1]; omega, ?_, ⟨by rw [i3]; exact hH.2.2.2.1.1, by rw [i4]; exact hH.2.2.2.1.2⟩, ⟨by rw [f1]; have := hH.2.2.2.2.1; omega, fun q h1 h2 => ?_, hH.2.2.2.2.2.2⟩⟩
    · intro i q hq
      have hi : i < xnew E σ1 - xNC := by
        have := (List.getElem?_eq_some_iff.mp hq).1
        rw [yws_len] at this
        exact this
      have hw := yws_at (b := b) (ac := ac) (cA := cA) (E := E) (F := F) (σ := σ1) (a := xNC + i) (by omega) (by omega)
      rw [show xNC + i - xNC = i by omega, hq] at hw
      have hw := Option.some.inj hw
      subst hw
      rw [i1] at hi
      by_cases ha : xNC + i < xnew E σ
      · obtain ⟨c2, n2, g, -⟩ := hH.2.2.1 (xNC + i) (by omega) ha
        have hc : ycon E σ1 (xNC + i) = ycon E σ (xNC + i) := funext fun z => by rw [i7 _ z (by omega), if_neg (by omega), ycon_al (by omega)]
        have hE1 : yE b ac cA E F σ1 (xNC + i) = yE b ac cA E F σ (xNC + i) := by
          unfold yE
          rw [i5 _ _ (xty_al hE g), g]
          simp only
          unfold yfs
          rw [hc]
        rw [hE1]
        have h9 := hH.1 _ _ (yws_at (b := b) (ac := ac) (cA := cA) (E := E) (F := F) (σ := σ) (a := xNC + i) (by omega) ha)
        exact h9.kept (hold _ h9.lt)
      · have hyad : yad b ac (xNC + i) = b + i := by
          unfold yad
          rw [if_neg (by omega), show xNC + i - xNC = i by omega]
        rw [hyad]
        by_cases ha2 : xNC + i = xnew E σ
        · have hty : xty E σ1 (xNC + i) = some (107, n.toNat) := by rw [ha2]; exact i5 _ _ (yxty_new hE)
          have hE1 : yE b ac cA E F σ1 (xNC + i) = .inl (cA 7, n.toNat, yar b ac 7 (ycon E σ1 (xNC + i))) := by
            unfold yE; rw [hty]; simp only; rw [if_neg (by omega)]
          rw [hE1]
          show G.heap[b + i]? = some (vp_cell _ _)
          rw [yar_cell, show b + i = H.size by rw [hH.2.1]; omega, f2, y_outer]
          refine congrArg (fun f => some (arrV (cA 7) n.toNat f)) (funext fun z => ?_)
          show _ = va_rf (yrf b ac (ycon E σ1 (xNC + i) z))
          rw [i7 _ z (by omega)]
          by_cases hz : z < n.toNat
          · rw [if_pos hz, if_pos ⟨ha2, by omega, by omega⟩, yrf_pos (by omega)]
            refine congrArg (fun w => va_rf (some w)) ?_
            unfold yad
            rw [Int.toNat_natCast, if_neg (by omega), hH.2.1]
            omega
          · rw [if_neg hz, if_neg (by omega), ha2, ycon_new (hct _ _ hle)]
            rfl
        · have hj : xNC + i = xnew E σ + 1 + (xNC + i - xnew E σ - 1) := by omega
          have hjn : xNC + i - xnew E σ - 1 < n.toNat := by omega
          have hty : xty E σ1 (xNC + i) = some (100, k.toNat) := by rw [hj]; exact i6 _ hjn
          have hc : ∀ z, ycon E σ1 (xNC + i) z = 0 := fun z => by rw [hj]; exact i8 _ z hjn
          have hE1 : yE b ac cA E F σ1 (xNC + i) = .inl (cA 0, k.toNat, yar b ac 0 (ycon E σ1 (xNC + i))) := by
            unfold yE; rw [hty]; simp only; rw [if_neg (by omega)]
          rw [hE1]
          show G.heap[b + i]? = some (vp_cell _ _)
          have hr := hrow _ hjn
          rw [show H.size + 1 + (xNC + i - xnew E σ - 1) = b + i by rw [hH.2.1]; omega] at hr
          rw [yar_cell, hr]
          refine congrArg (fun f => some (arrV (cA 0) k.toNat f)) (funext fun z => ?_)
          rw [hc z]
          rfl
    · intro a h1' h2'
      rw [i1] at h2'
      by_cases ha : a < xnew E σ
      · obtain ⟨c2, n2, g1, g2, g3⟩ := hH.2.2.1 a h1' ha
        refine ⟨c2, n2, i5 _ _ (xty_al hE g1), g2, fun z hz => ?_⟩
        rw [i7 _ z (by omega), if_neg (by omega), ycon_al (by omega)]
        exact g3 z hz
      · by_cases ha2 : a = xnew E σ
        · refine ⟨107, n.toNat, by rw [ha2]; exact i5 _ _ (yxty_new hE), Or.inr ⟨by omega, by omega, by omega⟩, fun z hz => ?_⟩
          show 0 ≤ ycon E σ1 a z
          rw [i7 _ z (by omega), if_pos ⟨ha2, by omega, by omega⟩]
          omega
        · have hj : a = xnew E σ + 1 + (a - xnew E σ - 1) := by omega
          have hjn : a - xnew E σ - 1 < n.toNat := by omega
          refine ⟨100, k.toNat, by rw [hj]; exact i6 _ hjn, Or.inr ⟨by omega, by omega, by omega⟩, fun z hz => ?_⟩
          have hc : ycon E σ1 a z = 0 := by rw [hj]; exact i8 _ z hjn
          rw [hc]
          exact yvk_0 _
    · rw [hold q (Nat.lt_of_lt_of_le h1 hH.2.2.2.2.1)]
      exact hH.2.2.2.2.2.1 q h1 h2
  have := kk G.heap hHp
  unfold yW at this
  rw [i1, i2] at this
  obtain ⟨t9, a1, b1⟩ := this G rfl (by
    rw [show xnew E σ - k0 + 1 + n.toNat = xnew E σ + 1 + n.toNat - k0 by omega, show xsl σ - n0 + n.toNat + n.toNat * k.toNat = xsl σ + n.toNat + n.toNat * k.toNat - n0 by omega] at X'
    exact X')
  refine ⟨t9, step t9 ?_, b1⟩
  have e2 : ycv b ac oq (2, ((xnew E σ : Nat) : Int)) = .ref H.size := by
    show va_rf (yrf b ac _) = _
    rw [yad_new hE hH]; rfl
  rw [List.map_cons, e2] at a1
  have e : T.heap.size = H.size := by rw [hT]
  rw [e]
  exact a1
end YCOPY

/-! arrays, new cells -/
section YARR
variable {p : Program} {l : Launch} {e : Env} {R : Room} {s : State} {m : MethodId} {args : Array Value} {below : List Frame} {meth : Method} {c : Code} {Q : State → Prop}
variable {b : Nat} {ac : Nat → Nat} {oq : Value} {D : va_G} {cA : Nat → ClassId} {E : xE} {F : List (List Nat)} {L : Nat} {Xs : Nat → Int}
variable {k0 n0 pc nx : Nat} {ls st : List xAV} {σ : xS} {cc : ByteArray} {H : Heap} {locs : List Loc} {rs : Array Slot}
theorem yar_cell (cI : ClassId) (n t : Nat) (f : Nat → Int) : vp_cell cI (n, yar b ac t f) = arrV cI n (fun j => ycv b ac .null (xtag t, xna t (f j))) := by
  match t with
  | 0 => rfl
  | 1 => rfl
  | 2 => rfl
  | 3 => rfl
  | 4 => rfl
  | t + 5 => rfl
theorem yTys_at {t : Nat} (h : t < 8) : (yTys cA)[t]? = some (cA t, yTy.getD t .int) := by
  unfold yTys
  rw [List.getElem?_map, List.getElem?_range h]
  rfl
theorem xna_vk {t : Nat} {w : Int} (hv : yvv (xtag t, w)) : yvk t (xna t w) := by
  have hv := yvk_of hv
  unfold yvk at hv ⊢
  unfold xna
  split <;> first | trivial | skip
  all_goals (split <;> first | (simp_all; done) | skip)
theorem xna_na (t : Nat) (w : Int) : xna t (xna t w) = xna t w := by
  match t with
  | 0 => rfl
  | 1 => rfl
  | 2 => rw [xna2, xna2]; omega
  | 3 => rw [xna3, xna3]; omega
  | 4 => rw [xna4, xna4]; omega
  | t + 5 => rfl
theorem y_nz (w : Int) : Int32.ofInt w &&& 1 = Int32.ofInt (xna 4 w) := by
  have h := pk_and (Int32.ofInt w) (m := 1) 1 rfl
  have h1 : (Int32.ofInt w).toBitVec.toNat = (w % 4294967296).toNat := by
    show (BitVec.ofInt 32 w).toNat = _
    rw [BitVec.toNat_ofInt]
    rfl
  rw [h1] at h
  rw [h]
  apply Int32.toInt.inj
  have h2 : (w % 4294967296).toNat % 2 ^ 1 < 2 ^ 31 := by omega
  rw [nI_toInt h2, y_i32, xna4]
  unfold xw
  omega
theorem y_nc (w : Int) : (Int32.ofInt w).toUInt32.toUInt16.toUInt32.toInt32 = Int32.ofInt (xna 3 w) := by
  have h1 := vp_nar_char (Int32.ofInt w)
  have h2 : vp_nar .char (Int32.ofInt w) = (Int32.ofInt w).toUInt32.toUInt16.toUInt32.toInt32 := rfl
  rw [← y_i2c, UInt32.toUInt32_toUInt16]
theorem xag_con {x : Int} {i : Nat} (h : x.toNat ≠ 1) : xag E σ x i = ycon E σ x.toNat i := by
  unfold xag ycon
  have : Nat.beq x.toNat 1 = false := by cases h2 : Nat.beq x.toNat 1 with
    | false => rfl
    | true => exact absurd (Nat.eq_of_beq_eq_true h2) h
  rw [this]
  rfl
theorem xag_one {x : Int} {i : Nat} (h : x.toNat = 1) : xag E σ x i = xX σ i := by
  unfold xag
  rw [h]
  rfl
/-- an array, wherever it lies -/
theorem yarr_of {x : Int} {t n : Nat} (hE : xNC ≤ E.1) (h0 : xnth E.2.1 0 = some (999, 0)) (hK : va_K D vwCl (yTys cA) s) (hC : yC b ac oq E L Xs s s.heap) (hH : yHp b ac D cA E F L Xs s σ H locs) (h : xarr E σ x t = some n) (ht : t < 8) :
    ∃ (a : Nat) (cell : Cell), yrf b ac x = some a ∧ H[a]? = some cell ∧ s.isArrayOf cell (yTy.getD t .int) ∧ cell.vm ≠ .unknown ∧ n ≤ cell.slots.size ∧ cell.slots.size.toInt32 = Int32.ofNat n ∧ n < 2147483648 ∧ ∀ j, j < n → cell.slots[j]? = some (ycv b ac .null (xtag t, xna t (xag E σ x j))) ∧ yvk t (xag E σ x j) := by
  have hty := xarr_P h
  have hpos : 0 < x := by
    by_cases h : 0 < x
    · exact h
    · have hz : x.toNat = 0 := Int.toNat_of_nonpos (by omega)
      rw [hz] at hty
      have := congrArg Prod.fst (xty_0 hE h0 hty)
      simp only at this
      omega
  refine ⟨yad b ac x.toNat, ?_⟩
  by_cases h1 : x.toNat = 1
  · rw [h1, xty_one] at hty
    have hty := Option.some.inj hty
    have e1 : t = 0 := by have := congrArg Prod.fst hty; simp only at this; omega
    have e2 : xL σ = n := congrArg Prod.snd hty
    subst e1
    obtain ⟨cell, q1, q2, q3, q4, q5, q6, q7⟩ := (hC.2.2.1.1.kept hH.2.2.2.2.2.1)
    have hn : L = n := by rw [← hH.2.2.2.1.1]; exact e2
    subst hn
    refine ⟨cell, yrf_pos hpos, ?_, q2, q3, q4, q5, hC.2.2.1.2.1, fun j hj => ⟨?_, ?_⟩⟩
    · rw [h1]; exact q1
    · rw [xag_one h1, hH.2.2.2.1.2]; exact q6 j hj
    · rw [xag_one h1, hH.2.2.2.1.2]; exact hC.2.2.1.2.2 j
  · by_cases hz : x.toNat < xNC
    · rw [xty_con hE hz h1] at hty
      obtain ⟨hT, hn, hv⟩ := hC.2.1 _ _ _ hz h1 hty (by omega) (by omega)
      rw [show 100 + t - 100 = t by omega] at hT hv
      obtain ⟨cell, q1, q2, q3, q4, q5, q6, q7⟩ := hT.kept hH.2.2.2.2.2.1
      refine ⟨cell, yrf_pos hpos, ?_, q2, q3, q4, q5, hn, fun j hj => ?_⟩
      · unfold yad; rw [if_pos hz]; exact q1
      · obtain ⟨v, hv1, hv2⟩ := hv j hj
        have e1 : xag E σ x j = v := by rw [xag_con h1]; unfold ycon; rw [hv1]
        have q6 := q6 j hj
        simp only at q6
        rw [hv1] at q6
        rw [e1]
        exact ⟨q6, hv2⟩
    · have hz : xNC ≤ x.toNat := by omega
      obtain ⟨hlt, hcl, hvk⟩ := yT_at hH.2.2.1 hE hz hty
      have he := yws_at (b := b) (ac := ac) (cA := cA) (E := E) (F := F) (σ := σ) hz hlt
      have hE2 : yE b ac cA E F σ x.toNat = .inl (cA t, n, yar b ac t (ycon E σ x.toNat)) := by
        unfold yE; rw [hty]; simp only
        rw [if_neg (by omega), show 100 + t - 100 = t by omega]
      rw [hE2] at he
      have hat : H[yad b ac x.toNat]? = some (vp_cell (cA t) (n, yar b ac t (ycon E σ x.toNat))) := hH.1 _ _ he
      rw [yar_cell] at hat
      refine ⟨_, yrf_pos hpos, hat, (hK.2 t _ (yTys_at ht)).1 _ _, (fun q => by cases q), by rw [arrV_size]; exact Nat.le_refl _, by rw [arrV_size] <;> rfl, ?_, fun j hj => ⟨?_, ?_⟩⟩
      · rcases hcl with ⟨g, f, g1, g2⟩ | g
        · have : vwCl.length = 14 := rfl
          omega
        · exact g.2.2
      · rw [arrV_read _ _ hj, xag_con h1]
      · have := hvk j hj
        unfold ysk at this
        rw [if_neg (by omega), show 100 + t - 100 = t by omega] at this
        rw [xag_con h1]
        exact this
theorem y_hin {i : Int} {n : Nat} {sz : Nat} (hR : yR i) (h : xin i n) (hs : n ≤ sz) : ¬ (Int32.ofInt i < 0 ∨ sz ≤ (Int32.ofInt i).toNatClampNeg) := by
  have h1 := h.1
  have h2 := h.2
  rw [y_nat h1 hR, y_0, y_lt hR yR_0]
  omega
theorem ys_ald {x i : Int} {t n : Nat} (hx : p.tables.exec = Jvm.exec) (hb : c.code = cc) (hE : xNC ≤ E.1) (h0 : xnth E.2.1 0 = some (999, 0)) (hK : va_K D vwCl (yTys cA) s) (hC : yC b ac oq E L Xs s s.heap) (hH : yHp b ac D cA E F L Xs s σ H locs) (h : xarr E σ x t = some n) (ht : t < 8) (hR : yR i) (hin : xin i n) (hdg : decode cc pc = .ok (yal t))
    (kk : yW b ac oq E p l e R s m args below meth c Q k0 n0 H locs σ (pc + 1) rs ((xtag t, xna t (xag E σ x i.toNat)) :: st)) : yW b ac oq E p l e R s m args below meth c Q k0 n0 H locs σ pc rs ((0, i) :: (2, x) :: st) := by
  obtain ⟨a, cell, q1, q2, q3, q4, q5, q6, q7, q8⟩ := yarr_of hE h0 hK hC hH h ht
  have kk : W p l e R s m args below meth c H locs (xnew E σ - k0) (xsl σ - n0) Q (F0 m (pc + 1) rs (ycv b ac .null (xtag t, xna t (xag E σ x i.toNat)) :: st.map (ycv b ac oq))) := by
    rw [ycv_oq (oq' := oq) (xtag_le t)]
    exact kk
  show W p l e R s m args below meth c H locs (xnew E σ - k0) (xsl σ - n0) Q (F0 m pc rs (.int (Int32.ofInt i) :: va_rf (yrf b ac x) :: st.map (ycv b ac oq)))
  rw [q1]
  have hi := y_hin hR hin q5
  have hv := (q8 i.toNat (by have := hin.1; have := hin.2; omega)).1
  rw [← y_nat hin.1 hR] at hv
  rw [← y_nat hin.1 hR] at kk
  clear q8 q7 q6 q5
  rcases (show t = 0 ∨ t = 1 ∨ t = 2 ∨ t = 3 ∨ t = 4 ∨ t = 5 ∨ t = 6 ∨ t = 7 by omega) with e | e | e | e | e | e | e | e <;> subst e
  · exact W.iald hx hb q2 q3 q4 hi hv rfl rfl hdg kk
  · exact W.lald hx hb q2 q3 q4 hi hv rfl rfl hdg kk
  · exact W.bald hx hb q2 q3 q4 hi hv rfl rfl hdg kk
  · exact W.cald hx hb q2 q3 q4 hi hv rfl rfl hdg kk
  · exact W.zald hx hb q2 q3 q4 hi hv rfl rfl hdg kk
  · exact W.aald hx hb q2 q3 rfl q4 hi hv rfl rfl hdg kk
  · exact W.aald hx hb q2 q3 rfl q4 hi hv rfl rfl hdg kk
  · exact W.aald hx hb q2 q3 rfl q4 hi hv rfl rfl hdg kk
theorem ys_alen {x : Int} {t n : Nat} (hx : p.tables.exec = Jvm.exec) (hb : c.code = cc) (hE : xNC ≤ E.1) (h0 : xnth E.2.1 0 = some (999, 0)) (hK : va_K D vwCl (yTys cA) s) (hC : yC b ac oq E L Xs s s.heap) (hH : yHp b ac D cA E F L Xs s σ H locs) (h : xarr E σ x t = some n) (ht : t < 8) (hdg : decode cc pc = .ok (.arraylength, 1))
    (kk : yR (n : Int) → yW b ac oq E p l e R s m args below meth c Q k0 n0 H locs σ (pc + 1) rs ((0, (n : Int)) :: st)) : yW b ac oq E p l e R s m args below meth c Q k0 n0 H locs σ pc rs ((2, x) :: st) := by
  obtain ⟨a, cell, q1, q2, q3, q4, q5, q6, q7, q8⟩ := yarr_of hE h0 hK hC hH h ht
  have kk := kk (by unfold yR; omega)
  show W p l e R s m args below meth c H locs (xnew E σ - k0) (xsl σ - n0) Q (F0 m pc rs (va_rf (yrf b ac x) :: st.map (ycv b ac oq)))
  rw [q1]
  refine W.alen (n := Int32.ofInt (n : Int)) hx hb q2 q3 ?_ rfl rfl hdg kk
  rw [q6]
  rfl
/-- behind a store into one cell -/
theorem yHp_put {a k : Nat} {σ1 : xS} {H1 : Heap} {e' : va_E} (hH : yHp b ac D cA E F L Xs s σ H locs) (hz : xNC ≤ a) (hlt : a < xnew E σ) (hset : yws b ac cA E F σ1 = (yws b ac cA E F σ).set (a - xNC) (yad b ac a, e')) (hn : xnew E σ1 = xnew E σ) (hT : yT E F σ1) (hL : xL σ1 = xL σ ∧ xX σ1 = xX σ) (hat : va_at D vwCl (yad b ac a, e') H1) (z : H1.size = H.size) (oq' : ∀ q, q ≠ yad b ac a → H1[q]? = H[q]?) : yHp b ac D cA E F L Xs s σ1 H1 (locs ++ [⟨yad b ac a, k⟩]) := by
  have he := yws_at (b := b) (ac := ac) (cA := cA) (E := E) (F := F) (σ := σ) hz hlt
  have hD : va_D (fun q => b ≤ q) (yws b ac cA E F σ) := yws_D
  exact ⟨by rw [hset]; exact hH.1.set hD he hat oq', by rw [hn, z]; exact hH.2.1, hT, ⟨by rw [hL.1]; exact hH.2.2.2.1.1, by rw [hL.2]; exact hH.2.2.2.1.2⟩, hH.2.2.2.2.put z oq' (hD.2 _ _ he)⟩
theorem yws_ast {a i t n : Nat} {w : Int} (hz : xNC ≤ a) (hlt : a < xnew E σ) (hty : xty E σ a = some (100 + t, n)) (hcn : xct E a i = none) : yws b ac cA E F (xs σ a i w) = (yws b ac cA E F σ).set (a - xNC) (yad b ac a, .inl (cA t, n, yar b ac t (fun j => if j = i then w else ycon E σ a j))) := by
  refine yws_set hz hlt rfl ?_ ?_
  · unfold yE
    rw [xty_xs, hty]
    simp only
    rw [if_neg (by omega), show 100 + t - 100 = t by omega]
    have : ycon E (xs σ a i w) a = fun j => if j = i then w else ycon E σ a j := by
      funext j
      rw [ycon_xs hcn]
      simp
    rw [this]
  · intro j h1 h2
    have hc : ycon E (xs σ a i w) j = ycon E σ j := by
      funext k'
      rw [ycon_xs hcn, if_neg (fun z => h2 z.1)]
    unfold yE
    rw [xty_xs]
    cases xty E σ j with
    | none => rfl
    | some q => simp only; unfold yfs; rw [hc]
/-- what is stored -/
theorem ys_ast {x i w : Int} {t n ci : Nat} {σ1 : xS} (hx : p.tables.exec = Jvm.exec) (hb : c.code = cc) (hE : xNC ≤ E.1) (hK : va_K D vwCl (yTys cA) s) (hC : yC b ac oq E L Xs s s.heap) (hH : yHp b ac D cA E F L Xs s σ H locs) (h : xarr E σ x t = some n) (ht : t < 7) (hR : yR i) (hin : xin i n) (hv : yvv (xtag t, w)) (hwr : xwr E σ x i.toNat (xna t w) = some σ1)
    (hobj : xtag t = 2 → w = 0 ∨ ∃ (a : Nat) (cv : Cell) (kv : Class), yrf b ac w = some a ∧ H[a]? = some cv ∧ (∀ q, cv.vm ≠ .statics q) ∧ s.vm.classes[cv.cls]? = some kv ∧ ∀ comp C, yTy.getD t .int = .object C → s.vm.findClass C = some comp → s.vm.assignable cv.cls comp = true) (hdg : decode cc pc = .ok (yas t))
    (kk : ∀ (H1 : Heap) (locs1 : List Loc), yHp b ac D cA E F L Xs s σ1 H1 locs1 → W p l e R s m args below meth c H1 locs1 (xnew E σ - k0) (xsl σ - n0) Q (F0 m (pc + 1) rs (st.map (ycv b ac oq)))) : yW b ac oq E p l e R s m args below meth c Q k0 n0 H locs σ pc rs ((xtag t, w) :: (0, i) :: (2, x) :: st) := by
  obtain ⟨hcn, hz, rfl⟩ := xwr_P hwr
  have hty := xarr_P h
  have hpos : 0 < x := by
    by_cases h : 0 < x
    · exact h
    · have : x.toNat = 0 := Int.toNat_of_nonpos (by omega)
      rw [this] at hz
      exact absurd hz (by decide)
  obtain ⟨hlt, hcl, hvk⟩ := yT_at hH.2.2.1 hE hz hty
  have he := yws_at (b := b) (ac := ac) (cA := cA) (E := E) (F := F) (σ := σ) hz hlt
  have hE2 : yE b ac cA E F σ x.toNat = .inl (cA t, n, yar b ac t (ycon E σ x.toNat)) := by
    unfold yE; rw [hty]; simp only
    rw [if_neg (by omega), show 100 + t - 100 = t by omega]
  rw [hE2] at he
  have hat : H[yad b ac x.toNat]? = some (vp_cell (cA t) (n, yar b ac t (ycon E σ x.toNat))) := hH.1 _ _ he
  rw [yar_cell] at hat
  have hof : s.isArrayOf (arrV (cA t) n (fun j => ycv b ac .null (xtag t, xna t (ycon E σ x.toNat j)))) (yTy.getD t .int) := (hK.2 t _ (yTys_at (by omega))).1 _ _
  have hi : ¬ (Int32.ofInt i < 0 ∨ (arrV (cA t) n (fun j => ycv b ac .null (xtag t, xna t (ycon E σ x.toNat j)))).slots.size ≤ (Int32.ofInt i).toNatClampNeg) := by
    rw [arrV_size]
    exact y_hin hR hin (Nat.le_refl _)
  have hset := yws_ast (b := b) (ac := ac) (cA := cA) (F := F) (w := xna t w) hz hlt hty hcn
  have hvk' : yvk t (xna t w) := xna_vk hv
  have hT1 : yT E F (xs σ x.toNat i.toNat (xna t w)) := yT_xs hH.2.2.1 hE hcn hty (by unfold ysk; rw [if_neg (by omega), show 100 + t - 100 = t by omega]; exact hvk')
  have ev : ycv b ac oq (xtag t, w) = ycv b ac .null (xtag t, w) := ycv_oq (xtag_le t)
  have goal : ∀ (H' : Heap), H'[yad b ac x.toNat]? = some ((arrV (cA t) n (fun j => ycv b ac .null (xtag t, xna t (ycon E σ x.toNat j)))).setSlot (Int32.ofInt i).toNatClampNeg (ycv b ac .null (xtag t, xna t w))) → H'.size = H.size → (∀ q, q ≠ yad b ac x.toNat → H'[q]? = H[q]?) → W p l e R s m args below meth c H' (locs ++ [⟨yad b ac x.toNat, (Int32.ofInt i).toNatClampNeg⟩]) (xnew E σ - k0) (xsl σ - n0) Q (F0 m (pc + 1) rs (st.map (ycv b ac oq))) := by
    intro H' e1 e2 e3
    refine kk H' _ (yHp_put hH hz hlt hset rfl hT1 ⟨rfl, rfl⟩ ?_ e2 e3)
    show H'[yad b ac x.toNat]? = some (vp_cell _ _)
    rw [e1, yar_cell, arrV_store, y_nat hin.1 hR]
    refine congrArg (fun f => some (arrV (cA t) n f)) (funext fun q => ?_)
    unfold updV
    by_cases hq : q = i.toNat
    · rw [if_pos hq, if_pos hq, xna_na]
    · rw [if_neg hq, if_neg hq]
  show W p l e R s m args below meth c H locs (xnew E σ - k0) (xsl σ - n0) Q (F0 m pc rs (ycv b ac oq (xtag t, w) :: .int (Int32.ofInt i) :: va_rf (yrf b ac x) :: st.map (ycv b ac oq)))
  rw [ev, yrf_pos hpos]
  have ho := hH.2.2.2.1
  clear hset hT1 hvk' hcl hvk ho
  rcases (show t = 0 ∨ t = 1 ∨ t = 2 ∨ t = 3 ∨ t = 4 ∨ t = 5 ∨ t = 6 by omega) with e | e | e | e | e | e | e <;> subst e
  · exact W.iast hx hb hat hof (fun q => by cases q) hi rfl rfl hdg goal
  · exact W.last hx hb hat hof (fun q => by cases q) hi rfl rfl hdg goal
  · exact W.bast hx hb hat hof (fun q => by cases q) hi rfl rfl hdg (fun H' e1 e2 e3 => goal H' (by rw [e1]; show some (Cell.setSlot _ _ (.int (Int32.ofInt w).toInt8.toInt32)) = _; rw [y_i2b]; rfl) e2 e3)
  · exact W.cast hx hb hat hof (fun q => by cases q) hi rfl rfl hdg (fun H' e1 e2 e3 => goal H' (by rw [e1]; show some (Cell.setSlot _ _ (.int (Int32.ofInt w).toUInt32.toUInt16.toUInt32.toInt32)) = _; rw [y_nc]; rfl) e2 e3)
  · exact W.zast hx hb hat hof (fun q => by cases q) hi rfl rfl hdg (fun H' e1 e2 e3 => goal H' (by rw [e1]; show some (Cell.setSlot _ _ (.int (Int32.ofInt w &&& 1))) = _; rw [y_nz]; rfl) e2 e3)
  · have ev2 : ycv b ac .null (xtag 5, w) = va_rf (yrf b ac w) := rfl
    have ev3 : ycv b ac .null (xtag 5, xna 5 w) = va_rf (yrf b ac w) := rfl
    rw [ev2]
    rw [ev3] at goal
    rcases hobj rfl with h0 | ⟨a, cv, kv, g1, g2, g3, g4, g5⟩
    · have e0 : yrf b ac w = none := by rw [h0]; rfl
      rw [e0] at goal ⊢
      exact va_WaastN (C := "LinenPool$Kind") hx hb hat hof (fun q => by cases q) hi rfl rfl hdg goal
    · rw [g1] at goal ⊢
      obtain ⟨kA, comp, r1, r2, r3, -⟩ := (hK.2 5 _ (yTys_at (by omega))).2
      obtain ⟨kc, hkc, -⟩ := Vm.findClass_spec r3
      exact W.aast hx hb hat (fun q h => by cases h) (fun h => by cases h) r1 r2 rfl hkc ⟨fun q => hi (Or.inl q), Nat.not_le.mp fun q => hi (Or.inr q)⟩ g2 g3 g4 (g5 comp _ rfl r3) rfl rfl hdg goal
  · have ev2 : ycv b ac .null (xtag 6, w) = va_rf (yrf b ac w) := rfl
    have ev3 : ycv b ac .null (xtag 6, xna 6 w) = va_rf (yrf b ac w) := rfl
    rw [ev2]
    rw [ev3] at goal
    rcases hobj rfl with h0 | ⟨a, cv, kv, g1, g2, g3, g4, g5⟩
    · have e0 : yrf b ac w = none := by rw [h0]; rfl
      rw [e0] at goal ⊢
      exact va_WaastN (C := "LinenPool$Terms") hx hb hat hof (fun q => by cases q) hi rfl rfl hdg goal
    · rw [g1] at goal ⊢
      obtain ⟨kA, comp, r1, r2, r3, -⟩ := (hK.2 6 _ (yTys_at (by omega))).2
      obtain ⟨kc, hkc, -⟩ := Vm.findClass_spec r3
      exact W.aast hx hb hat (fun q h => by cases h) (fun h => by cases h) r1 r2 rfl hkc ⟨fun q => hi (Or.inl q), Nat.not_le.mp fun q => hi (Or.inr q)⟩ g2 g3 g4 (g5 comp _ rfl r3) rfl rfl hdg goal
/-- a new cell at the end -/
theorem xty_al {a c' n : Nat} {q : Nat × Nat} (hE : xNC ≤ E.1) (h : xty E σ a = some q) : xty E (xal E σ c' n) a = some q := by
  unfold xty at h ⊢
  cases h1 : Nat.beq a 1 with
  | true => rw [h1] at h; exact h
  | false =>
    rw [h1] at h
    cases h2 : Nat.ble E.1 a with
    | false => rw [h2] at h; exact h
    | true =>
      rw [h2] at h
      have h : xnth σ.2.1 (a - E.1) = some q := h
      show xnth (σ.2.1 ++ [(c', n)]) (a - E.1) = some q
      have hl := yxnth_lt h
      rw [xnth_get] at h ⊢
      rw [List.getElem?_append_left hl]
      exact h
theorem yxty_new {c' n : Nat} (hE : xNC ≤ E.1) : xty E (xal E σ c' n) (xnew E σ) = some (c', n) := by
  unfold xty
  have h1 : Nat.beq (xnew E σ) 1 = false := by cases h : Nat.beq (xnew E σ) 1 with
    | false => rfl
    | true =>
      have := Nat.eq_of_beq_eq_true h
      have h3 : E.1 ≤ xnew E σ := Nat.le_add_right _ _
      have h4 : (200 : Nat) ≤ E.1 := hE
      omega
  have h2 : Nat.ble E.1 (xnew E σ) = true := Nat.ble_eq_true_of_le (Nat.le_add_right _ _)
  rw [h1, h2]
  show xnth (σ.2.1 ++ [(c', n)]) (xnew E σ - E.1) = some (c', n)
  rw [show xnew E σ - E.1 = σ.2.1.length from by unfold xnew; omega, xnth_get]
  simp
theorem xnew_al {c' n : Nat} : xnew E (xal E σ c' n) = xnew E σ + 1 := by
  show E.1 + (σ.2.1 ++ [(c', n)]).length = E.1 + σ.2.1.length + 1
  simp
  omega
theorem xsl_al {c' n : Nat} : xsl (xal E σ c' n) = xsl σ + n := rfl
theorem ycon_al {a k c' n : Nat} (h : a ≠ xnew E σ) : ycon E (xal E σ c' n) a k = ycon E σ a k := by
  unfold ycon
  cases xct E a k with
  | some v => rfl
  | none =>
    show cond (Nat.beq a (xnew E σ)) 0 (σ.1 a k) = σ.1 a k
    have : Nat.beq a (xnew E σ) = false := by cases h2 : Nat.beq a (xnew E σ) with
      | false => rfl
      | true => exact absurd (Nat.eq_of_beq_eq_true h2) h
    rw [this]; rfl
theorem ycon_new {k c' n : Nat} (h : xct E (xnew E σ) k = none) : ycon E (xal E σ c' n) (xnew E σ) k = 0 := by
  unfold ycon
  rw [h]
  show cond (Nat.beq (xnew E σ) (xnew E σ)) 0 _ = 0
  rw [Nat.beq_refl]; rfl
theorem yE_al {a c' n : Nat} (hE : xNC ≤ E.1) (hT : yT E F σ) (h1 : xNC ≤ a) (h2 : a < xnew E σ) : yE b ac cA E F (xal E σ c' n) a = yE b ac cA E F σ a := by
  obtain ⟨c2, n2, g, -⟩ := hT a h1 h2
  have hc : ycon E (xal E σ c' n) a = ycon E σ a := funext fun k => ycon_al (by omega)
  unfold yE
  rw [xty_al hE g, g]
  simp only
  unfold yfs
  rw [hc]
theorem yvk_0 (t : Nat) : yvk t 0 := by
  unfold yvk
  split <;> first | trivial | exact yR_0 | exact yRL_0 | omega
theorem yT_al {c' n : Nat} (hE : xNC ≤ E.1) (hct : ∀ a k, E.1 ≤ a → xct E a k = none) (hT : yT E F σ) (hc : (c' < vwCl.length ∧ ∃ l, xnth F c' = some l ∧ l.length = n) ∨ (100 ≤ c' ∧ c' < 108 ∧ n < 2147483648)) : yT E F (xal E σ c' n) := by
  intro a h1 h2
  rw [xnew_al] at h2
  by_cases h : a = xnew E σ
  · subst h
    refine ⟨c', n, yxty_new hE, hc, fun k _ => ?_⟩
    rw [ycon_new (hct _ _ (Nat.le_add_right _ _))]
    exact yvk_0 _
  · obtain ⟨c2, n2, g1, g2, g3⟩ := hT a h1 (by omega)
    exact ⟨c2, n2, xty_al hE g1, g2, fun k hk => by rw [ycon_al h]; exact g3 k hk⟩
theorem yHp_al {c' n : Nat} {H1 : Heap} (hE : xNC ≤ E.1) (hct : ∀ a k, E.1 ≤ a → xct E a k = none) (hH : yHp b ac D cA E F L Xs s σ H locs) (hc : (c' < vwCl.length ∧ ∃ l, xnth F c' = some l ∧ l.length = n) ∨ (100 ≤ c' ∧ c' < 108 ∧ n < 2147483648)) (hat : va_at D vwCl (H.size, yE b ac cA E F (xal E σ c' n) (xnew E σ)) H1) (z : H1.size = H.size + 1) (ho : ∀ q, q < H.size → H1[q]? = H[q]?) : yHp b ac D cA E F L Xs s (xal E σ c' n) H1 locs := by
  have hx : xNC ≤ xnew E σ := Nat.le_trans hE (Nat.le_add_right _ _)
  have hp := yws_push (b := b) (ac := ac) (cA := cA) (F := F) (σ := σ) (σ' := xal E σ c' n) hE xnew_al rfl (fun j h1 h2 => yE_al hE hH.2.2.1 h1 h2)
  refine ⟨?_, ?_, yT_al hE hct hH.2.2.1 hc, hH.2.2.2.1, ⟨?_, ?_, hH.2.2.2.2.2.2⟩⟩
  · rw [hp]
    refine va_P.app (fun k q hq => (hH.1 k q hq).kept (ho _ (hH.1 k q hq).lt)) (fun k q hq => ?_)
    have hk : k < 1 := (List.getElem?_eq_some_iff.mp hq).1
    have hk0 : k = 0 := by omega
    subst hk0
    rw [List.getElem?_cons_zero] at hq
    have hq := Option.some.inj hq
    rw [← hq, ← hH.2.1]
    exact hat
  · rw [z, xnew_al, hH.2.1]; omega
  · rw [z]; have := hH.2.2.2.2.1; omega
  · intro q h1 h2
    rw [ho q (Nat.lt_of_lt_of_le h1 hH.2.2.2.2.1)]
    exact hH.2.2.2.2.2.1 q h1 h2
theorem yad_new (hE : xNC ≤ E.1) (hH : yHp b ac D cA E F L Xs s σ H locs) : yrf b ac ((xnew E σ : Nat) : Int) = some H.size := by
  have hx : xNC ≤ xnew E σ := Nat.le_trans hE (Nat.le_add_right _ _)
  have h2 : (200 : Nat) ≤ xnew E σ := hx
  rw [yrf_pos (by omega)]
  unfold yad
  rw [show ((xnew E σ : Nat) : Int).toNat = xnew E σ from Int.toNat_natCast _, if_neg (by omega), hH.2.1]
theorem ys_new {a n index : Nat} {own : String} {WL : List Cond} {tyF : Nat → Nat → FieldType} {f : List Nat} (hx : p.tables.exec = Jvm.exec) (hb : c.code = cc) (hE : xNC ≤ E.1) (hct : ∀ a k, E.1 ≤ a → xct E a k = none) (hts : ∀ w ∈ WL, w.before args s = true) (hCl : yCl F WL tyF) (hown : s.vm.findClass own = some m.cls) (hK : va_K D vwCl (yTys cA) s) (hH : yHp b ac D cA E F L Xs s σ H locs)
    (ha : a < vwCl.length) (hf : xnth F a = some f) (h9 : ∀ k, k < f.length → yfk F a k ≠ 9 ∧ yfk F a k < 6) (hlink : (Cond.classLink own index (yCn a)).before args s = true) (hinst : (Cond.instantiable (yCn a) f.length).before args s = true) (hini : (Cond.initialized (yCn a)).before args s = true) (h50 : a ≠ 50) (hk : k0 ≤ xnew E σ ∧ n0 ≤ xsl σ) (hroom : xnew E σ + 1 - k0 ≤ R.cells ∧ xsl σ + f.length - n0 ≤ R.slots) (hdg : decode cc pc = .ok (.new index, 3))
    (kk : ∀ (H1 : Heap), yHp b ac D cA E F L Xs s (xal E σ a f.length) H1 locs → yW b ac oq E p l e R s m args below meth c Q k0 n0 H1 locs (xal E σ a f.length) (pc + 3) rs ((2, ((xnew E σ : Nat) : Int)) :: st)) : yW b ac oq E p l e R s m args below meth c Q k0 n0 H locs σ pc rs st := by
  obtain ⟨q, hq⟩ : ∃ q, vwCl[a]? = some q := ⟨_, List.getElem?_eq_getElem ha⟩
  obtain ⟨C, T, N⟩ := q
  obtain ⟨hin, ⟨f', hf1, hf2⟩, hty2, hnm⟩ := hCl a _ hq
  rw [hf] at hf1
  cases hf1
  have hf2 : f.length = N := hf2
  subst hf2
  have hCn : yCn a = C := by
    unfold yCn
    rw [if_neg h50, hq]
  rw [hCn] at hlink hinst hini
  have hKn := hK.1 a _ hq
  refine W.newcK hx hb hown hlink hinst hini rfl hdg (cells := xnew E σ - k0) (slots := xsl σ - n0) (by omega) (by omega) hKn.2.1 rfl fun H1 kC hkC e1 z1 o1 => ?_
  have hh := yHp_al (c' := a) (n := f.length) hE hct hH (Or.inl ⟨ha, f, hf, rfl⟩) ?_ z1 o1
  · have := kk H1 hh
    unfold yW at this
    rw [xnew_al, xsl_al] at this
    rw [show xnew E σ - k0 + 1 = xnew E σ + 1 - k0 by omega, show xsl σ - n0 + f.length = xsl σ + f.length - n0 by omega]
    have e2 : ycv b ac oq (2, ((xnew E σ : Nat) : Int)) = .ref H.size := by
      show va_rf (yrf b ac _) = _
      rw [yad_new hE hH]; rfl
    rw [List.map_cons, e2] at this
    exact this
  · have hE2 : yE b ac cA E F (xal E σ a f.length) (xnew E σ) = .inr (a, yfs b ac E F (xal E σ a f.length) (xnew E σ) a f.length) := by
      unfold yE
      rw [yxty_new hE]
      simp only
      have : vwCl.length = 14 := rfl
      rw [if_pos (by omega)]
    rw [hE2]
    refine ⟨_, hq, (u_born (tyF a) hts hin hKn hkC e1 (fun k hk => (hty2 k hk).1)).to ?_⟩
    intro k hk
    have hk : k < f.length := hk
    unfold vp_V
    rw [List.getD_eq_getElem?_getD, yfs_get hk, ycon_new (hct _ _ (Nat.le_add_right _ _))]
    have hkt := (hty2 k hk).2
    obtain ⟨h9, h6⟩ := h9 k hk
    rw [← hkt] at h9 h6 ⊢
    cases hty : tyF a k with
    | int => rfl
    | long => rfl
    | byte => rfl
    | char => rfl
    | boolean => rfl
    | object C => rfl
    | array C => rfl
    | _ => rw [hty] at h9; exact absurd rfl h9
end YARR

/-! fields and arrays -/
def ykt : FieldType → Nat
  | .int => 0
  | .long => 1
  | .byte => 2
  | .char => 3
  | .boolean => 4
  | .object _ => 5
  | .array _ => 5
  | _ => 9
theorem ycv_oq {b : Nat} {ac : Nat → Nat} {oq oq' : Value} {w : xAV} (h : w.1 ≤ 2) : ycv b ac oq w = ycv b ac oq' w := by
  obtain ⟨t, x⟩ := w
  unfold ycv
  match t, h with
  | 0, _ => rfl
  | 1, _ => rfl
  | 2, _ => rfl
theorem xtag_le (t : Nat) : xtag t ≤ 2 := by
  unfold xtag
  split <;> omega
theorem xct_lt {E : xE} {a k : Nat} : True := trivial
section YX
variable {E : xE} {F : List (List Nat)} {σ : xS}
theorem xty_con {a : Nat} (hE : xNC ≤ E.1) (ha : a < xNC) (h1 : a ≠ 1) : xty E σ a = xnth E.2.1 a := by
  unfold xty
  have e1 : Nat.beq a 1 = false := by cases h : Nat.beq a 1 with
    | false => rfl
    | true => exact absurd (Nat.eq_of_beq_eq_true h) h1
  have e2 : Nat.ble E.1 a = false := by cases h : Nat.ble E.1 a with
    | false => rfl
    | true => have := Nat.le_of_ble_eq_true h; omega
  rw [e1, e2]
  rfl
theorem xty_one : xty E σ 1 = some (100, xL σ) := rfl
theorem xty_dyn {a : Nat} {q : Nat × Nat} (hE : xNC ≤ E.1) (h : xty E σ a = some q) (ha : xNC ≤ a) : a < xnew E σ := by
  unfold xty at h
  have e1 : Nat.beq a 1 = false := by cases h : Nat.beq a 1 with
    | false => rfl
    | true => have := Nat.eq_of_beq_eq_true h; subst this; exact absurd ha (by decide)
  rw [e1] at h
  unfold xnew
  cases h2 : Nat.ble E.1 a with
  | false =>
    have : ¬ E.1 ≤ a := fun q => by rw [Nat.ble_eq_true_of_le q] at h2; cases h2
    omega
  | true =>
    rw [h2] at h
    have := yxnth_lt h
    have := Nat.le_of_ble_eq_true h2
    omega
theorem xty_xs {a a' k : Nat} {v : Int} : xty E (xs σ a k v) a' = xty E σ a' := rfl
theorem xnew_xs {a k : Nat} {v : Int} : xnew E (xs σ a k v) = xnew E σ := rfl
theorem xsl_xs {a k : Nat} {v : Int} : xsl (xs σ a k v) = xsl σ := rfl
theorem xg_xs {a a' k k' : Nat} {v : Int} : xg (xs σ a k v) a' k' = if a' = a ∧ k' = k then v else xg σ a' k' := by
  show cond (Nat.beq a' a && Nat.beq k' k) v (σ.1 a' k') = _
  by_cases h : a' = a ∧ k' = k
  · rw [if_pos h, h.1, h.2, Nat.beq_refl, Nat.beq_refl]; rfl
  · rw [if_neg h]
    have : (Nat.beq a' a && Nat.beq k' k) = false := by
      cases h1 : Nat.beq a' a with
      | false => rfl
      | true =>
        cases h2 : Nat.beq k' k with
        | false => rfl
        | true => exact absurd ⟨Nat.eq_of_beq_eq_true h1, Nat.eq_of_beq_eq_true h2⟩ h
    rw [this]; rfl
theorem ycon_xs {a a' k k' : Nat} {v : Int} (hn : xct E a k = none) : ycon E (xs σ a k v) a' k' = if a' = a ∧ k' = k then v else ycon E σ a' k' := by
  unfold ycon
  by_cases h : a' = a ∧ k' = k
  · rw [if_pos h, h.1, h.2, hn]
    simp only
    rw [xg_xs, if_pos ⟨rfl, rfl⟩]
  · rw [if_neg h]
    cases xct E a' k' with
    | some w => rfl
    | none =>
      simp only
      rw [xg_xs, if_neg h]
theorem xwr_P {x : Int} {k : Nat} {v : Int} {σ' : xS} (h : xwr E σ x k v = some σ') : xct E x.toNat k = none ∧ xNC ≤ x.toNat ∧ σ' = xs σ x.toNat k v := by
  unfold xwr at h
  cases hc : xct E x.toNat k with
  | some w => rw [hc] at h; cases h
  | none =>
    rw [hc] at h
    cases hb : Nat.ble xNC x.toNat with
    | false => rw [hb] at h; cases h
    | true => rw [hb] at h; cases h; exact ⟨rfl, Nat.le_of_ble_eq_true hb, rfl⟩
theorem xisO_P {x : Int} {c : Nat} (h : xisO E σ x c = true) : ∃ n, xty E σ x.toNat = some (c, n) := by
  unfold xisO at h
  cases hq : xty E σ x.toNat with
  | none => rw [hq] at h; cases h
  | some q =>
    rw [hq] at h
    obtain ⟨c', n⟩ := q
    have h : c' = c := Nat.eq_of_beq_eq_true h
    exact ⟨n, by rw [h]⟩
theorem xarr_P {x : Int} {t n : Nat} (h : xarr E σ x t = some n) : xty E σ x.toNat = some (100 + t, n) := by
  unfold xarr at h
  cases hq : xty E σ x.toNat with
  | none => rw [hq] at h; cases h
  | some q =>
    rw [hq] at h
    obtain ⟨c', n'⟩ := q
    simp only at h
    cases hb : Nat.beq c' (100 + t) with
    | false => rw [hb] at h; cases h
    | true => rw [hb] at h; cases h; rw [Nat.eq_of_beq_eq_true hb]
theorem xfld_P {x : Int} {c k : Nat} {w : Int} (h : xfld E σ x c k = some w) : (∃ n, xty E σ x.toNat = some (c, n)) ∧ w = ycon E σ x.toNat k ∧ (x.toNat < xNC → xct E x.toNat k = some w) := by
  unfold xfld at h
  cases ho : xisO E σ x c with
  | false => rw [ho] at h; cases h
  | true =>
    rw [ho] at h
    refine ⟨xisO_P ho, ?_⟩
    unfold ycon
    cases hc : xct E x.toNat k with
    | some v => rw [hc] at h; cases h; exact ⟨rfl, fun _ => rfl⟩
    | none =>
      rw [hc] at h
      cases hb : Nat.ble xNC x.toNat with
      | false => rw [hb] at h; cases h
      | true =>
        rw [hb] at h
        cases h
        have := Nat.le_of_ble_eq_true hb
        exact ⟨rfl, fun z => by omega⟩
end YX
section YHEAP
variable {p : Program} {l : Launch} {e : Env} {R : Room} {s : State} {m : MethodId} {args : Array Value} {below : List Frame} {meth : Method} {c : Code} {Q : State → Prop}
variable {b : Nat} {ac : Nat → Nat} {oq : Value} {D : va_G} {cA : Nat → ClassId} {E : xE} {F : List (List Nat)} {L : Nat} {Xs : Nat → Int}
variable {k0 n0 pc nx : Nat} {ls st : List xAV} {σ : xS} {cc : ByteArray} {H : Heap} {locs : List Loc} {rs : Array Slot}
/-- what the tables say of the classes -/
def yCl (F : List (List Nat)) (WL : List Cond) (tyF : Nat → Nat → FieldType) : Prop := ∀ (ci : Nat) (q : vw_C), vwCl[ci]? = some q → (∀ w ∈ u_ws q.1 q.2.1 q.2.2, w ∈ WL) ∧ (∃ f, xnth F ci = some f ∧ f.length = q.2.2) ∧ (∀ k, k < q.2.2 → parseFieldDescriptor (q.2.1 k).2.2.1 = some (tyF ci k) ∧ ykt (tyF ci k) = yfk F ci k) ∧ (∀ a, a < q.2.2 → ∀ b, b < q.2.2 → a ≠ b → (q.2.1 a).2.1 ≠ (q.2.1 b).2.1)
theorem yrf_pos {x : Int} (h : 0 < x) : yrf b ac x = some (yad b ac x.toNat) := by
  unfold yrf
  rw [if_neg (by omega)]
theorem xty_0 {q : Nat × Nat} (hE : xNC ≤ E.1) (h0 : xnth E.2.1 0 = some (999, 0)) (h : xty E σ 0 = some q) : q = (999, 0) := by
  rw [xty_con hE (by decide) (by decide), h0] at h
  cases h; rfl
theorem yfs_get {a c' n k : Nat} (hk : k < n) : (yfs b ac E F σ a c' n)[k]? = some (ycv b ac .null (xtag (yfk F c' k), xna (yfk F c' k) (ycon E σ a k))) := by
  unfold yfs
  rw [List.getElem?_map, List.getElem?_range hk]
  rfl
theorem yT_at (hT : yT E F σ) (hE : xNC ≤ E.1) {a c' n : Nat} (ha : xNC ≤ a) (h : xty E σ a = some (c', n)) : a < xnew E σ ∧ ((c' < vwCl.length ∧ ∃ f, xnth F c' = some f ∧ f.length = n) ∨ (100 ≤ c' ∧ c' < 108 ∧ n < 2147483648)) ∧ ∀ k, k < n → yvk (ysk F c' k) (ycon E σ a k) := by
  have hl := xty_dyn hE h ha
  obtain ⟨c2, n2, h1, h2⟩ := hT a ha hl
  rw [h] at h1
  cases h1
  exact ⟨hl, h2⟩
theorem ys_getf {x w : Int} {a k t index : Nat} {own : String} {WL : List Cond} {tyF : Nat → Nat → FieldType} (hx : p.tables.exec = Jvm.exec) (hb : c.code = cc) (hE : xNC ≤ E.1) (h0 : xnth E.2.1 0 = some (999, 0)) (hts : ∀ w ∈ WL, w.before args s = true) (hCl : yCl F WL tyF) (hown : s.vm.findClass own = some m.cls) (hK : va_K D vwCl (yTys cA) s) (hC : yC b ac oq E L Xs s s.heap) (hH : yHp b ac D cA E F L Xs s σ H locs)
    (hw : xfld E σ x a k = some w) (h100 : a < 100) (hk : ∀ q, vwCl[a]? = some q → k < q.2.2 ∧ yfk F a k = t) (hkc : yck a k = t ∨ (a ≠ 0 ∧ a ≠ 50)) (hcc : ∀ z c' n, z < xNC → xnth E.2.1 z = some (c', n) → c' < 100 → c' = 0 ∨ c' = 50) (h50 : vwCl[50]? = none) (hlink : (Cond.fieldLink own index (yFd a k).1 (yFd a k).2.1 (yFd a k).2.2).before args s = true) (hdg : decode cc pc = .ok (.getfield index, 3))
    (kk : yW b ac oq E p l e R s m args below meth c Q k0 n0 H locs σ (pc + 3) rs ((xtag t, xna t w) :: st)) : yW b ac oq E p l e R s m args below meth c Q k0 n0 H locs σ pc rs ((2, x) :: st) := by
  obtain ⟨⟨n, hty⟩, hcon, hct⟩ := xfld_P hw
  have hpos : 0 < x := by
    by_cases h : 0 < x
    · exact h
    · have hz : x.toNat = 0 := Int.toNat_of_nonpos (by omega)
      rw [hz] at hty
      have := xty_0 hE h0 hty
      cases this
      omega
  show W p l e R s m args below meth c H locs (xnew E σ - k0) (xsl σ - n0) Q (F0 m pc rs (va_rf (yrf b ac x) :: st.map (ycv b ac oq)))
  rw [yrf_pos hpos]
  have kk : W p l e R s m args below meth c H locs (xnew E σ - k0) (xsl σ - n0) Q (F0 m (pc + 3) rs (ycv b ac .null (xtag t, xna t w) :: st.map (ycv b ac oq))) := by
    rw [ycv_oq (oq' := oq) (xtag_le t)]
    exact kk
  by_cases hz : x.toNat < xNC
  · have h1 : x.toNat ≠ 1 := by
      intro h1
      rw [h1, xty_one] at hty
      cases hty
      omega
    rw [xty_con hE hz h1] at hty
    obtain ⟨-, hof⟩ := hC.1 _ _ _ hz h1 hty h100
    obtain ⟨hof, -, hna⟩ := hof k w (hct hz)
    have ht : yck a k = t := by
      rcases hkc with h | h
      · exact h
      · rcases hcc _ _ _ hz hty h100 with h' | h'
        · exact absurd h' h.1
        · exact absurd h' h.2
    rw [ht] at hof hna
    rw [hna] at kk
    have e1 : yad b ac x.toNat = ac x.toNat := by unfold yad; rw [if_pos hz]
    show W p l e R s m args below meth c H locs (xnew E σ - k0) (xsl σ - n0) Q (F0 m pc rs (Value.ref _ :: st.map (ycv b ac oq)))
    rw [e1]
    exact vk_getf hx hb hof hH.2.2.2.2 hown hlink (fun _ h => h) hdg kk
  · have hz : xNC ≤ x.toNat := by omega
    obtain ⟨hlt, hcl, hvk⟩ := yT_at hH.2.2.1 hE hz hty
    have hac : a < vwCl.length := by
      rcases hcl with h | h
      · exact h.1
      · omega
    obtain ⟨q, hq⟩ : ∃ q, vwCl[a]? = some q := ⟨_, List.getElem?_eq_getElem hac⟩
    obtain ⟨C, T, N⟩ := q
    obtain ⟨hin, ⟨f, hf1, hf2⟩, hty2, hnm⟩ := hCl a _ hq
    have hkt := hk _ hq
    have hn : n = N := by
      rcases hcl with ⟨-, f', g1, g2⟩ | h
      · rw [hf1] at g1; cases g1; rw [← g2]; exact hf2
      · omega
    subst hn
    have he := yws_at (b := b) (ac := ac) (cA := cA) (E := E) (F := F) (σ := σ) hz hlt
    have hE2 : yE b ac cA E F σ x.toNat = .inr (a, yfs b ac E F σ x.toNat a n) := by
      unfold yE; rw [hty]; simp only; rw [if_pos h100]
    rw [hE2] at he
    have hFd : yFd a k = ((T k).1, (T k).2.1, (T k).2.2.1) := by
      unfold yFd
      rw [if_neg (fun h => by rw [h, h50] at hq; cases hq), hq]
    rw [hFd] at hlink
    refine va_get (D := D) (ci := a) (C := C) (T := T) (N := n) hx hb hts hin hown hK hH.1 _ he hq k hkt.1 hlink (fun _ h => h) (yfs_get hkt.1) hdg ?_
    rw [hkt.2, ← hcon]
    exact kk
theorem yvv_of {t : Nat} {v : Int} (h : yvk t v) : yvv (xtag t, xna t v) := by
  unfold yvv
  match t, h with
  | 0, h => exact h
  | 1, h => exact h
  | 2, _ => show yR (xna 2 v); rw [xna2]; unfold yR; omega
  | 3, _ => show yR (xna 3 v); rw [xna3]; unfold yR; omega
  | 4, _ => show yR (xna 4 v); rw [xna4]; unfold yR; omega
  | t + 5, h => exact h
theorem yvk_of {t : Nat} {v : Int} (h : yvv (xtag t, v)) : yvk t v := by
  match t, h with
  | 0, h => exact h
  | 1, h => exact h
  | 2, _ => trivial
  | 3, _ => trivial
  | 4, _ => trivial
  | t + 5, h => exact h
theorem yfld_vk {x w : Int} {a k t : Nat} (hE : xNC ≤ E.1) (hC : yC b ac oq E L Xs s s.heap) (hT : yT E F σ) (hw : xfld E σ x a k = some w) (h100 : a < 100) (hk : ∀ q, vwCl[a]? = some q → k < q.2.2 ∧ yfk F a k = t) (hF : ∀ (ci : Nat) (q : vw_C), vwCl[ci]? = some q → ∃ f, xnth F ci = some f ∧ f.length = q.2.2) (hkc : yck a k = t ∨ (a ≠ 0 ∧ a ≠ 50)) (hcc : ∀ z c' n, z < xNC → xnth E.2.1 z = some (c', n) → c' < 100 → c' = 0 ∨ c' = 50) : yvk t w := by
  obtain ⟨⟨n, hty⟩, hcon, hct⟩ := xfld_P hw
  by_cases hz : x.toNat < xNC
  · have h1 : x.toNat ≠ 1 := by
      intro h1
      rw [h1, xty_one] at hty
      cases hty
      omega
    rw [xty_con hE hz h1] at hty
    obtain ⟨-, hof⟩ := hC.1 _ _ _ hz h1 hty h100
    obtain ⟨-, hvk, -⟩ := hof k w (hct hz)
    have ht : yck a k = t := by
      rcases hkc with h | h
      · exact h
      · rcases hcc _ _ _ hz hty h100 with h' | h'
        · exact absurd h' h.1
        · exact absurd h' h.2
    rw [ht] at hvk
    exact hvk
  · have hz : xNC ≤ x.toNat := by omega
    obtain ⟨hlt, hcl, hvk⟩ := yT_at hT hE hz hty
    have hac : a < vwCl.length := by
      rcases hcl with h | h
      · exact h.1
      · omega
    obtain ⟨q, hq⟩ : ∃ q, vwCl[a]? = some q := ⟨_, List.getElem?_eq_getElem hac⟩
    obtain ⟨f, hf1, hf2⟩ := hF a q hq
    have hkt := hk _ hq
    have hn : n = q.2.2 := by
      rcases hcl with ⟨-, f', g1, g2⟩ | h
      · rw [hf1] at g1; cases g1; rw [← g2]; exact hf2
      · omega
    have := hvk k (by rw [hn]; exact hkt.1)
    unfold ysk at this
    rw [if_pos h100, hkt.2, ← hcon] at this
    exact this
/-- what a narrowed number of a kind is to the machine -/
theorem y_nar {ty : FieldType} {t : Nat} {w : Int} (hk : ykt ty = t) (h9 : t ≠ 9) (hn : xna t w = w) (hv : yvv (xtag t, w)) : narrow ty (ycv b ac .null (xtag t, w)) = ycv b ac .null (xtag t, w) ∧ fits ty (ycv b ac .null (xtag t, w)) = true := by
  subst hk
  cases ty with
  | int => exact ⟨rfl, rfl⟩
  | long => exact ⟨rfl, rfl⟩
  | byte =>
    have hn : xna 2 w = w := hn
    rw [xna2] at hn
    have hr : yR w := by unfold yR; omega
    constructor
    · show Value.int (Int32.ofInt w).toInt8.toInt32 = .int (Int32.ofInt w)
      rw [y_i2b, xna2, hn]
    · show (decide (-128 ≤ Int32.ofInt w) && decide (Int32.ofInt w ≤ 127)) = true
      rw [Bool.and_eq_true, decide_eq_true_eq, decide_eq_true_eq, show (-128 : Int32) = Int32.ofInt (-128) from rfl, show (127 : Int32) = Int32.ofInt 127 from rfl, y_le (by unfold yR; omega) hr, y_le hr (by unfold yR; omega)]
      omega
  | char =>
    have hn : xna 3 w = w := hn
    rw [xna3] at hn
    have hr : yR w := by unfold yR; omega
    constructor
    · show Value.int (Int32.ofInt w).toUInt32.toUInt16.toUInt32.toInt32 = .int (Int32.ofInt w)
      have h1 := vp_nar_char (Int32.ofInt w)
      have h2 := y_i2c w
      rw [xna3, hn] at h2
      have h3 := pk_char (Int32.ofInt w)
      rw [h2] at h3
      have h4 : (Int32.ofInt w).toBitVec.toNat % 65536 < 65536 := Nat.mod_lt _ (by decide)
      have h5 := (pk_charN h4).1
      rw [h3]
      exact h5
    · show (decide (0 ≤ Int32.ofInt w) && decide (Int32.ofInt w ≤ 65535)) = true
      rw [Bool.and_eq_true, decide_eq_true_eq, decide_eq_true_eq, y_0, show (65535 : Int32) = Int32.ofInt 65535 from rfl, y_le yR_0 hr, y_le hr (by unfold yR; omega)]
      omega
  | boolean =>
    have hn : xna 4 w = w := hn
    rw [xna4] at hn
    rcases (show w = 0 ∨ w = 1 by omega) with h | h <;> subst h
    · exact ⟨(show Value.int (Int32.ofInt 0 &&& 1) = .int (Int32.ofInt 0) by decide), (show (Int32.ofInt 0 == 0 || Int32.ofInt 0 == 1) = true by decide)⟩
    · exact ⟨(show Value.int (Int32.ofInt 1 &&& 1) = .int (Int32.ofInt 1) by decide), (show (Int32.ofInt 1 == 0 || Int32.ofInt 1 == 1) = true by decide)⟩
  | object C =>
    show narrow (.object C) (va_rf (yrf b ac w)) = va_rf (yrf b ac w) ∧ fits (.object C) (va_rf (yrf b ac w)) = true
    cases yrf b ac w <;> exact ⟨rfl, rfl⟩
  | array C =>
    show narrow (.array C) (va_rf (yrf b ac w)) = va_rf (yrf b ac w) ∧ fits (.array C) (va_rf (yrf b ac w)) = true
    cases yrf b ac w <;> exact ⟨rfl, rfl⟩
  | _ => exact absurd rfl h9
theorem yT_xs {a k : Nat} {v : Int} {c' n : Nat} (hT : yT E F σ) (hE : xNC ≤ E.1) (hn : xct E a k = none) (hty : xty E σ a = some (c', n)) (hv : yvk (ysk F c' k) v) : yT E F (xs σ a k v) := by
  intro a' h1 h2
  obtain ⟨c2, n2, g1, g2, g3⟩ := hT a' h1 h2
  refine ⟨c2, n2, g1, g2, fun k' hk' => ?_⟩
  rw [ycon_xs hn]
  by_cases h : a' = a ∧ k' = k
  · rw [if_pos h]
    rw [h.1, hty] at g1
    cases g1
    rw [h.2]
    exact hv
  · rw [if_neg h]
    exact g3 k' hk'
theorem ys_putf {x w : Int} {a k t index : Nat} {own : String} {WL : List Cond} {tyF : Nat → Nat → FieldType} {σ1 : xS} (hx : p.tables.exec = Jvm.exec) (hb : c.code = cc) (hE : xNC ≤ E.1) (hts : ∀ w ∈ WL, w.before args s = true) (hCl : yCl F WL tyF) (hown : s.vm.findClass own = some m.cls) (hK : va_K D vwCl (yTys cA) s) (hH : yHp b ac D cA E F L Xs s σ H locs)
    (ho : xisO E σ x a = true) (hwr : xwr E σ x k w = some σ1) (hna : xna t w = w) (hv : yvv (xtag t, w)) (h100 : a < 100) (h9 : t ≠ 9) (hk : ∀ q, vwCl[a]? = some q → k < q.2.2 ∧ yfk F a k = t ∧ ((q.2.1 k).2.2.2 = true → meth.name = "<init>" ∧ (q.2.1 k).1 = own)) (h50 : vwCl[50]? = none) (hlink : (Cond.fieldLink own index (yFd a k).1 (yFd a k).2.1 (yFd a k).2.2).before args s = true) (hdg : decode cc pc = .ok (.putfield index, 3))
    (kk : ∀ (H1 : Heap) (locs1 : List Loc), yHp b ac D cA E F L Xs s σ1 H1 locs1 → W p l e R s m args below meth c H1 locs1 (xnew E σ - k0) (xsl σ - n0) Q (F0 m (pc + 3) rs (st.map (ycv b ac oq)))) : yW b ac oq E p l e R s m args below meth c Q k0 n0 H locs σ pc rs ((xtag t, w) :: (2, x) :: st) := by
  obtain ⟨hcn, hz, rfl⟩ := xwr_P hwr
  obtain ⟨n, hty⟩ := xisO_P ho
  have hpos : 0 < x := by
    by_cases h : 0 < x
    · exact h
    · have : x.toNat = 0 := Int.toNat_of_nonpos (by omega)
      rw [this] at hz
      exact absurd hz (by decide)
  obtain ⟨hlt, hcl, hvk⟩ := yT_at hH.2.2.1 hE hz hty
  have hac : a < vwCl.length := by
    rcases hcl with h | h
    · exact h.1
    · omega
  obtain ⟨q, hq⟩ : ∃ q, vwCl[a]? = some q := ⟨_, List.getElem?_eq_getElem hac⟩
  obtain ⟨C, T, N⟩ := q
  obtain ⟨hin, ⟨f, hf1, hf2⟩, hty2, hnm⟩ := hCl a _ hq
  have hkt := hk _ hq
  have hn : n = N := by
    rcases hcl with ⟨-, f', g1, g2⟩ | h
    · rw [hf1] at g1; cases g1; rw [← g2]; exact hf2
    · omega
  subst hn
  have he := yws_at (b := b) (ac := ac) (cA := cA) (E := E) (F := F) (σ := σ) hz hlt
  have hE2 : yE b ac cA E F σ x.toNat = .inr (a, yfs b ac E F σ x.toNat a n) := by
    unfold yE; rw [hty]; simp only; rw [if_pos h100]
  rw [hE2] at he
  have hFd : yFd a k = ((T k).1, (T k).2.1, (T k).2.2.1) := by
    unfold yFd
    rw [if_neg (fun h => by rw [h, h50] at hq; cases hq), hq]
  rw [hFd] at hlink
  have hset : yws b ac cA E F (xs σ x.toNat k w) = (yws b ac cA E F σ).set (x.toNat - xNC) (yad b ac x.toNat, .inr (a, (yfs b ac E F σ x.toNat a n).set k (ycv b ac .null (xtag t, w)))) := by
    refine yws_set hz hlt rfl ?_ ?_
    · unfold yE
      rw [xty_xs, hty]
      simp only
      rw [if_pos h100]
      refine congrArg (fun z => (Sum.inr (a, z) : va_E)) ?_
      apply List.ext_getElem?
      intro j
      rw [List.getElem?_set]
      by_cases hj : j < n
      · rw [yfs_get hj, yfs_get hj, ycon_xs hcn]
        have hl : (yfs b ac E F σ x.toNat a n).length = n := by simp [yfs]
        by_cases hjk : k = j
        · subst hjk
          rw [if_pos (⟨rfl, rfl⟩ : x.toNat = x.toNat ∧ k = k), if_pos rfl, if_pos (by rw [hl]; exact hj), hkt.2.1, hna]
        · rw [if_neg hjk, if_neg (fun z => hjk z.2.symm)]
      · have z1 : (yfs b ac E F (xs σ x.toNat k w) x.toNat a n)[j]? = none := List.getElem?_eq_none (by simp [yfs]; omega)
        have z2 : (yfs b ac E F σ x.toNat a n)[j]? = none := List.getElem?_eq_none (by simp [yfs]; omega)
        rw [z1, z2]
        split
        · rename_i h; subst h; exact absurd hkt.1 hj
        · rfl
    · intro j h1 h2
      have hc : ∀ k', ycon E (xs σ x.toNat k w) j k' = ycon E σ j k' := fun k' => by rw [ycon_xs hcn, if_neg (fun z => h2 z.1)]
      unfold yE
      rw [xty_xs]
      cases xty E σ j with
      | none => rfl
      | some q =>
        simp only
        have : ycon E (xs σ x.toNat k w) j = ycon E σ j := funext hc
        unfold yfs
        rw [this]
  obtain ⟨hn1, hn2⟩ := y_nar (b := b) (ac := ac) (hty2 k hkt.1).2 (by rw [hkt.2.1]; exact h9) (by rw [hkt.2.1]; exact hna) (by rw [hkt.2.1]; exact hv)
  rw [hkt.2.1] at hn1 hn2
  have hlen : k < (yfs b ac E F σ x.toNat a n).length := by simp [yfs]; exact hkt.1
  have hD : va_D (fun q => b ≤ q) (yws b ac cA E F σ) := yws_D
  have hap := va_apart (D := D) (own := own) (s := s) (args := args) (tys := yTys cA) hts hin (tyF a) (fun k hk => (hty2 k hk).1) hnm hK hq
  obtain ⟨r, h1, cell, q1, q2, q3, q4⟩ := hH.1 _ _ he
  have hr : r = (C, T, n) := Option.some.inj (h1.symm.trans hq)
  subst hr
  obtain ⟨hSl, hfc, kC, hkC, hkind⟩ := hK.1 a _ hq
  obtain ⟨cf, kf, fi, f', hi, hsl⟩ := hSl k hkt.1
  have hst := (u_facts hfc hkC (u_lays hts hin hkt.1) hi).1
  have hlay := hts _ (hin _ (u_in_lay hkt.1))
  have ev : ycv b ac oq (xtag t, w) = ycv b ac .null (xtag t, w) := ycv_oq (xtag_le t)
  have goal : ∀ (H' : Heap), H'[yad b ac x.toNat]? = some (cell.setSlot f'.slot (ycv b ac .null (xtag t, w))) → H'.size = H.size → (∀ q, q ≠ yad b ac x.toNat → H'[q]? = H[q]?) → W p l e R s m args below meth c H' (locs ++ [⟨yad b ac x.toNat, f'.slot⟩]) (xnew E σ - k0) (xsl σ - n0) Q (F0 m (pc + 3) rs (st.map (ycv b ac oq))) := by
    intro H' e1 e2 e3
    rw [hsl] at e1
    refine kk H' _ ⟨?_, by rw [e2]; exact hH.2.1, yT_xs hH.2.2.1 hE hcn hty ?_, hH.2.2.2.1, hH.2.2.2.2.put e2 e3 (hD.2 _ _ he)⟩
    · rw [hset]
      exact hH.1.set hD he ⟨_, hq, t_OB.to (V := updV (vp_V (yfs b ac E F σ x.toNat a n)) k (ycv b ac .null (xtag t, w))) ⟨_, e1, q2, q3, t_set q4 hap hkt.1 _⟩ (fun j _ => vp_updV_set hlen _ j)⟩ e3
    · unfold ysk
      rw [if_pos h100, hkt.2.1]
      exact yvk_of hv
  show W p l e R s m args below meth c H locs (xnew E σ - k0) (xsl σ - n0) Q (F0 m pc rs (ycv b ac oq (xtag t, w) :: va_rf (yrf b ac x) :: st.map (ycv b ac oq)))
  rw [ev, yrf_pos hpos]
  show W p l e R s m args below meth c H locs (xnew E σ - k0) (xsl σ - n0) Q (F0 m pc rs (ycv b ac .null (xtag t, w) :: .ref (yad b ac x.toNat) :: st.map (ycv b ac oq)))
  by_cases hfin : (T k).2.2.2 = true
  · unfold u_lay at hlay
    rw [if_pos hfin] at hlay
    obtain ⟨hin2, hdecl⟩ := hkt.2.2 hfin
    have hcf : m.cls = cf := by
      obtain ⟨_, _, c', _, _, _, -, -, hf', -, -, -, hown2, -⟩ := Cond.laysFinal_spec hlay
      have e1 : c' = cf := by have := hi.symm.trans hf'; simp at this; exact this.1.symm
      have hdecl : (T k).1 = own := hdecl
      rw [hdecl] at hown2
      rw [← e1]; exact Option.some.inj (hown.symm.trans hown2)
    have h6 := u_fits hfc hkC hkind (Or.inr hlay) hi (hty2 k hkt.1).1 hn1 hn2
    refine W.putFinK hx hb hown hlink hi hst hcf hin2 (by rw [q2]; exact h6) q1 q3 (by rw [hsl]; exact k2_hasslot (q4 k hkt.1)) rfl rfl hdg goal
  · unfold u_lay at hlay
    rw [if_neg hfin] at hlay
    have h6 := u_store hfc hkC hkind hlay hi (hty2 k hkt.1).1 hn1 hn2
    refine W.putK hx hb (f := f') ⟨hown, hlink, ⟨_, _, _, hi⟩, hst⟩ (by rw [q2]; exact h6) q1 q3 (by rw [hsl]; exact k2_hasslot (q4 k hkt.1)) rfl rfl hdg goal
end YHEAP

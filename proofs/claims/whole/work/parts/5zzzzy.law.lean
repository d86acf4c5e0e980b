/-! the law: every call, and the loop -/
section LAW
variable {σ τ : xS} {i : Nat}
theorem xw_i1 (h : i ≤ 3072) : xw ((i : Int) + 1) = ((i + 1 : Nat) : Int) := by rw [xw_id (by omega) (by omega)]; omega
theorem xw_i2 (h : i ≤ 3072) : xw ((i : Int) + 2) = ((i + 2 : Nat) : Int) := by rw [xw_id (by omega) (by omega)]; omega
theorem xw_i3 (h : i ≤ 3072) : xw ((i : Int) + 3) = ((i + 3 : Nat) : Int) := by rw [xw_id (by omega) (by omega)]; omega
theorem xw_i4 (h : i ≤ 3072) : xw ((i : Int) + 4) = ((i + 4 : Nat) : Int) := by rw [xw_id (by omega) (by omega)]; omega
theorem xw_i5 (h : i ≤ 3072) : xw ((i : Int) + 5) = ((i + 5 : Nat) : Int) := by rw [xw_id (by omega) (by omega)]; omega
theorem xw_i6 (h : i ≤ 3072) : xw ((i : Int) + 6) = ((i + 6 : Nat) : Int) := by rw [xw_id (by omega) (by omega)]; omega
theorem xstep_ir {X : Type} {E : xE} {F : List (List Nat)} {r : xR} {ls st : List xAV} {σ : xS} {k : Nat → List xAV → List xAV → xS → X} {ret ret2 : xAV → xS → X} {call : Nat → List xAV → xS → (xAV → xS → X) → X} {bad : X} (h : r.1 ≠ 33) : xstep E F r ls st σ k ret call bad = xstep E F r ls st σ k ret2 call bad := by
  obtain ⟨o, a, b, c, v, nx, sw⟩ := r
  unfold xstep
  dsimp only at h ⊢
  split <;> first | rfl | exact absurd rfl h
/-- the kind of what a method answers -/
theorem xrun_tag {E : xE} {F : List (List Nat)} {P : xP} {mi b : Nat} (hb : b ≤ 8) (hm : ∀ pc r, xcode P mi pc = some r → r.1 = 33 → r.2.2.1 = b) : ∀ (n pc : Nat) (ls st : List xAV) (σ : xS) (v : xAV) (σ' : xS), xrun E F P n mi pc ls st σ = some (v, σ') → v.1 = xtag b := by
  intro n
  induction n with
  | zero => intro pc ls st σ v σ' h; cases h
  | succ n ih =>
    intro pc ls st σ v σ' h
    unfold xrun at h
    cases hc : xcode P mi pc with
    | none => rw [hc] at h; cases h
    | some r =>
      rw [hc] at h
      have h : xstep E F r ls st σ (xrun E F P n mi) (fun v σ => some (v, σ)) (fun mj as σ kk => xob (xent P mj as) none fun ls0 => (xrun E F P n mj 0 ls0 [] σ).bind fun q => kk q.1 q.2) none = some (v, σ') := h
      by_cases h33 : r.1 = 33
      · have hb2 := hm pc r hc h33
        obtain ⟨o, a, b', c, w, nx, sw⟩ := r
        have h33 : o = 33 := h33
        have hb2 : b' = b := hb2
        subst h33 hb2
        cases st with
        | nil =>
          have h : cond (Nat.beq b' 9) (some (((9, 0) : xAV), σ)) none = some (v, σ') := h
          have : Nat.beq b' 9 = false := beq_ff (by omega)
          rw [this] at h
          cases h
        | cons w st =>
          cases st with
          | cons u st =>
            have h : (none : Option (xAV × xS)) = some (v, σ') := h
            cases h
          | nil =>
            have h : cond (Nat.beq w.1 (xtag b') && Nat.ble b' 8) (xck b' w.2 none (some ((w.1, w.2), σ))) none = some (v, σ') := h
            cases hq : Nat.beq w.1 (xtag b') with
            | false => rw [hq] at h; cases h
            | true =>
              rw [hq, Nat.ble_eq_true_of_le hb] at h
              have h : xck b' w.2 none (some ((w.1, w.2), σ)) = some (v, σ') := h
              unfold xck at h
              have e : ∀ z : Option (xAV × xS), z = some (v, σ') → z = none ∨ z = some ((w.1, w.2), σ) → v.1 = xtag b' := fun z hz hz2 => by
                rcases hz2 with q | q
                · rw [q] at hz; cases hz
                · rw [q] at hz
                  have := congrArg (fun y : xAV × xS => y.1.1) (Option.some.inj hz)
                  exact this.symm.trans (Nat.eq_of_beq_eq_true hq)
              cases hs : xsub b' with
              | false => rw [hs] at h; exact e _ h (Or.inr rfl)
              | true =>
                rw [hs] at h
                have h : (if xna b' w.2 = w.2 then some ((w.1, w.2), σ) else none) = some (v, σ') := h
                by_cases hw : xna b' w.2 = w.2
                · rw [if_pos hw] at h; exact e _ h (Or.inr rfl)
                · rw [if_neg hw] at h; cases h
      · rw [xstep_ir (ret2 := fun _ _ => none) h33] at h
        revert h
        refine xstep_rel (Rl := fun (a : Option (xAV × xS)) (_ : Unit) => a = some (v, σ') → v.1 = xtag b) (k' := fun _ _ _ _ => ()) (ret' := fun _ _ => ()) (call' := fun _ _ _ _ => ()) (bad' := ()) (fun pc ls st s1 _ h => ih pc ls st s1 v σ' h) (fun _ _ _ h => by cases h) (fun mj as s1 kk kk' hkk h => ?_) (fun h => by cases h)
        cases hl : xent P mj as with
        | none => rw [hl] at h; cases h
        | some ls0 =>
          rw [hl] at h
          have h : ((xrun E F P n mj 0 ls0 [] s1).bind fun q => kk q.1 q.2) = some (v, σ') := h
          cases hq : xrun E F P n mj 0 ls0 [] s1 with
          | none => rw [hq] at h; cases h
          | some q =>
            rw [hq] at h
            exact hkk q.1 q.2 (xrun_le _ _ _ _ _ _ _ _ hq) h
noncomputable def tgc (mi b : Nat) : Bool := match xnth xPg mi with
  | some m => m.1.all (fun r => !Nat.beq r.1 33 || Nat.beq r.2.2.1 b)
  | none => true
theorem xnth_in {α : Type} : ∀ {l : List α} {i : Nat} {v : α}, xnth l i = some v → v ∈ l
  | [], _, _, h => by cases h
  | _ :: _, 0, _, h => by cases h; exact List.mem_cons_self
  | _ :: l, i + 1, _, h => List.mem_cons_of_mem _ (xnth_in (l := l) (i := i) h)
theorem X_tag {mi pc b : Nat} (hb : b ≤ 8) (h : tgc mi b = true) {ls st : List xAV} {v : xAV} (hX : X mi pc ls st σ = some (v, τ)) : v.1 = xtag b := by
  obtain ⟨n, hn⟩ := xEx_iff.mp hX
  refine xrun_tag hb (fun pc r hc h33 => ?_) n pc ls st σ v τ hn
  unfold xcode at hc
  unfold tgc at h
  cases hm : xnth xPg mi with
  | none => rw [hm] at hc; cases hc
  | some m =>
    rw [hm] at hc h
    have h1 := List.all_eq_true.mp h r (xnth_in hc)
    rw [h33] at h1
    rw [show (!Nat.beq 33 33) = false from rfl, Bool.false_or] at h1
    exact Nat.eq_of_beq_eq_true h1
/-- all that stands between calls -/
def JJ (σ : xS) : Prop := pJ σ.1 ∧ te_J σ.1 σ.2.1 ∧ tw_J σ.1 σ.2.1
theorem rd_tr (hJ : JJ σ) {ci mi : Nat} {cl ml : List xAV} (h : rdOK σ ci cl mi ml) : trOK σ ci cl mi ml := by
  obtain ⟨v, τ, τ', h1, h2, h3, h4⟩ := h
  have a := ag_tr h2 h4
  refine ⟨v, τ, τ', h1, h3, ⟨pJ_ag a hJ.1, te_J_ag a hJ.2.1, ?_⟩, ⟨[], by rw [a.1, List.append_nil], Nat.zero_le _⟩, by rw [a.1]; exact Nat.le_add_right _ _, by rw [a.1]⟩
  rw [a.1]
  exact tw_J_st (te_st_ag a) hJ.2.2
theorem st_tw (hJ : JJ σ) {ci mi : Nat} {cl ml : List xAV} (h : stOK σ ci cl mi ml) : trOK σ ci cl mi ml := by
  obtain ⟨v, τ, τ', h1, h2, h3, h4⟩ := h
  refine ⟨v, τ, τ', h1, h2, ⟨h3, te_J_teF h4 hJ.2.1, ?_⟩, ⟨[], by rw [h4.1, List.append_nil], Nat.zero_le _⟩, by rw [h4.1]; exact Nat.le_add_right _ _, by rw [h4.1]⟩
  rw [h4.1]
  exact tw_J_st ⟨fun b hb => h4.2.1 b (Or.inl hb.1), fun a ha => h4.2.1 a (by omega), by rw [h4.2.1 243 (by omega)], h4.2.2 _ (by omega), h4.2.2 _ (by omega), h4.2.2 _ (by omega)⟩ hJ.2.2
/-- one round of the loop -/
def lwO (σ : xS) (i : Nat) (a : Option (xAV × xS)) : Prop := ∃ τ', a = X iL_law 18 [(2, 1), (2, 200), (2, 305), (0, ((i + 6 : Nat) : Int))] [] τ' ∧ JJ τ' ∧ (∃ L, τ'.2.1 = σ.2.1 ++ L ∧ L.length ≤ 600) ∧ τ'.2.2.1 ≤ σ.2.2.1 + 12000 ∧ τ'.2.2.2 = σ.2.2.2
theorem law_0 (hi : i + 5 < xL σ) (hL : xL σ ≤ 3072) (h : trOK σ iC_sort [(2, 200), (0, xX σ (i + 1)), (0, xX σ (i + 2)), (0, xX σ (i + 3)), (0, xX σ (i + 4)), (0, xX σ (i + 5)), (9, 0)] iM_sort [(2, 305), (0, xX σ (i + 1)), (0, xX σ (i + 2)), (0, xX σ (i + 3)), (0, xX σ (i + 4)), (0, xX σ (i + 5))]) : lwO σ i (X iL_law 228 [(2, 1), (2, 200), (2, 305), (0, (i : Int))] [] σ) := by
  obtain ⟨v, τ, τ', e1, e2, hJ, hg1, hg2, hg3⟩ := h
  have hle := xEx_le e1
  have hX' : xX τ = xX σ := hle.2.2.2.2
  have hL' : xL τ = xL σ := hle.2.2.2.1
  have ht := X_tag (b := 0) (by decide) (by decide +kernel) e1
  obtain ⟨t, x⟩ := v
  have ht : t = 0 := ht
  subst ht
  refine ⟨τ', ?_, hJ, hg1, hg2, hg3⟩
  rw [qL_law_228, xw_i1 (by omega), if_pos (xin_of (by omega) (by omega)), xw_i2 (by omega), if_pos (xin_of (by omega) (by omega)), xw_i3 (by omega), if_pos (xin_of (by omega) (by omega)), xw_i4 (by omega), if_pos (xin_of (by omega) (by omega)), xw_i5 (by omega), if_pos (xin_of (by omega) (by omega)), show xisO xE1 σ 200 12 = true from rfl, cnd_t, Int.toNat_natCast, Int.toNat_natCast, Int.toNat_natCast, Int.toNat_natCast, Int.toNat_natCast, e1, Option.bind_some, qL_law_257, hL', xw_i1 (by omega), if_pos (xin_of (by omega) (by omega)), xw_i2 (by omega), if_pos (xin_of (by omega) (by omega)), xw_i3 (by omega), if_pos (xin_of (by omega) (by omega)), xw_i4 (by omega), if_pos (xin_of (by omega) (by omega)), xw_i5 (by omega), if_pos (xin_of (by omega) (by omega)), show xisO xE1 τ 305 13 = true from rfl, cnd_t, Int.toNat_natCast, Int.toNat_natCast, Int.toNat_natCast, Int.toNat_natCast, Int.toNat_natCast, hX', e2, Option.bind_some, qL_law_286, if_pos rfl, xw_i6 (by omega)]
theorem law_1 (hi : i + 5 < xL σ) (hL : xL σ ≤ 3072) (h : trOK σ iC_house [(2, 200), (0, xX σ (i + 1)), (0, xX σ (i + 2)), (0, xX σ (i + 3)), (0, xX σ (i + 4)), (9, 0)] iM_house [(2, 305), (0, xX σ (i + 1)), (0, xX σ (i + 2)), (0, xX σ (i + 3)), (0, xX σ (i + 4))]) : lwO σ i (X iL_law 291 [(2, 1), (2, 200), (2, 305), (0, (i : Int))] [] σ) := by
  obtain ⟨v, τ, τ', e1, e2, hJ, hg1, hg2, hg3⟩ := h
  have hle := xEx_le e1
  have hX' : xX τ = xX σ := hle.2.2.2.2
  have hL' : xL τ = xL σ := hle.2.2.2.1
  have ht := X_tag (b := 0) (by decide) (by decide +kernel) e1
  obtain ⟨t, x⟩ := v
  have ht : t = 0 := ht
  subst ht
  refine ⟨τ', ?_, hJ, hg1, hg2, hg3⟩
  rw [qL_law_291, xw_i1 (by omega), if_pos (xin_of (by omega) (by omega)), xw_i2 (by omega), if_pos (xin_of (by omega) (by omega)), xw_i3 (by omega), if_pos (xin_of (by omega) (by omega)), xw_i4 (by omega), if_pos (xin_of (by omega) (by omega)), show xisO xE1 σ 200 12 = true from rfl, cnd_t, Int.toNat_natCast, Int.toNat_natCast, Int.toNat_natCast, Int.toNat_natCast, e1, Option.bind_some, qL_law_315, hL', xw_i1 (by omega), if_pos (xin_of (by omega) (by omega)), xw_i2 (by omega), if_pos (xin_of (by omega) (by omega)), xw_i3 (by omega), if_pos (xin_of (by omega) (by omega)), xw_i4 (by omega), if_pos (xin_of (by omega) (by omega)), show xisO xE1 τ 305 13 = true from rfl, cnd_t, Int.toNat_natCast, Int.toNat_natCast, Int.toNat_natCast, Int.toNat_natCast, hX', e2, Option.bind_some, qL_law_339, if_pos rfl, xw_i6 (by omega)]
theorem law_2 (hi : i + 5 < xL σ) (hL : xL σ ≤ 3072) (h : trOK σ iC_sheet [(2, 200), (0, xX σ (i + 1)), (0, xX σ (i + 2)), (9, 0)] iM_sheet [(2, 305), (0, xX σ (i + 1)), (0, xX σ (i + 2))]) : lwO σ i (X iL_law 344 [(2, 1), (2, 200), (2, 305), (0, (i : Int))] [] σ) := by
  obtain ⟨v, τ, τ', e1, e2, hJ, hg1, hg2, hg3⟩ := h
  have hle := xEx_le e1
  have hX' : xX τ = xX σ := hle.2.2.2.2
  have hL' : xL τ = xL σ := hle.2.2.2.1
  have ht := X_tag (b := 0) (by decide) (by decide +kernel) e1
  obtain ⟨t, x⟩ := v
  have ht : t = 0 := ht
  subst ht
  refine ⟨τ', ?_, hJ, hg1, hg2, hg3⟩
  rw [qL_law_344, xw_i1 (by omega), if_pos (xin_of (by omega) (by omega)), xw_i2 (by omega), if_pos (xin_of (by omega) (by omega)), show xisO xE1 σ 200 12 = true from rfl, cnd_t, Int.toNat_natCast, Int.toNat_natCast, e1, Option.bind_some, qL_law_358, hL', xw_i1 (by omega), if_pos (xin_of (by omega) (by omega)), xw_i2 (by omega), if_pos (xin_of (by omega) (by omega)), show xisO xE1 τ 305 13 = true from rfl, cnd_t, Int.toNat_natCast, Int.toNat_natCast, hX', e2, Option.bind_some, qL_law_372, if_pos rfl, xw_i6 (by omega)]
theorem law_3 (hi : i + 5 < xL σ) (hL : xL σ ≤ 3072) (h : trOK σ iC_day [(2, 200), (0, xX σ (i + 1))] iM_day [(2, 305), (0, xX σ (i + 1))]) : lwO σ i (X iL_law 377 [(2, 1), (2, 200), (2, 305), (0, (i : Int))] [] σ) := by
  obtain ⟨v, τ, τ', e1, e2, hJ, hg1, hg2, hg3⟩ := h
  have hle := xEx_le e1
  have hX' : xX τ = xX σ := hle.2.2.2.2
  have hL' : xL τ = xL σ := hle.2.2.2.1
  have ht := X_tag (b := 4) (by decide) (by decide +kernel) e1
  obtain ⟨t, x⟩ := v
  have ht : t = 0 := ht
  subst ht
  refine ⟨τ', ?_, hJ, hg1, hg2, hg3⟩
  rw [qL_law_377, xw_i1 (by omega), if_pos (xin_of (by omega) (by omega)), show xisO xE1 σ 200 12 = true from rfl, cnd_t, Int.toNat_natCast, e1, Option.bind_some, qL_law_386, hL', xw_i1 (by omega), if_pos (xin_of (by omega) (by omega)), show xisO xE1 τ 305 13 = true from rfl, cnd_t, Int.toNat_natCast, hX', e2, Option.bind_some, qL_law_395, if_pos rfl, xw_i6 (by omega)]
theorem law_4 (hi : i + 5 < xL σ) (hL : xL σ ≤ 3072) (h : trOK σ iC_move [(2, 200), (0, xX σ (i + 1)), (0, xX σ (i + 2)), (0, xX σ (i + 3)), (9, 0)] iM_move [(2, 305), (0, xX σ (i + 1)), (0, xX σ (i + 2)), (0, xX σ (i + 3))]) : lwO σ i (X iL_law 400 [(2, 1), (2, 200), (2, 305), (0, (i : Int))] [] σ) := by
  obtain ⟨v, τ, τ', e1, e2, hJ, hg1, hg2, hg3⟩ := h
  have hle := xEx_le e1
  have hX' : xX τ = xX σ := hle.2.2.2.2
  have hL' : xL τ = xL σ := hle.2.2.2.1
  have ht := X_tag (b := 0) (by decide) (by decide +kernel) e1
  obtain ⟨t, x⟩ := v
  have ht : t = 0 := ht
  subst ht
  refine ⟨τ', ?_, hJ, hg1, hg2, hg3⟩
  rw [qL_law_400, xw_i1 (by omega), if_pos (xin_of (by omega) (by omega)), xw_i2 (by omega), if_pos (xin_of (by omega) (by omega)), xw_i3 (by omega), if_pos (xin_of (by omega) (by omega)), show xisO xE1 σ 200 12 = true from rfl, cnd_t, Int.toNat_natCast, Int.toNat_natCast, Int.toNat_natCast, e1, Option.bind_some, qL_law_419, hL', xw_i1 (by omega), if_pos (xin_of (by omega) (by omega)), xw_i2 (by omega), if_pos (xin_of (by omega) (by omega)), xw_i3 (by omega), if_pos (xin_of (by omega) (by omega)), show xisO xE1 τ 305 13 = true from rfl, cnd_t, Int.toNat_natCast, Int.toNat_natCast, Int.toNat_natCast, hX', e2, Option.bind_some, qL_law_438, if_pos rfl, xw_i6 (by omega)]
theorem law_5 (hi : i + 5 < xL σ) (hL : xL σ ≤ 3072) (h : trOK σ iC_undo [(2, 200), (0, xX σ (i + 1))] iM_undo [(2, 305), (0, xX σ (i + 1))]) : lwO σ i (X iL_law 443 [(2, 1), (2, 200), (2, 305), (0, (i : Int))] [] σ) := by
  obtain ⟨v, τ, τ', e1, e2, hJ, hg1, hg2, hg3⟩ := h
  have hle := xEx_le e1
  have hX' : xX τ = xX σ := hle.2.2.2.2
  have hL' : xL τ = xL σ := hle.2.2.2.1
  have ht := X_tag (b := 4) (by decide) (by decide +kernel) e1
  obtain ⟨t, x⟩ := v
  have ht : t = 0 := ht
  subst ht
  refine ⟨τ', ?_, hJ, hg1, hg2, hg3⟩
  rw [qL_law_443, xw_i1 (by omega), if_pos (xin_of (by omega) (by omega)), show xisO xE1 σ 200 12 = true from rfl, cnd_t, Int.toNat_natCast, e1, Option.bind_some, qL_law_452, hL', xw_i1 (by omega), if_pos (xin_of (by omega) (by omega)), show xisO xE1 τ 305 13 = true from rfl, cnd_t, Int.toNat_natCast, hX', e2, Option.bind_some, qL_law_461, if_pos rfl, xw_i6 (by omega)]
theorem law_6 (hi : i + 5 < xL σ) (hL : xL σ ≤ 3072) (h : trOK σ iC_where [(2, 200), (0, xX σ (i + 1)), (0, xX σ (i + 2)), (0, xX σ (i + 3))] iM_where [(2, 305), (0, xX σ (i + 1)), (0, xX σ (i + 2)), (0, xX σ (i + 3))]) : lwO σ i (X iL_law 466 [(2, 1), (2, 200), (2, 305), (0, (i : Int))] [] σ) := by
  obtain ⟨v, τ, τ', e1, e2, hJ, hg1, hg2, hg3⟩ := h
  have hle := xEx_le e1
  have hX' : xX τ = xX σ := hle.2.2.2.2
  have hL' : xL τ = xL σ := hle.2.2.2.1
  have ht := X_tag (b := 0) (by decide) (by decide +kernel) e1
  obtain ⟨t, x⟩ := v
  have ht : t = 0 := ht
  subst ht
  refine ⟨τ', ?_, hJ, hg1, hg2, hg3⟩
  rw [qL_law_466, xw_i1 (by omega), if_pos (xin_of (by omega) (by omega)), xw_i2 (by omega), if_pos (xin_of (by omega) (by omega)), xw_i3 (by omega), if_pos (xin_of (by omega) (by omega)), show xisO xE1 σ 200 12 = true from rfl, cnd_t, Int.toNat_natCast, Int.toNat_natCast, Int.toNat_natCast, e1, Option.bind_some, qL_law_485, hL', xw_i1 (by omega), if_pos (xin_of (by omega) (by omega)), xw_i2 (by omega), if_pos (xin_of (by omega) (by omega)), xw_i3 (by omega), if_pos (xin_of (by omega) (by omega)), show xisO xE1 τ 305 13 = true from rfl, cnd_t, Int.toNat_natCast, Int.toNat_natCast, Int.toNat_natCast, hX', e2, Option.bind_some, qL_law_504, if_pos rfl, xw_i6 (by omega)]
theorem law_7 (hi : i + 5 < xL σ) (hL : xL σ ≤ 3072) (h : trOK σ iC_since [(2, 200), (0, xX σ (i + 1)), (0, xX σ (i + 2)), (0, xX σ (i + 3))] iM_since [(2, 305), (0, xX σ (i + 1)), (0, xX σ (i + 2)), (0, xX σ (i + 3))]) : lwO σ i (X iL_law 509 [(2, 1), (2, 200), (2, 305), (0, (i : Int))] [] σ) := by
  obtain ⟨v, τ, τ', e1, e2, hJ, hg1, hg2, hg3⟩ := h
  have hle := xEx_le e1
  have hX' : xX τ = xX σ := hle.2.2.2.2
  have hL' : xL τ = xL σ := hle.2.2.2.1
  have ht := X_tag (b := 0) (by decide) (by decide +kernel) e1
  obtain ⟨t, x⟩ := v
  have ht : t = 0 := ht
  subst ht
  refine ⟨τ', ?_, hJ, hg1, hg2, hg3⟩
  rw [qL_law_509, xw_i1 (by omega), if_pos (xin_of (by omega) (by omega)), xw_i2 (by omega), if_pos (xin_of (by omega) (by omega)), xw_i3 (by omega), if_pos (xin_of (by omega) (by omega)), show xisO xE1 σ 200 12 = true from rfl, cnd_t, Int.toNat_natCast, Int.toNat_natCast, Int.toNat_natCast, e1, Option.bind_some, qL_law_528, hL', xw_i1 (by omega), if_pos (xin_of (by omega) (by omega)), xw_i2 (by omega), if_pos (xin_of (by omega) (by omega)), xw_i3 (by omega), if_pos (xin_of (by omega) (by omega)), show xisO xE1 τ 305 13 = true from rfl, cnd_t, Int.toNat_natCast, Int.toNat_natCast, Int.toNat_natCast, hX', e2, Option.bind_some, qL_law_547, if_pos rfl, xw_i6 (by omega)]
theorem law_8 (hi : i + 5 < xL σ) (hL : xL σ ≤ 3072) (h : trOK σ iC_washes [(2, 200), (0, xX σ (i + 1)), (0, xX σ (i + 2)), (0, xX σ (i + 3))] iM_washes [(2, 305), (0, xX σ (i + 1)), (0, xX σ (i + 2)), (0, xX σ (i + 3))]) : lwO σ i (X iL_law 552 [(2, 1), (2, 200), (2, 305), (0, (i : Int))] [] σ) := by
  obtain ⟨v, τ, τ', e1, e2, hJ, hg1, hg2, hg3⟩ := h
  have hle := xEx_le e1
  have hX' : xX τ = xX σ := hle.2.2.2.2
  have hL' : xL τ = xL σ := hle.2.2.2.1
  have ht := X_tag (b := 0) (by decide) (by decide +kernel) e1
  obtain ⟨t, x⟩ := v
  have ht : t = 0 := ht
  subst ht
  refine ⟨τ', ?_, hJ, hg1, hg2, hg3⟩
  rw [qL_law_552, xw_i1 (by omega), if_pos (xin_of (by omega) (by omega)), xw_i2 (by omega), if_pos (xin_of (by omega) (by omega)), xw_i3 (by omega), if_pos (xin_of (by omega) (by omega)), show xisO xE1 σ 200 12 = true from rfl, cnd_t, Int.toNat_natCast, Int.toNat_natCast, Int.toNat_natCast, e1, Option.bind_some, qL_law_571, hL', xw_i1 (by omega), if_pos (xin_of (by omega) (by omega)), xw_i2 (by omega), if_pos (xin_of (by omega) (by omega)), xw_i3 (by omega), if_pos (xin_of (by omega) (by omega)), show xisO xE1 τ 305 13 = true from rfl, cnd_t, Int.toNat_natCast, Int.toNat_natCast, Int.toNat_natCast, hX', e2, Option.bind_some, qL_law_590, if_pos rfl, xw_i6 (by omega)]
theorem law_9 (hi : i + 5 < xL σ) (hL : xL σ ≤ 3072) (h : trOK σ iC_nights [(2, 200), (0, xX σ (i + 1)), (0, xX σ (i + 2)), (0, xX σ (i + 3)), (0, xX σ (i + 4)), (9, 0)] iM_nights [(2, 305), (0, xX σ (i + 1)), (0, xX σ (i + 2)), (0, xX σ (i + 3)), (0, xX σ (i + 4)), (9, 0), (9, 0)]) : lwO σ i (X iL_law 595 [(2, 1), (2, 200), (2, 305), (0, (i : Int))] [] σ) := by
  obtain ⟨v, τ, τ', e1, e2, hJ, hg1, hg2, hg3⟩ := h
  have hle := xEx_le e1
  have hX' : xX τ = xX σ := hle.2.2.2.2
  have hL' : xL τ = xL σ := hle.2.2.2.1
  have ht := X_tag (b := 0) (by decide) (by decide +kernel) e1
  obtain ⟨t, x⟩ := v
  have ht : t = 0 := ht
  subst ht
  refine ⟨τ', ?_, hJ, hg1, hg2, hg3⟩
  rw [qL_law_595, xw_i1 (by omega), if_pos (xin_of (by omega) (by omega)), xw_i2 (by omega), if_pos (xin_of (by omega) (by omega)), xw_i3 (by omega), if_pos (xin_of (by omega) (by omega)), xw_i4 (by omega), if_pos (xin_of (by omega) (by omega)), show xisO xE1 σ 200 12 = true from rfl, cnd_t, Int.toNat_natCast, Int.toNat_natCast, Int.toNat_natCast, Int.toNat_natCast, e1, Option.bind_some, qL_law_619, hL', xw_i1 (by omega), if_pos (xin_of (by omega) (by omega)), xw_i2 (by omega), if_pos (xin_of (by omega) (by omega)), xw_i3 (by omega), if_pos (xin_of (by omega) (by omega)), xw_i4 (by omega), if_pos (xin_of (by omega) (by omega)), show xisO xE1 τ 305 13 = true from rfl, cnd_t, Int.toNat_natCast, Int.toNat_natCast, Int.toNat_natCast, Int.toNat_natCast, hX', e2, Option.bind_some, qL_law_643, if_pos rfl, xw_i6 (by omega)]
theorem law_10 (hi : i + 5 < xL σ) (hL : xL σ ≤ 3072) (h : trOK σ iC_many [(2, 200), (0, xX σ (i + 1)), (0, xX σ (i + 2)), (0, xX σ (i + 3)), (0, xX σ (i + 4)), (9, 0)] iM_many [(2, 305), (0, xX σ (i + 1)), (0, xX σ (i + 2)), (0, xX σ (i + 3)), (0, xX σ (i + 4))]) : lwO σ i (X iL_law 648 [(2, 1), (2, 200), (2, 305), (0, (i : Int))] [] σ) := by
  obtain ⟨v, τ, τ', e1, e2, hJ, hg1, hg2, hg3⟩ := h
  have hle := xEx_le e1
  have hX' : xX τ = xX σ := hle.2.2.2.2
  have hL' : xL τ = xL σ := hle.2.2.2.1
  have ht := X_tag (b := 0) (by decide) (by decide +kernel) e1
  obtain ⟨t, x⟩ := v
  have ht : t = 0 := ht
  subst ht
  refine ⟨τ', ?_, hJ, hg1, hg2, hg3⟩
  rw [qL_law_648, xw_i1 (by omega), if_pos (xin_of (by omega) (by omega)), xw_i2 (by omega), if_pos (xin_of (by omega) (by omega)), xw_i3 (by omega), if_pos (xin_of (by omega) (by omega)), xw_i4 (by omega), if_pos (xin_of (by omega) (by omega)), show xisO xE1 σ 200 12 = true from rfl, cnd_t, Int.toNat_natCast, Int.toNat_natCast, Int.toNat_natCast, Int.toNat_natCast, e1, Option.bind_some, qL_law_672, hL', xw_i1 (by omega), if_pos (xin_of (by omega) (by omega)), xw_i2 (by omega), if_pos (xin_of (by omega) (by omega)), xw_i3 (by omega), if_pos (xin_of (by omega) (by omega)), xw_i4 (by omega), if_pos (xin_of (by omega) (by omega)), show xisO xE1 τ 305 13 = true from rfl, cnd_t, Int.toNat_natCast, Int.toNat_natCast, Int.toNat_natCast, Int.toNat_natCast, hX', e2, Option.bind_some, qL_law_696, if_pos rfl, xw_i6 (by omega)]
theorem law_11 (hi : i + 5 < xL σ) (hL : xL σ ≤ 3072) (h : trOK σ iC_heat [(2, 200), (0, xX σ (i + 1)), (0, xX σ (i + 2)), (0, xX σ (i + 3)), (9, 0)] iM_heat [(2, 305), (0, xX σ (i + 1)), (0, xX σ (i + 2)), (0, xX σ (i + 3))]) : lwO σ i (X iL_law 701 [(2, 1), (2, 200), (2, 305), (0, (i : Int))] [] σ) := by
  obtain ⟨v, τ, τ', e1, e2, hJ, hg1, hg2, hg3⟩ := h
  have hle := xEx_le e1
  have hX' : xX τ = xX σ := hle.2.2.2.2
  have hL' : xL τ = xL σ := hle.2.2.2.1
  have ht := X_tag (b := 0) (by decide) (by decide +kernel) e1
  obtain ⟨t, x⟩ := v
  have ht : t = 0 := ht
  subst ht
  refine ⟨τ', ?_, hJ, hg1, hg2, hg3⟩
  rw [qL_law_701, xw_i1 (by omega), if_pos (xin_of (by omega) (by omega)), xw_i2 (by omega), if_pos (xin_of (by omega) (by omega)), xw_i3 (by omega), if_pos (xin_of (by omega) (by omega)), show xisO xE1 σ 200 12 = true from rfl, cnd_t, Int.toNat_natCast, Int.toNat_natCast, Int.toNat_natCast, e1, Option.bind_some, qL_law_720, hL', xw_i1 (by omega), if_pos (xin_of (by omega) (by omega)), xw_i2 (by omega), if_pos (xin_of (by omega) (by omega)), xw_i3 (by omega), if_pos (xin_of (by omega) (by omega)), show xisO xE1 τ 305 13 = true from rfl, cnd_t, Int.toNat_natCast, Int.toNat_natCast, Int.toNat_natCast, hX', e2, Option.bind_some, qL_law_739, if_pos rfl, xw_i6 (by omega)]
theorem law_12 (hi : i + 5 < xL σ) (hL : xL σ ≤ 3072) (h : trOK σ iC_proven [(2, 200), (0, xX σ (i + 1)), (0, xX σ (i + 2))] iM_proven [(2, 305), (0, xX σ (i + 1)), (0, xX σ (i + 2))]) : lwO σ i (X iL_law 744 [(2, 1), (2, 200), (2, 305), (0, (i : Int))] [] σ) := by
  obtain ⟨v, τ, τ', e1, e2, hJ, hg1, hg2, hg3⟩ := h
  have hle := xEx_le e1
  have hX' : xX τ = xX σ := hle.2.2.2.2
  have hL' : xL τ = xL σ := hle.2.2.2.1
  have ht := X_tag (b := 0) (by decide) (by decide +kernel) e1
  obtain ⟨t, x⟩ := v
  have ht : t = 0 := ht
  subst ht
  refine ⟨τ', ?_, hJ, hg1, hg2, hg3⟩
  rw [qL_law_744, xw_i1 (by omega), if_pos (xin_of (by omega) (by omega)), xw_i2 (by omega), if_pos (xin_of (by omega) (by omega)), show xisO xE1 σ 200 12 = true from rfl, cnd_t, Int.toNat_natCast, Int.toNat_natCast, e1, Option.bind_some, qL_law_758, hL', xw_i1 (by omega), if_pos (xin_of (by omega) (by omega)), xw_i2 (by omega), if_pos (xin_of (by omega) (by omega)), show xisO xE1 τ 305 13 = true from rfl, cnd_t, Int.toNat_natCast, Int.toNat_natCast, hX', e2, Option.bind_some, qL_law_772, if_pos rfl, xw_i6 (by omega)]
theorem law_13 (hi : i + 5 < xL σ) (hL : xL σ ≤ 3072) (h : trOK σ iC_unsafe [(2, 200), (0, xX σ (i + 1)), (0, xX σ (i + 2))] iM_unsafe [(2, 305), (0, xX σ (i + 1)), (0, xX σ (i + 2)), (9, 0), (9, 0), (9, 0), (9, 0), (9, 0)]) : lwO σ i (X iL_law 777 [(2, 1), (2, 200), (2, 305), (0, (i : Int))] [] σ) := by
  obtain ⟨v, τ, τ', e1, e2, hJ, hg1, hg2, hg3⟩ := h
  have hle := xEx_le e1
  have hX' : xX τ = xX σ := hle.2.2.2.2
  have hL' : xL τ = xL σ := hle.2.2.2.1
  have ht := X_tag (b := 0) (by decide) (by decide +kernel) e1
  obtain ⟨t, x⟩ := v
  have ht : t = 0 := ht
  subst ht
  refine ⟨τ', ?_, hJ, hg1, hg2, hg3⟩
  rw [qL_law_777, xw_i1 (by omega), if_pos (xin_of (by omega) (by omega)), xw_i2 (by omega), if_pos (xin_of (by omega) (by omega)), show xisO xE1 σ 200 12 = true from rfl, cnd_t, Int.toNat_natCast, Int.toNat_natCast, e1, Option.bind_some, qL_law_791, hL', xw_i1 (by omega), if_pos (xin_of (by omega) (by omega)), xw_i2 (by omega), if_pos (xin_of (by omega) (by omega)), show xisO xE1 τ 305 13 = true from rfl, cnd_t, Int.toNat_natCast, Int.toNat_natCast, hX', e2, Option.bind_some, qL_law_805, if_pos rfl, xw_i6 (by omega)]
theorem law_14 (hi : i + 5 < xL σ) (hL : xL σ ≤ 3072) (h : trOK σ iC_lot [(2, 200), (0, xX σ (i + 1)), (0, xX σ (i + 2))] iM_lot [(2, 305), (0, xX σ (i + 1)), (0, xX σ (i + 2))]) : lwO σ i (X iL_law 810 [(2, 1), (2, 200), (2, 305), (0, (i : Int))] [] σ) := by
  obtain ⟨v, τ, τ', e1, e2, hJ, hg1, hg2, hg3⟩ := h
  have hle := xEx_le e1
  have hX' : xX τ = xX σ := hle.2.2.2.2
  have hL' : xL τ = xL σ := hle.2.2.2.1
  have ht := X_tag (b := 4) (by decide) (by decide +kernel) e1
  obtain ⟨t, x⟩ := v
  have ht : t = 0 := ht
  subst ht
  refine ⟨τ', ?_, hJ, hg1, hg2, hg3⟩
  rw [qL_law_810, xw_i1 (by omega), if_pos (xin_of (by omega) (by omega)), xw_i2 (by omega), if_pos (xin_of (by omega) (by omega)), show xisO xE1 σ 200 12 = true from rfl, cnd_t, Int.toNat_natCast, Int.toNat_natCast, e1, Option.bind_some, qL_law_824, hL', xw_i1 (by omega), if_pos (xin_of (by omega) (by omega)), xw_i2 (by omega), if_pos (xin_of (by omega) (by omega)), show xisO xE1 τ 305 13 = true from rfl, cnd_t, Int.toNat_natCast, Int.toNat_natCast, hX', e2, Option.bind_some, qL_law_838, if_pos rfl, xw_i6 (by omega)]
theorem law_15 (hi : i + 5 < xL σ) (hL : xL σ ≤ 3072) (h : trOK σ iC_beyond [(2, 200), (0, xX σ (i + 1))] iM_beyond [(2, 305), (0, xX σ (i + 1))]) : lwO σ i (X iL_law 843 [(2, 1), (2, 200), (2, 305), (0, (i : Int))] [] σ) := by
  obtain ⟨v, τ, τ', e1, e2, hJ, hg1, hg2, hg3⟩ := h
  have hle := xEx_le e1
  have hX' : xX τ = xX σ := hle.2.2.2.2
  have hL' : xL τ = xL σ := hle.2.2.2.1
  have ht := X_tag (b := 4) (by decide) (by decide +kernel) e1
  obtain ⟨t, x⟩ := v
  have ht : t = 0 := ht
  subst ht
  refine ⟨τ', ?_, hJ, hg1, hg2, hg3⟩
  rw [qL_law_843, xw_i1 (by omega), if_pos (xin_of (by omega) (by omega)), show xisO xE1 σ 200 12 = true from rfl, cnd_t, Int.toNat_natCast, e1, Option.bind_some, qL_law_852, hL', xw_i1 (by omega), if_pos (xin_of (by omega) (by omega)), show xisO xE1 τ 305 13 = true from rfl, cnd_t, Int.toNat_natCast, hX', e2, Option.bind_some, qL_law_861, if_pos rfl, xw_i6 (by omega)]
theorem law_16 (hi : i + 5 < xL σ) (hL : xL σ ≤ 3072) (h : trOK σ iC_bag [(2, 200), (0, xX σ (i + 1)), (0, xX σ (i + 2)), (9, 0)] iM_bag [(2, 305), (0, xX σ (i + 1)), (0, xX σ (i + 2))]) : lwO σ i (X iL_law 866 [(2, 1), (2, 200), (2, 305), (0, (i : Int))] [] σ) := by
  obtain ⟨v, τ, τ', e1, e2, hJ, hg1, hg2, hg3⟩ := h
  have hle := xEx_le e1
  have hX' : xX τ = xX σ := hle.2.2.2.2
  have hL' : xL τ = xL σ := hle.2.2.2.1
  have ht := X_tag (b := 0) (by decide) (by decide +kernel) e1
  obtain ⟨t, x⟩ := v
  have ht : t = 0 := ht
  subst ht
  refine ⟨τ', ?_, hJ, hg1, hg2, hg3⟩
  rw [qL_law_866, xw_i1 (by omega), if_pos (xin_of (by omega) (by omega)), xw_i2 (by omega), if_pos (xin_of (by omega) (by omega)), show xisO xE1 σ 200 12 = true from rfl, cnd_t, Int.toNat_natCast, Int.toNat_natCast, e1, Option.bind_some, qL_law_880, hL', xw_i1 (by omega), if_pos (xin_of (by omega) (by omega)), xw_i2 (by omega), if_pos (xin_of (by omega) (by omega)), show xisO xE1 τ 305 13 = true from rfl, cnd_t, Int.toNat_natCast, Int.toNat_natCast, hX', e2, Option.bind_some, qL_law_894, if_pos rfl, xw_i6 (by omega)]
theorem law_17 (hi : i + 5 < xL σ) (hL : xL σ ≤ 3072) (h : trOK σ iC_read [(2, 200), (0, xX σ (i + 1)), (0, xX σ (i + 2)), (9, 0)] iM_read [(2, 305), (0, xX σ (i + 1)), (0, xX σ (i + 2)), (9, 0)]) : lwO σ i (X iL_law 899 [(2, 1), (2, 200), (2, 305), (0, (i : Int))] [] σ) := by
  obtain ⟨v, τ, τ', e1, e2, hJ, hg1, hg2, hg3⟩ := h
  have hle := xEx_le e1
  have hX' : xX τ = xX σ := hle.2.2.2.2
  have hL' : xL τ = xL σ := hle.2.2.2.1
  have ht := X_tag (b := 0) (by decide) (by decide +kernel) e1
  obtain ⟨t, x⟩ := v
  have ht : t = 0 := ht
  subst ht
  refine ⟨τ', ?_, hJ, hg1, hg2, hg3⟩
  rw [qL_law_899, xw_i1 (by omega), if_pos (xin_of (by omega) (by omega)), xw_i2 (by omega), if_pos (xin_of (by omega) (by omega)), show xisO xE1 σ 200 12 = true from rfl, cnd_t, Int.toNat_natCast, Int.toNat_natCast, e1, Option.bind_some, qL_law_913, hL', xw_i1 (by omega), if_pos (xin_of (by omega) (by omega)), xw_i2 (by omega), if_pos (xin_of (by omega) (by omega)), show xisO xE1 τ 305 13 = true from rfl, cnd_t, Int.toNat_natCast, Int.toNat_natCast, hX', e2, Option.bind_some, qL_law_927, if_pos rfl, xw_i6 (by omega)]
theorem law_18 (hi : i + 5 < xL σ) (hL : xL σ ≤ 3072) (h : trOK σ iC_misses [(2, 200), (0, xX σ (i + 1)), (0, xX σ (i + 2)), (0, xX σ (i + 3))] iM_misses [(2, 305), (0, xX σ (i + 1)), (0, xX σ (i + 2)), (0, xX σ (i + 3))]) : lwO σ i (X iL_law 932 [(2, 1), (2, 200), (2, 305), (0, (i : Int))] [] σ) := by
  obtain ⟨v, τ, τ', e1, e2, hJ, hg1, hg2, hg3⟩ := h
  have hle := xEx_le e1
  have hX' : xX τ = xX σ := hle.2.2.2.2
  have hL' : xL τ = xL σ := hle.2.2.2.1
  have ht := X_tag (b := 0) (by decide) (by decide +kernel) e1
  obtain ⟨t, x⟩ := v
  have ht : t = 0 := ht
  subst ht
  refine ⟨τ', ?_, hJ, hg1, hg2, hg3⟩
  rw [qL_law_932, xw_i1 (by omega), if_pos (xin_of (by omega) (by omega)), xw_i2 (by omega), if_pos (xin_of (by omega) (by omega)), xw_i3 (by omega), if_pos (xin_of (by omega) (by omega)), show xisO xE1 σ 200 12 = true from rfl, cnd_t, Int.toNat_natCast, Int.toNat_natCast, Int.toNat_natCast, e1, Option.bind_some, qL_law_951, hL', xw_i1 (by omega), if_pos (xin_of (by omega) (by omega)), xw_i2 (by omega), if_pos (xin_of (by omega) (by omega)), xw_i3 (by omega), if_pos (xin_of (by omega) (by omega)), show xisO xE1 τ 305 13 = true from rfl, cnd_t, Int.toNat_natCast, Int.toNat_natCast, Int.toNat_natCast, hX', e2, Option.bind_some, qL_law_970, if_pos rfl, xw_i6 (by omega)]
theorem law_19 (hi : i + 5 < xL σ) (hL : xL σ ≤ 3072) (h : trOK σ iC_doubt [(2, 200), (0, xX σ (i + 1)), (0, xX σ (i + 2)), (0, xX σ (i + 3))] iM_doubt [(2, 305), (0, xX σ (i + 1)), (0, xX σ (i + 2)), (0, xX σ (i + 3))]) : lwO σ i (X iL_law 975 [(2, 1), (2, 200), (2, 305), (0, (i : Int))] [] σ) := by
  obtain ⟨v, τ, τ', e1, e2, hJ, hg1, hg2, hg3⟩ := h
  have hle := xEx_le e1
  have hX' : xX τ = xX σ := hle.2.2.2.2
  have hL' : xL τ = xL σ := hle.2.2.2.1
  have ht := X_tag (b := 0) (by decide) (by decide +kernel) e1
  obtain ⟨t, x⟩ := v
  have ht : t = 0 := ht
  subst ht
  refine ⟨τ', ?_, hJ, hg1, hg2, hg3⟩
  rw [qL_law_975, xw_i1 (by omega), if_pos (xin_of (by omega) (by omega)), xw_i2 (by omega), if_pos (xin_of (by omega) (by omega)), xw_i3 (by omega), if_pos (xin_of (by omega) (by omega)), show xisO xE1 σ 200 12 = true from rfl, cnd_t, Int.toNat_natCast, Int.toNat_natCast, Int.toNat_natCast, e1, Option.bind_some, qL_law_994, hL', xw_i1 (by omega), if_pos (xin_of (by omega) (by omega)), xw_i2 (by omega), if_pos (xin_of (by omega) (by omega)), xw_i3 (by omega), if_pos (xin_of (by omega) (by omega)), show xisO xE1 τ 305 13 = true from rfl, cnd_t, Int.toNat_natCast, Int.toNat_natCast, Int.toNat_natCast, hX', e2, Option.bind_some, qL_law_1013, if_pos rfl, xw_i6 (by omega)]
theorem law_20 (hi : i + 5 < xL σ) (hL : xL σ ≤ 3072) (h : trOK σ iC_lost [(2, 200), (0, xX σ (i + 1)), (0, xX σ (i + 2)), (0, xX σ (i + 3)), (0, xX σ (i + 4)), (9, 0)] iM_lost [(2, 305), (0, xX σ (i + 1)), (0, xX σ (i + 2)), (0, xX σ (i + 3)), (0, xX σ (i + 4)), (9, 0), (9, 0)]) : lwO σ i (X iL_law 1018 [(2, 1), (2, 200), (2, 305), (0, (i : Int))] [] σ) := by
  obtain ⟨v, τ, τ', e1, e2, hJ, hg1, hg2, hg3⟩ := h
  have hle := xEx_le e1
  have hX' : xX τ = xX σ := hle.2.2.2.2
  have hL' : xL τ = xL σ := hle.2.2.2.1
  have ht := X_tag (b := 0) (by decide) (by decide +kernel) e1
  obtain ⟨t, x⟩ := v
  have ht : t = 0 := ht
  subst ht
  refine ⟨τ', ?_, hJ, hg1, hg2, hg3⟩
  rw [qL_law_1018, xw_i1 (by omega), if_pos (xin_of (by omega) (by omega)), xw_i2 (by omega), if_pos (xin_of (by omega) (by omega)), xw_i3 (by omega), if_pos (xin_of (by omega) (by omega)), xw_i4 (by omega), if_pos (xin_of (by omega) (by omega)), show xisO xE1 σ 200 12 = true from rfl, cnd_t, Int.toNat_natCast, Int.toNat_natCast, Int.toNat_natCast, Int.toNat_natCast, e1, Option.bind_some, qL_law_1042, hL', xw_i1 (by omega), if_pos (xin_of (by omega) (by omega)), xw_i2 (by omega), if_pos (xin_of (by omega) (by omega)), xw_i3 (by omega), if_pos (xin_of (by omega) (by omega)), xw_i4 (by omega), if_pos (xin_of (by omega) (by omega)), show xisO xE1 τ 305 13 = true from rfl, cnd_t, Int.toNat_natCast, Int.toNat_natCast, Int.toNat_natCast, Int.toNat_natCast, hX', e2, Option.bind_some, qL_law_1066, if_pos rfl, xw_i6 (by omega)]
theorem law_21 (hi : i + 5 < xL σ) (hL : xL σ ≤ 3072) (h : trOK σ iC_counted [(2, 200), (0, xX σ (i + 1)), (0, xX σ (i + 2)), (0, xX σ (i + 3)), (0, xX σ (i + 4)), (9, 0)] iM_counted [(2, 305), (0, xX σ (i + 1)), (0, xX σ (i + 2)), (0, xX σ (i + 3)), (0, xX σ (i + 4))]) : lwO σ i (X iL_law 1071 [(2, 1), (2, 200), (2, 305), (0, (i : Int))] [] σ) := by
  obtain ⟨v, τ, τ', e1, e2, hJ, hg1, hg2, hg3⟩ := h
  have hle := xEx_le e1
  have hX' : xX τ = xX σ := hle.2.2.2.2
  have hL' : xL τ = xL σ := hle.2.2.2.1
  have ht := X_tag (b := 0) (by decide) (by decide +kernel) e1
  obtain ⟨t, x⟩ := v
  have ht : t = 0 := ht
  subst ht
  refine ⟨τ', ?_, hJ, hg1, hg2, hg3⟩
  rw [qL_law_1071, xw_i1 (by omega), if_pos (xin_of (by omega) (by omega)), xw_i2 (by omega), if_pos (xin_of (by omega) (by omega)), xw_i3 (by omega), if_pos (xin_of (by omega) (by omega)), xw_i4 (by omega), if_pos (xin_of (by omega) (by omega)), show xisO xE1 σ 200 12 = true from rfl, cnd_t, Int.toNat_natCast, Int.toNat_natCast, Int.toNat_natCast, Int.toNat_natCast, e1, Option.bind_some, qL_law_1095, hL', xw_i1 (by omega), if_pos (xin_of (by omega) (by omega)), xw_i2 (by omega), if_pos (xin_of (by omega) (by omega)), xw_i3 (by omega), if_pos (xin_of (by omega) (by omega)), xw_i4 (by omega), if_pos (xin_of (by omega) (by omega)), show xisO xE1 τ 305 13 = true from rfl, cnd_t, Int.toNat_natCast, Int.toNat_natCast, Int.toNat_natCast, Int.toNat_natCast, hX', e2, Option.bind_some, qL_law_1119, if_pos rfl, xw_i6 (by omega)]
theorem law_22 (hi : i + 5 < xL σ) (hL : xL σ ≤ 3072) (h : trOK σ iC_shortOf [(2, 200), (0, xX σ (i + 1)), (0, xX σ (i + 2)), (0, xX σ (i + 3)), (0, xX σ (i + 4)), (9, 0)] iM_shortOf [(2, 305), (0, xX σ (i + 1)), (0, xX σ (i + 2)), (0, xX σ (i + 3)), (0, xX σ (i + 4)), (9, 0), (9, 0)]) : lwO σ i (X iL_law 1124 [(2, 1), (2, 200), (2, 305), (0, (i : Int))] [] σ) := by
  obtain ⟨v, τ, τ', e1, e2, hJ, hg1, hg2, hg3⟩ := h
  have hle := xEx_le e1
  have hX' : xX τ = xX σ := hle.2.2.2.2
  have hL' : xL τ = xL σ := hle.2.2.2.1
  have ht := X_tag (b := 0) (by decide) (by decide +kernel) e1
  obtain ⟨t, x⟩ := v
  have ht : t = 0 := ht
  subst ht
  refine ⟨τ', ?_, hJ, hg1, hg2, hg3⟩
  rw [qL_law_1124, xw_i1 (by omega), if_pos (xin_of (by omega) (by omega)), xw_i2 (by omega), if_pos (xin_of (by omega) (by omega)), xw_i3 (by omega), if_pos (xin_of (by omega) (by omega)), xw_i4 (by omega), if_pos (xin_of (by omega) (by omega)), show xisO xE1 σ 200 12 = true from rfl, cnd_t, Int.toNat_natCast, Int.toNat_natCast, Int.toNat_natCast, Int.toNat_natCast, e1, Option.bind_some, qL_law_1148, hL', xw_i1 (by omega), if_pos (xin_of (by omega) (by omega)), xw_i2 (by omega), if_pos (xin_of (by omega) (by omega)), xw_i3 (by omega), if_pos (xin_of (by omega) (by omega)), xw_i4 (by omega), if_pos (xin_of (by omega) (by omega)), show xisO xE1 τ 305 13 = true from rfl, cnd_t, Int.toNat_natCast, Int.toNat_natCast, Int.toNat_natCast, Int.toNat_natCast, hX', e2, Option.bind_some, qL_law_1172, if_pos rfl, xw_i6 (by omega)]
theorem law_23 (hi : i + 5 < xL σ) (hL : xL σ ≤ 3072) (h : trOK σ iC_load [(2, 200), (0, xX σ (i + 1)), (0, xX σ (i + 2)), (0, xX σ (i + 3)), (0, xX σ (i + 4)), (0, xX σ (i + 5)), (9, 0), (9, 0), (9, 0)] iM_load [(2, 305), (0, xX σ (i + 1)), (0, xX σ (i + 2)), (0, xX σ (i + 3)), (0, xX σ (i + 4)), (0, xX σ (i + 5)), (9, 0), (9, 0), (9, 0), (9, 0), (9, 0)]) : lwO σ i (X iL_law 1177 [(2, 1), (2, 200), (2, 305), (0, (i : Int))] [] σ) := by
  obtain ⟨v, τ, τ', e1, e2, hJ, hg1, hg2, hg3⟩ := h
  have hle := xEx_le e1
  have hX' : xX τ = xX σ := hle.2.2.2.2
  have hL' : xL τ = xL σ := hle.2.2.2.1
  have ht := X_tag (b := 0) (by decide) (by decide +kernel) e1
  obtain ⟨t, x⟩ := v
  have ht : t = 0 := ht
  subst ht
  refine ⟨τ', ?_, hJ, hg1, hg2, hg3⟩
  rw [qL_law_1177, xw_i1 (by omega), if_pos (xin_of (by omega) (by omega)), xw_i2 (by omega), if_pos (xin_of (by omega) (by omega)), xw_i3 (by omega), if_pos (xin_of (by omega) (by omega)), xw_i4 (by omega), if_pos (xin_of (by omega) (by omega)), xw_i5 (by omega), if_pos (xin_of (by omega) (by omega)), show xisO xE1 σ 200 12 = true from rfl, cnd_t, Int.toNat_natCast, Int.toNat_natCast, Int.toNat_natCast, Int.toNat_natCast, Int.toNat_natCast, e1, Option.bind_some, qL_law_1206, hL', xw_i1 (by omega), if_pos (xin_of (by omega) (by omega)), xw_i2 (by omega), if_pos (xin_of (by omega) (by omega)), xw_i3 (by omega), if_pos (xin_of (by omega) (by omega)), xw_i4 (by omega), if_pos (xin_of (by omega) (by omega)), xw_i5 (by omega), if_pos (xin_of (by omega) (by omega)), show xisO xE1 τ 305 13 = true from rfl, cnd_t, Int.toNat_natCast, Int.toNat_natCast, Int.toNat_natCast, Int.toNat_natCast, Int.toNat_natCast, hX', e2, Option.bind_some, qL_law_1235, if_pos rfl, xw_i6 (by omega)]
theorem law_24 (hi : i + 5 < xL σ) (hL : xL σ ≤ 3072) (h : trOK σ iC_feed [(2, 200), (0, xX σ (i + 1)), (0, xX σ (i + 2)), (0, xX σ (i + 3)), (0, xX σ (i + 4)), (0, xX σ (i + 5))] iM_feed [(2, 305), (0, xX σ (i + 1)), (0, xX σ (i + 2)), (0, xX σ (i + 3)), (0, xX σ (i + 4)), (0, xX σ (i + 5)), (9, 0), (9, 0)]) : lwO σ i (X iL_law 1240 [(2, 1), (2, 200), (2, 305), (0, (i : Int))] [] σ) := by
  obtain ⟨v, τ, τ', e1, e2, hJ, hg1, hg2, hg3⟩ := h
  have hle := xEx_le e1
  have hX' : xX τ = xX σ := hle.2.2.2.2
  have hL' : xL τ = xL σ := hle.2.2.2.1
  have ht := X_tag (b := 0) (by decide) (by decide +kernel) e1
  obtain ⟨t, x⟩ := v
  have ht : t = 0 := ht
  subst ht
  refine ⟨τ', ?_, hJ, hg1, hg2, hg3⟩
  rw [qL_law_1240, xw_i1 (by omega), if_pos (xin_of (by omega) (by omega)), xw_i2 (by omega), if_pos (xin_of (by omega) (by omega)), xw_i3 (by omega), if_pos (xin_of (by omega) (by omega)), xw_i4 (by omega), if_pos (xin_of (by omega) (by omega)), xw_i5 (by omega), if_pos (xin_of (by omega) (by omega)), show xisO xE1 σ 200 12 = true from rfl, cnd_t, Int.toNat_natCast, Int.toNat_natCast, Int.toNat_natCast, Int.toNat_natCast, Int.toNat_natCast, e1, Option.bind_some, qL_law_1269, hL', xw_i1 (by omega), if_pos (xin_of (by omega) (by omega)), xw_i2 (by omega), if_pos (xin_of (by omega) (by omega)), xw_i3 (by omega), if_pos (xin_of (by omega) (by omega)), xw_i4 (by omega), if_pos (xin_of (by omega) (by omega)), xw_i5 (by omega), if_pos (xin_of (by omega) (by omega)), show xisO xE1 τ 305 13 = true from rfl, cnd_t, Int.toNat_natCast, Int.toNat_natCast, Int.toNat_natCast, Int.toNat_natCast, Int.toNat_natCast, hX', e2, Option.bind_some, qL_law_1298, if_pos rfl, xw_i6 (by omega)]
theorem law_25 (hi : i + 5 < xL σ) (hL : xL σ ≤ 3072) (h : trOK σ iC_terms [(2, 200), (0, xX σ (i + 1)), (9, 0)] iM_terms [(2, 305), (0, xX σ (i + 1)), (9, 0)]) : lwO σ i (X iL_law 1303 [(2, 1), (2, 200), (2, 305), (0, (i : Int))] [] σ) := by
  obtain ⟨v, τ, τ', e1, e2, hJ, hg1, hg2, hg3⟩ := h
  have hle := xEx_le e1
  have hX' : xX τ = xX σ := hle.2.2.2.2
  have hL' : xL τ = xL σ := hle.2.2.2.1
  have ht := X_tag (b := 0) (by decide) (by decide +kernel) e1
  obtain ⟨t, x⟩ := v
  have ht : t = 0 := ht
  subst ht
  refine ⟨τ', ?_, hJ, hg1, hg2, hg3⟩
  rw [qL_law_1303, xw_i1 (by omega), if_pos (xin_of (by omega) (by omega)), show xisO xE1 σ 200 12 = true from rfl, cnd_t, Int.toNat_natCast, e1, Option.bind_some, qL_law_1312, hL', xw_i1 (by omega), if_pos (xin_of (by omega) (by omega)), show xisO xE1 τ 305 13 = true from rfl, cnd_t, Int.toNat_natCast, hX', e2, Option.bind_some, qL_law_1321, if_pos rfl, xw_i6 (by omega)]
theorem law_26 (hi : i + 5 < xL σ) (hL : xL σ ≤ 3072) (h : trOK σ iC_fault [(2, 200)] iM_fault [(2, 305)]) : lwO σ i (X iL_law 1326 [(2, 1), (2, 200), (2, 305), (0, (i : Int))] [] σ) := by
  obtain ⟨v, τ, τ', e1, e2, hJ, hg1, hg2, hg3⟩ := h
  have hle := xEx_le e1
  have hX' : xX τ = xX σ := hle.2.2.2.2
  have hL' : xL τ = xL σ := hle.2.2.2.1
  have ht := X_tag (b := 0) (by decide) (by decide +kernel) e1
  obtain ⟨t, x⟩ := v
  have ht : t = 0 := ht
  subst ht
  refine ⟨τ', ?_, hJ, hg1, hg2, hg3⟩
  rw [qL_law_1326, show xisO xE1 σ 200 12 = true from rfl, cnd_t, e1, Option.bind_some, qL_law_1330, show xisO xE1 τ 305 13 = true from rfl, cnd_t, e2, Option.bind_some, qL_law_1334, if_pos rfl, xw_i6 (by omega)]
theorem law_27 (hi : i + 5 < xL σ) (hL : xL σ ≤ 3072) (h : trOK σ iC_written [(2, 200), (0, xX σ (i + 1)), (0, xX σ (i + 2)), (9, 0)] iM_written [(2, 305), (0, xX σ (i + 1)), (0, xX σ (i + 2)), (9, 0)]) : lwO σ i (X iL_law 1339 [(2, 1), (2, 200), (2, 305), (0, (i : Int))] [] σ) := by
  obtain ⟨v, τ, τ', e1, e2, hJ, hg1, hg2, hg3⟩ := h
  have hle := xEx_le e1
  have hX' : xX τ = xX σ := hle.2.2.2.2
  have hL' : xL τ = xL σ := hle.2.2.2.1
  have ht := X_tag (b := 0) (by decide) (by decide +kernel) e1
  obtain ⟨t, x⟩ := v
  have ht : t = 0 := ht
  subst ht
  refine ⟨τ', ?_, hJ, hg1, hg2, hg3⟩
  rw [qL_law_1339, xw_i1 (by omega), if_pos (xin_of (by omega) (by omega)), xw_i2 (by omega), if_pos (xin_of (by omega) (by omega)), show xisO xE1 σ 200 12 = true from rfl, cnd_t, Int.toNat_natCast, Int.toNat_natCast, e1, Option.bind_some, qL_law_1353, hL', xw_i1 (by omega), if_pos (xin_of (by omega) (by omega)), xw_i2 (by omega), if_pos (xin_of (by omega) (by omega)), show xisO xE1 τ 305 13 = true from rfl, cnd_t, Int.toNat_natCast, Int.toNat_natCast, hX', e2, Option.bind_some, qL_law_1367, if_pos rfl, xw_i6 (by omega)]
theorem law_28 (hi : i + 5 < xL σ) (hL : xL σ ≤ 3072) (h : trOK σ iC_value [(2, 200), (0, xX σ (i + 1)), (0, xX σ (i + 2))] iM_value [(2, 305), (0, xX σ (i + 1)), (0, xX σ (i + 2)), (9, 0), (9, 0), (9, 0)]) : lwO σ i (X iL_law 1372 [(2, 1), (2, 200), (2, 305), (0, (i : Int))] [] σ) := by
  obtain ⟨v, τ, τ', e1, e2, hJ, hg1, hg2, hg3⟩ := h
  have hle := xEx_le e1
  have hX' : xX τ = xX σ := hle.2.2.2.2
  have hL' : xL τ = xL σ := hle.2.2.2.1
  have ht := X_tag (b := 1) (by decide) (by decide +kernel) e1
  obtain ⟨t, x⟩ := v
  have ht : t = 1 := ht
  subst ht
  refine ⟨τ', ?_, hJ, hg1, hg2, hg3⟩
  rw [qL_law_1372, xw_i1 (by omega), if_pos (xin_of (by omega) (by omega)), xw_i2 (by omega), if_pos (xin_of (by omega) (by omega)), show xisO xE1 σ 200 12 = true from rfl, cnd_t, Int.toNat_natCast, Int.toNat_natCast, e1, Option.bind_some, qL_law_1386, hL', xw_i1 (by omega), if_pos (xin_of (by omega) (by omega)), xw_i2 (by omega), if_pos (xin_of (by omega) (by omega)), show xisO xE1 τ 305 13 = true from rfl, cnd_t, Int.toNat_natCast, Int.toNat_natCast, hX', e2, Option.bind_some, qL_law_1400, if_pos rfl, xw_i6 (by omega)]
theorem law_29 (hi : i + 5 < xL σ) (hL : xL σ ≤ 3072) (h : trOK σ iC_price [(2, 200), (0, xX σ (i + 1)), (0, xX σ (i + 2)), (9, 0)] iM_price [(2, 305), (0, xX σ (i + 1)), (0, xX σ (i + 2))]) : lwO σ i (X iL_law 1406 [(2, 1), (2, 200), (2, 305), (0, (i : Int))] [] σ) := by
  obtain ⟨v, τ, τ', e1, e2, hJ, hg1, hg2, hg3⟩ := h
  have hle := xEx_le e1
  have hX' : xX τ = xX σ := hle.2.2.2.2
  have hL' : xL τ = xL σ := hle.2.2.2.1
  have ht := X_tag (b := 1) (by decide) (by decide +kernel) e1
  obtain ⟨t, x⟩ := v
  have ht : t = 1 := ht
  subst ht
  refine ⟨τ', ?_, hJ, hg1, hg2, hg3⟩
  rw [qL_law_1406, xw_i1 (by omega), if_pos (xin_of (by omega) (by omega)), xw_i2 (by omega), if_pos (xin_of (by omega) (by omega)), show xisO xE1 σ 200 12 = true from rfl, cnd_t, Int.toNat_natCast, Int.toNat_natCast, e1, Option.bind_some, qL_law_1420, hL', xw_i1 (by omega), if_pos (xin_of (by omega) (by omega)), xw_i2 (by omega), if_pos (xin_of (by omega) (by omega)), show xisO xE1 τ 305 13 = true from rfl, cnd_t, Int.toNat_natCast, Int.toNat_natCast, hX', e2, Option.bind_some, qL_law_1434, if_pos rfl, xw_i6 (by omega)]
theorem law_30 (hi : i + 5 < xL σ) (hL : xL σ ≤ 3072) (h : trOK σ iC_bill [(2, 200), (0, xX σ (i + 1)), (0, xX σ (i + 2)), (0, xX σ (i + 3)), (0, xX σ (i + 4)), (9, 0)] iM_bill [(2, 305), (0, xX σ (i + 1)), (0, xX σ (i + 2)), (0, xX σ (i + 3)), (0, xX σ (i + 4)), (9, 0), (9, 0), (9, 0)]) : lwO σ i (X iL_law 1440 [(2, 1), (2, 200), (2, 305), (0, (i : Int))] [] σ) := by
  obtain ⟨v, τ, τ', e1, e2, hJ, hg1, hg2, hg3⟩ := h
  have hle := xEx_le e1
  have hX' : xX τ = xX σ := hle.2.2.2.2
  have hL' : xL τ = xL σ := hle.2.2.2.1
  have ht := X_tag (b := 1) (by decide) (by decide +kernel) e1
  obtain ⟨t, x⟩ := v
  have ht : t = 1 := ht
  subst ht
  refine ⟨τ', ?_, hJ, hg1, hg2, hg3⟩
  rw [qL_law_1440, xw_i1 (by omega), if_pos (xin_of (by omega) (by omega)), xw_i2 (by omega), if_pos (xin_of (by omega) (by omega)), xw_i3 (by omega), if_pos (xin_of (by omega) (by omega)), xw_i4 (by omega), if_pos (xin_of (by omega) (by omega)), show xisO xE1 σ 200 12 = true from rfl, cnd_t, Int.toNat_natCast, Int.toNat_natCast, Int.toNat_natCast, Int.toNat_natCast, e1, Option.bind_some, qL_law_1464, hL', xw_i1 (by omega), if_pos (xin_of (by omega) (by omega)), xw_i2 (by omega), if_pos (xin_of (by omega) (by omega)), xw_i3 (by omega), if_pos (xin_of (by omega) (by omega)), xw_i4 (by omega), if_pos (xin_of (by omega) (by omega)), show xisO xE1 τ 305 13 = true from rfl, cnd_t, Int.toNat_natCast, Int.toNat_natCast, Int.toNat_natCast, Int.toNat_natCast, hX', e2, Option.bind_some, qL_law_1488, if_pos rfl, xw_i6 (by omega)]
theorem law_31 (hi : i + 5 < xL σ) (hL : xL σ ≤ 3072) (h : trOK σ iC_part [(2, 200), (0, xX σ (i + 1)), (0, xX σ (i + 2)), (0, xX σ (i + 3)), (0, xX σ (i + 4)), (9, 0)] iM_part [(2, 305), (0, xX σ (i + 1)), (0, xX σ (i + 2)), (0, xX σ (i + 3)), (0, xX σ (i + 4)), (9, 0), (9, 0), (9, 0)]) : lwO σ i (X iL_law 1494 [(2, 1), (2, 200), (2, 305), (0, (i : Int))] [] σ) := by
  obtain ⟨v, τ, τ', e1, e2, hJ, hg1, hg2, hg3⟩ := h
  have hle := xEx_le e1
  have hX' : xX τ = xX σ := hle.2.2.2.2
  have hL' : xL τ = xL σ := hle.2.2.2.1
  have ht := X_tag (b := 1) (by decide) (by decide +kernel) e1
  obtain ⟨t, x⟩ := v
  have ht : t = 1 := ht
  subst ht
  refine ⟨τ', ?_, hJ, hg1, hg2, hg3⟩
  rw [qL_law_1494, xw_i1 (by omega), if_pos (xin_of (by omega) (by omega)), xw_i2 (by omega), if_pos (xin_of (by omega) (by omega)), xw_i3 (by omega), if_pos (xin_of (by omega) (by omega)), xw_i4 (by omega), if_pos (xin_of (by omega) (by omega)), show xisO xE1 σ 200 12 = true from rfl, cnd_t, Int.toNat_natCast, Int.toNat_natCast, Int.toNat_natCast, Int.toNat_natCast, e1, Option.bind_some, qL_law_1518, hL', xw_i1 (by omega), if_pos (xin_of (by omega) (by omega)), xw_i2 (by omega), if_pos (xin_of (by omega) (by omega)), xw_i3 (by omega), if_pos (xin_of (by omega) (by omega)), xw_i4 (by omega), if_pos (xin_of (by omega) (by omega)), show xisO xE1 τ 305 13 = true from rfl, cnd_t, Int.toNat_natCast, Int.toNat_natCast, Int.toNat_natCast, Int.toNat_natCast, hX', e2, Option.bind_some, qL_law_1542, if_pos rfl, xw_i6 (by omega)]
theorem law_32 (hi : i + 5 < xL σ) (hL : xL σ ≤ 3072) (h : trOK σ iC_due [(2, 200), (0, xX σ (i + 1))] iM_due [(2, 305), (0, xX σ (i + 1)), (9, 0), (9, 0), (9, 0), (9, 0)]) : lwO σ i (X iL_law 1548 [(2, 1), (2, 200), (2, 305), (0, (i : Int))] [] σ) := by
  obtain ⟨v, τ, τ', e1, e2, hJ, hg1, hg2, hg3⟩ := h
  have hle := xEx_le e1
  have hX' : xX τ = xX σ := hle.2.2.2.2
  have hL' : xL τ = xL σ := hle.2.2.2.1
  have ht := X_tag (b := 0) (by decide) (by decide +kernel) e1
  obtain ⟨t, x⟩ := v
  have ht : t = 0 := ht
  subst ht
  refine ⟨τ', ?_, hJ, hg1, hg2, hg3⟩
  rw [qL_law_1548, xw_i1 (by omega), if_pos (xin_of (by omega) (by omega)), show xisO xE1 σ 200 12 = true from rfl, cnd_t, Int.toNat_natCast, e1, Option.bind_some, qL_law_1557, hL', xw_i1 (by omega), if_pos (xin_of (by omega) (by omega)), show xisO xE1 τ 305 13 = true from rfl, cnd_t, Int.toNat_natCast, hX', e2, Option.bind_some, qL_law_1566, if_pos rfl, xw_i6 (by omega)]
theorem law_33 (hi : i + 5 < xL σ) (hL : xL σ ≤ 3072) (h : trOK σ iC_want [(2, 200), (0, xX σ (i + 1)), (0, xX σ (i + 2)), (0, xX σ (i + 3)), (0, xX σ (i + 4))] iM_want [(2, 305), (0, xX σ (i + 1)), (0, xX σ (i + 2)), (0, xX σ (i + 3)), (0, xX σ (i + 4))]) : lwO σ i (X iL_law 1571 [(2, 1), (2, 200), (2, 305), (0, (i : Int))] [] σ) := by
  obtain ⟨v, τ, τ', e1, e2, hJ, hg1, hg2, hg3⟩ := h
  have hle := xEx_le e1
  have hX' : xX τ = xX σ := hle.2.2.2.2
  have hL' : xL τ = xL σ := hle.2.2.2.1
  have ht := X_tag (b := 4) (by decide) (by decide +kernel) e1
  obtain ⟨t, x⟩ := v
  have ht : t = 0 := ht
  subst ht
  refine ⟨τ', ?_, hJ, hg1, hg2, hg3⟩
  rw [qL_law_1571, xw_i1 (by omega), if_pos (xin_of (by omega) (by omega)), xw_i2 (by omega), if_pos (xin_of (by omega) (by omega)), xw_i3 (by omega), if_pos (xin_of (by omega) (by omega)), xw_i4 (by omega), if_pos (xin_of (by omega) (by omega)), show xisO xE1 σ 200 12 = true from rfl, cnd_t, Int.toNat_natCast, Int.toNat_natCast, Int.toNat_natCast, Int.toNat_natCast, e1, Option.bind_some, qL_law_1595, hL', xw_i1 (by omega), if_pos (xin_of (by omega) (by omega)), xw_i2 (by omega), if_pos (xin_of (by omega) (by omega)), xw_i3 (by omega), if_pos (xin_of (by omega) (by omega)), xw_i4 (by omega), if_pos (xin_of (by omega) (by omega)), show xisO xE1 τ 305 13 = true from rfl, cnd_t, Int.toNat_natCast, Int.toNat_natCast, Int.toNat_natCast, Int.toNat_natCast, hX', e2, Option.bind_some, qL_law_1619, if_pos rfl, xw_i6 (by omega)]
theorem law_34 (hi : i + 5 < xL σ) (hL : xL σ ≤ 3072) (h : trOK σ iC_wanted [(2, 200), (0, xX σ (i + 1)), (0, xX σ (i + 2))] iM_wanted [(2, 305), (0, xX σ (i + 1)), (0, xX σ (i + 2))]) : lwO σ i (X iL_law 1624 [(2, 1), (2, 200), (2, 305), (0, (i : Int))] [] σ) := by
  obtain ⟨v, τ, τ', e1, e2, hJ, hg1, hg2, hg3⟩ := h
  have hle := xEx_le e1
  have hX' : xX τ = xX σ := hle.2.2.2.2
  have hL' : xL τ = xL σ := hle.2.2.2.1
  have ht := X_tag (b := 0) (by decide) (by decide +kernel) e1
  obtain ⟨t, x⟩ := v
  have ht : t = 0 := ht
  subst ht
  refine ⟨τ', ?_, hJ, hg1, hg2, hg3⟩
  rw [qL_law_1624, xw_i1 (by omega), if_pos (xin_of (by omega) (by omega)), xw_i2 (by omega), if_pos (xin_of (by omega) (by omega)), show xisO xE1 σ 200 12 = true from rfl, cnd_t, Int.toNat_natCast, Int.toNat_natCast, e1, Option.bind_some, qL_law_1638, hL', xw_i1 (by omega), if_pos (xin_of (by omega) (by omega)), xw_i2 (by omega), if_pos (xin_of (by omega) (by omega)), show xisO xE1 τ 305 13 = true from rfl, cnd_t, Int.toNat_natCast, Int.toNat_natCast, hX', e2, Option.bind_some, qL_law_1652, if_pos rfl, xw_i6 (by omega)]
theorem law_35 (hi : i + 5 < xL σ) (hL : xL σ ≤ 3072) (h : trOK σ iC_washer [(2, 200), (0, xX σ (i + 1)), (0, xX σ (i + 2)), (0, xX σ (i + 3)), (9, 0)] iM_washer [(2, 305), (0, xX σ (i + 1)), (0, xX σ (i + 2)), (0, xX σ (i + 3))]) : lwO σ i (X iL_law 1657 [(2, 1), (2, 200), (2, 305), (0, (i : Int))] [] σ) := by
  obtain ⟨v, τ, τ', e1, e2, hJ, hg1, hg2, hg3⟩ := h
  have hle := xEx_le e1
  have hX' : xX τ = xX σ := hle.2.2.2.2
  have hL' : xL τ = xL σ := hle.2.2.2.1
  have ht := X_tag (b := 0) (by decide) (by decide +kernel) e1
  obtain ⟨t, x⟩ := v
  have ht : t = 0 := ht
  subst ht
  refine ⟨τ', ?_, hJ, hg1, hg2, hg3⟩
  rw [qL_law_1657, xw_i1 (by omega), if_pos (xin_of (by omega) (by omega)), xw_i2 (by omega), if_pos (xin_of (by omega) (by omega)), xw_i3 (by omega), if_pos (xin_of (by omega) (by omega)), show xisO xE1 σ 200 12 = true from rfl, cnd_t, Int.toNat_natCast, Int.toNat_natCast, Int.toNat_natCast, e1, Option.bind_some, qL_law_1676, hL', xw_i1 (by omega), if_pos (xin_of (by omega) (by omega)), xw_i2 (by omega), if_pos (xin_of (by omega) (by omega)), xw_i3 (by omega), if_pos (xin_of (by omega) (by omega)), show xisO xE1 τ 305 13 = true from rfl, cnd_t, Int.toNat_natCast, Int.toNat_natCast, Int.toNat_natCast, hX', e2, Option.bind_some, qL_law_1695, if_pos rfl, xw_i6 (by omega)]
theorem law_36 (hi : i + 5 < xL σ) (hL : xL σ ≤ 3072) (h : trOK σ iC_dryers [(2, 200), (0, xX σ (i + 1))] iM_dryers [(2, 305), (0, xX σ (i + 1))]) : lwO σ i (X iL_law 1700 [(2, 1), (2, 200), (2, 305), (0, (i : Int))] [] σ) := by
  obtain ⟨v, τ, τ', e1, e2, hJ, hg1, hg2, hg3⟩ := h
  have hle := xEx_le e1
  have hX' : xX τ = xX σ := hle.2.2.2.2
  have hL' : xL τ = xL σ := hle.2.2.2.1
  have ht := X_tag (b := 4) (by decide) (by decide +kernel) e1
  obtain ⟨t, x⟩ := v
  have ht : t = 0 := ht
  subst ht
  refine ⟨τ', ?_, hJ, hg1, hg2, hg3⟩
  rw [qL_law_1700, xw_i1 (by omega), if_pos (xin_of (by omega) (by omega)), show xisO xE1 σ 200 12 = true from rfl, cnd_t, Int.toNat_natCast, e1, Option.bind_some, qL_law_1709, hL', xw_i1 (by omega), if_pos (xin_of (by omega) (by omega)), show xisO xE1 τ 305 13 = true from rfl, cnd_t, Int.toNat_natCast, hX', e2, Option.bind_some, qL_law_1718, if_pos rfl, xw_i6 (by omega)]
theorem law_37 (hi : i + 5 < xL σ) (hL : xL σ ≤ 3072) (h : trOK σ iC_job [(2, 200), (0, xX σ (i + 1)), (0, xX σ (i + 2)), (0, xX σ (i + 3)), (9, 0)] iM_job [(2, 305), (0, xX σ (i + 1)), (0, xX σ (i + 2)), (0, xX σ (i + 3))]) : lwO σ i (X iL_law 1723 [(2, 1), (2, 200), (2, 305), (0, (i : Int))] [] σ) := by
  obtain ⟨v, τ, τ', e1, e2, hJ, hg1, hg2, hg3⟩ := h
  have hle := xEx_le e1
  have hX' : xX τ = xX σ := hle.2.2.2.2
  have hL' : xL τ = xL σ := hle.2.2.2.1
  have ht := X_tag (b := 0) (by decide) (by decide +kernel) e1
  obtain ⟨t, x⟩ := v
  have ht : t = 0 := ht
  subst ht
  refine ⟨τ', ?_, hJ, hg1, hg2, hg3⟩
  rw [qL_law_1723, xw_i1 (by omega), if_pos (xin_of (by omega) (by omega)), xw_i2 (by omega), if_pos (xin_of (by omega) (by omega)), xw_i3 (by omega), if_pos (xin_of (by omega) (by omega)), show xisO xE1 σ 200 12 = true from rfl, cnd_t, Int.toNat_natCast, Int.toNat_natCast, Int.toNat_natCast, e1, Option.bind_some, qL_law_1742, hL', xw_i1 (by omega), if_pos (xin_of (by omega) (by omega)), xw_i2 (by omega), if_pos (xin_of (by omega) (by omega)), xw_i3 (by omega), if_pos (xin_of (by omega) (by omega)), show xisO xE1 τ 305 13 = true from rfl, cnd_t, Int.toNat_natCast, Int.toNat_natCast, Int.toNat_natCast, hX', e2, Option.bind_some, qL_law_1761, if_pos rfl, xw_i6 (by omega)]
theorem law_38 (hi : i + 5 < xL σ) (hL : xL σ ≤ 3072) (h : trOK σ iC_clear [(2, 200), (9, 0)] iM_clear [(2, 305), (9, 0)]) : lwO σ i (X iL_law 1766 [(2, 1), (2, 200), (2, 305), (0, (i : Int))] [] σ) := by
  obtain ⟨v, τ, τ', e1, e2, hJ, hg1, hg2, hg3⟩ := h
  have hle := xEx_le e1
  have hX' : xX τ = xX σ := hle.2.2.2.2
  have hL' : xL τ = xL σ := hle.2.2.2.1
  have ht := X_tag (b := 0) (by decide) (by decide +kernel) e1
  obtain ⟨t, x⟩ := v
  have ht : t = 0 := ht
  subst ht
  refine ⟨τ', ?_, hJ, hg1, hg2, hg3⟩
  rw [qL_law_1766, show xisO xE1 σ 200 12 = true from rfl, cnd_t, e1, Option.bind_some, qL_law_1770, show xisO xE1 τ 305 13 = true from rfl, cnd_t, e2, Option.bind_some, qL_law_1774, if_pos rfl, xw_i6 (by omega)]
theorem law_39 (hi : i + 5 < xL σ) (hL : xL σ ≤ 3072) (h : trOK σ iC_night [(2, 200), (0, xX σ (i + 1)), (9, 0), (9, 0)] iM_night [(2, 305), (0, xX σ (i + 1)), (9, 0), (9, 0), (9, 0)]) : lwO σ i (X iL_law 1779 [(2, 1), (2, 200), (2, 305), (0, (i : Int))] [] σ) := by
  obtain ⟨v, τ, τ', e1, e2, hJ, hg1, hg2, hg3⟩ := h
  have hle := xEx_le e1
  have hX' : xX τ = xX σ := hle.2.2.2.2
  have hL' : xL τ = xL σ := hle.2.2.2.1
  have ht := X_tag (b := 0) (by decide) (by decide +kernel) e1
  obtain ⟨t, x⟩ := v
  have ht : t = 0 := ht
  subst ht
  refine ⟨τ', ?_, hJ, hg1, hg2, hg3⟩
  rw [qL_law_1779, xw_i1 (by omega), if_pos (xin_of (by omega) (by omega)), show xisO xE1 σ 200 12 = true from rfl, cnd_t, Int.toNat_natCast, e1, Option.bind_some, qL_law_1788, hL', xw_i1 (by omega), if_pos (xin_of (by omega) (by omega)), show xisO xE1 τ 305 13 = true from rfl, cnd_t, Int.toNat_natCast, hX', e2, Option.bind_some, qL_law_1797, if_pos rfl, xw_i6 (by omega)]
theorem law_40 (hi : i + 5 < xL σ) (hL : xL σ ≤ 3072) (h : trOK σ iC_round [(2, 200), (0, xX σ (i + 1)), (0, xX σ (i + 2)), (0, xX σ (i + 3)), (9, 0)] iM_round [(2, 305), (0, xX σ (i + 1)), (0, xX σ (i + 2)), (0, xX σ (i + 3)), (9, 0), (9, 0), (9, 0), (9, 0), (9, 0), (9, 0), (9, 0), (9, 0), (9, 0)]) : lwO σ i (X iL_law 1802 [(2, 1), (2, 200), (2, 305), (0, (i : Int))] [] σ) := by
  obtain ⟨v, τ, τ', e1, e2, hJ, hg1, hg2, hg3⟩ := h
  have hle := xEx_le e1
  have hX' : xX τ = xX σ := hle.2.2.2.2
  have hL' : xL τ = xL σ := hle.2.2.2.1
  have ht := X_tag (b := 0) (by decide) (by decide +kernel) e1
  obtain ⟨t, x⟩ := v
  have ht : t = 0 := ht
  subst ht
  refine ⟨τ', ?_, hJ, hg1, hg2, hg3⟩
  rw [qL_law_1802, xw_i1 (by omega), if_pos (xin_of (by omega) (by omega)), xw_i2 (by omega), if_pos (xin_of (by omega) (by omega)), xw_i3 (by omega), if_pos (xin_of (by omega) (by omega)), show xisO xE1 σ 200 12 = true from rfl, cnd_t, Int.toNat_natCast, Int.toNat_natCast, Int.toNat_natCast, e1, Option.bind_some, qL_law_1821, hL', xw_i1 (by omega), if_pos (xin_of (by omega) (by omega)), xw_i2 (by omega), if_pos (xin_of (by omega) (by omega)), xw_i3 (by omega), if_pos (xin_of (by omega) (by omega)), show xisO xE1 τ 305 13 = true from rfl, cnd_t, Int.toNat_natCast, Int.toNat_natCast, Int.toNat_natCast, hX', e2, Option.bind_some, qL_law_1840, if_pos rfl, xw_i6 (by omega)]
theorem law_41 (hi : i + 5 < xL σ) (hL : xL σ ≤ 3072) (h : trOK σ iC_supply [(2, 200), (0, xX σ (i + 1)), (0, xX σ (i + 2)), (0, xX σ (i + 3)), (0, xX σ (i + 4))] iM_supply [(2, 305), (0, xX σ (i + 1)), (0, xX σ (i + 2)), (0, xX σ (i + 3)), (0, xX σ (i + 4))]) : lwO σ i (X iL_law 1845 [(2, 1), (2, 200), (2, 305), (0, (i : Int))] [] σ) := by
  obtain ⟨v, τ, τ', e1, e2, hJ, hg1, hg2, hg3⟩ := h
  have hle := xEx_le e1
  have hX' : xX τ = xX σ := hle.2.2.2.2
  have hL' : xL τ = xL σ := hle.2.2.2.1
  have ht := X_tag (b := 4) (by decide) (by decide +kernel) e1
  obtain ⟨t, x⟩ := v
  have ht : t = 0 := ht
  subst ht
  refine ⟨τ', ?_, hJ, hg1, hg2, hg3⟩
  rw [qL_law_1845, xw_i1 (by omega), if_pos (xin_of (by omega) (by omega)), xw_i2 (by omega), if_pos (xin_of (by omega) (by omega)), xw_i3 (by omega), if_pos (xin_of (by omega) (by omega)), xw_i4 (by omega), if_pos (xin_of (by omega) (by omega)), show xisO xE1 σ 200 12 = true from rfl, cnd_t, Int.toNat_natCast, Int.toNat_natCast, Int.toNat_natCast, Int.toNat_natCast, e1, Option.bind_some, qL_law_1869, hL', xw_i1 (by omega), if_pos (xin_of (by omega) (by omega)), xw_i2 (by omega), if_pos (xin_of (by omega) (by omega)), xw_i3 (by omega), if_pos (xin_of (by omega) (by omega)), xw_i4 (by omega), if_pos (xin_of (by omega) (by omega)), show xisO xE1 τ 305 13 = true from rfl, cnd_t, Int.toNat_natCast, Int.toNat_natCast, Int.toNat_natCast, Int.toNat_natCast, hX', e2, Option.bind_some, qL_law_1893, if_pos rfl, xw_i6 (by omega)]
theorem law_42 (hi : i + 5 < xL σ) (hL : xL σ ≤ 3072) (h : trOK σ iC_buy [(2, 200), (0, xX σ (i + 1)), (0, xX σ (i + 2)), (0, xX σ (i + 3)), (9, 0)] iM_buy [(2, 305), (0, xX σ (i + 1)), (0, xX σ (i + 2)), (0, xX σ (i + 3)), (9, 0), (9, 0), (9, 0), (9, 0), (9, 0), (9, 0), (9, 0), (9, 0)]) : lwO σ i (X iL_law 1898 [(2, 1), (2, 200), (2, 305), (0, (i : Int))] [] σ) := by
  obtain ⟨v, τ, τ', e1, e2, hJ, hg1, hg2, hg3⟩ := h
  have hle := xEx_le e1
  have hX' : xX τ = xX σ := hle.2.2.2.2
  have hL' : xL τ = xL σ := hle.2.2.2.1
  have ht := X_tag (b := 0) (by decide) (by decide +kernel) e1
  obtain ⟨t, x⟩ := v
  have ht : t = 0 := ht
  subst ht
  refine ⟨τ', ?_, hJ, hg1, hg2, hg3⟩
  rw [qL_law_1898, xw_i1 (by omega), if_pos (xin_of (by omega) (by omega)), xw_i2 (by omega), if_pos (xin_of (by omega) (by omega)), xw_i3 (by omega), if_pos (xin_of (by omega) (by omega)), show xisO xE1 σ 200 12 = true from rfl, cnd_t, Int.toNat_natCast, Int.toNat_natCast, Int.toNat_natCast, e1, Option.bind_some, qL_law_1917, hL', xw_i1 (by omega), if_pos (xin_of (by omega) (by omega)), xw_i2 (by omega), if_pos (xin_of (by omega) (by omega)), xw_i3 (by omega), if_pos (xin_of (by omega) (by omega)), show xisO xE1 τ 305 13 = true from rfl, cnd_t, Int.toNat_natCast, Int.toNat_natCast, Int.toNat_natCast, hX', e2, Option.bind_some, qL_law_1936, if_pos rfl, xw_i6 (by omega)]
theorem law_43 (hi : i + 5 < xL σ) (hL : xL σ ≤ 3072) (h : trOK σ iC_told [(2, 200), (0, xX σ (i + 1)), (0, xX σ (i + 2))] iM_told [(2, 305), (0, xX σ (i + 1)), (0, xX σ (i + 2)), (9, 0), (9, 0)]) : lwO σ i (X iL_law 1941 [(2, 1), (2, 200), (2, 305), (0, (i : Int))] [] σ) := by
  obtain ⟨v, τ, τ', e1, e2, hJ, hg1, hg2, hg3⟩ := h
  have hle := xEx_le e1
  have hX' : xX τ = xX σ := hle.2.2.2.2
  have hL' : xL τ = xL σ := hle.2.2.2.1
  have ht := X_tag (b := 0) (by decide) (by decide +kernel) e1
  obtain ⟨t, x⟩ := v
  have ht : t = 0 := ht
  subst ht
  refine ⟨τ', ?_, hJ, hg1, hg2, hg3⟩
  rw [qL_law_1941, xw_i1 (by omega), if_pos (xin_of (by omega) (by omega)), xw_i2 (by omega), if_pos (xin_of (by omega) (by omega)), show xisO xE1 σ 200 12 = true from rfl, cnd_t, Int.toNat_natCast, Int.toNat_natCast, e1, Option.bind_some, qL_law_1955, hL', xw_i1 (by omega), if_pos (xin_of (by omega) (by omega)), xw_i2 (by omega), if_pos (xin_of (by omega) (by omega)), show xisO xE1 τ 305 13 = true from rfl, cnd_t, Int.toNat_natCast, Int.toNat_natCast, hX', e2, Option.bind_some, qL_law_1969, if_pos rfl, xw_i6 (by omega)]
theorem law_44 (hi : i + 5 < xL σ) (hL : xL σ ≤ 3072) (h : trOK σ iC_count [(2, 200), (0, xX σ (i + 1))] iM_count [(2, 305), (0, xX σ (i + 1))]) : lwO σ i (X iL_law 1974 [(2, 1), (2, 200), (2, 305), (0, (i : Int))] [] σ) := by
  obtain ⟨v, τ, τ', e1, e2, hJ, hg1, hg2, hg3⟩ := h
  have hle := xEx_le e1
  have hX' : xX τ = xX σ := hle.2.2.2.2
  have hL' : xL τ = xL σ := hle.2.2.2.1
  have ht := X_tag (b := 0) (by decide) (by decide +kernel) e1
  obtain ⟨t, x⟩ := v
  have ht : t = 0 := ht
  subst ht
  refine ⟨τ', ?_, hJ, hg1, hg2, hg3⟩
  rw [qL_law_1974, xw_i1 (by omega), if_pos (xin_of (by omega) (by omega)), show xisO xE1 σ 200 12 = true from rfl, cnd_t, Int.toNat_natCast, e1, Option.bind_some, qL_law_1983, hL', xw_i1 (by omega), if_pos (xin_of (by omega) (by omega)), show xisO xE1 τ 305 13 = true from rfl, cnd_t, Int.toNat_natCast, hX', e2, Option.bind_some, qL_law_1992, if_pos rfl, xw_i6 (by omega)]
set_option maxHeartbeats 4000000 in
/-- the loop: it answers 1 -/
theorem LAW (hL : xL σ ≤ 3072) (hX : ∀ j, -2147483648 ≤ xX σ j ∧ xX σ j < 2147483648) (hdp : 1210 ≤ xdp σ) (hJ : JJ σ) : ∀ (fu : Nat), xL σ ≤ i + 6 * fu + 5 → i ≤ 3072 → ∃ τ, X iL_law 18 [(2, 1), (2, 200), (2, 305), (0, (i : Int))] [] σ = some ((0, 1), τ) ∧ (∃ L, τ.2.1 = σ.2.1 ++ L ∧ L.length ≤ 600 * fu) ∧ τ.2.2.1 ≤ σ.2.2.1 + 12000 * fu := by
  intro fu
  induction fu generalizing σ i with
  | zero =>
    intro h1 h2
    refine ⟨σ, ?_, ⟨[], (List.append_nil _).symm, Nat.zero_le _⟩, Nat.le_add_right _ _⟩
    rw [qL_law_18, xw_id (by omega) (by omega), if_pos (by omega)]
  | succ fu ih =>
    intro h1 h2
    have hq := qL_law_18 200 305 (i : Int) σ
    rw [xw_id (by omega) (by omega)] at hq
    by_cases hs : ((xL σ : Nat) : Int) - 6 < (i : Int)
    · refine ⟨σ, ?_, ⟨[], (List.append_nil _).symm, Nat.zero_le _⟩, Nat.le_add_right _ _⟩
      rw [hq, if_pos hs]
    have hi : i + 5 < xL σ := by omega
    rw [if_neg hs, if_pos (xin_of (by omega) (by omega)), Int.toNat_natCast] at hq
    have fin : ∀ a, lwO σ i a → X iL_law 18 [(2, 1), (2, 200), (2, 305), (0, (i : Int))] [] σ = a → ∃ τ, X iL_law 18 [(2, 1), (2, 200), (2, 305), (0, (i : Int))] [] σ = some ((0, 1), τ) ∧ (∃ L, τ.2.1 = σ.2.1 ++ L ∧ L.length ≤ 600 * (fu + 1)) ∧ τ.2.2.1 ≤ σ.2.2.1 + 12000 * (fu + 1) := fun a ha e => by
      obtain ⟨τ', e1, e2, ⟨L1, e3, e4⟩, e5, e6⟩ := ha
      have eL : xL τ' = xL σ := congrArg (fun z => z.2.1) e6
      have eX : xX τ' = xX σ := congrArg (fun z => z.2.2) e6
      have eD : xdp τ' = xdp σ := congrArg (fun z => z.1) e6
      obtain ⟨τ, k1, ⟨L2, k2, k3⟩, k4⟩ := ih (σ := τ') (i := i + 6) (by rw [eL]; exact hL) (by rw [eX]; exact hX) (by rw [eD]; exact hdp) e2 (by rw [eL]; omega) (by omega)
      exact ⟨τ, by rw [e, e1, k1], ⟨L1 ++ L2, by rw [k2, e3, List.append_assoc], by rw [List.length_append]; omega⟩, by omega⟩
    by_cases c0 : xiand (xX σ i) 63 = 0
    · rw [if_pos c0] at hq
      exact fin _ (law_0 hi hL (st_tw hJ (st_sort hJ.1 (xX σ (i + 1)) (xX σ (i + 2)) (xX σ (i + 3)) (xX σ (i + 4)) (xX σ (i + 5))))) hq
    rw [if_neg c0] at hq
    by_cases c1 : xiand (xX σ i) 63 = 1
    · rw [if_pos c1] at hq
      exact fin _ (law_1 hi hL (st_tw hJ (st_house hJ.1 (xX σ (i + 1)) (xX σ (i + 2)) (xX σ (i + 3)) (xX σ (i + 4))))) hq
    rw [if_neg c1] at hq
    by_cases c2 : xiand (xX σ i) 63 = 2
    · rw [if_pos c2] at hq
      exact fin _ (law_2 hi hL (st_tw hJ (st_sheet hJ.1 (xX σ (i + 1)) (xX σ (i + 2))))) hq
    rw [if_neg c2] at hq
    by_cases c3 : xiand (xX σ i) 63 = 3
    · rw [if_pos c3] at hq
      exact fin _ (law_3 hi hL (st_tw hJ (st_day hJ.1 (xX σ (i + 1))))) hq
    rw [if_neg c3] at hq
    by_cases c4 : xiand (xX σ i) 63 = 4
    · rw [if_pos c4] at hq
      exact fin _ (law_4 hi hL (st_tw hJ (st_move hJ.1 (xX σ (i + 1)) (xX σ (i + 2)) (xX σ (i + 3)) (hX (i + 3))))) hq
    rw [if_neg c4] at hq
    by_cases c5 : xiand (xX σ i) 63 = 5
    · rw [if_pos c5] at hq
      exact fin _ (law_5 hi hL (st_tw hJ (st_undo hJ.1 (xX σ (i + 1))))) hq
    rw [if_neg c5] at hq
    by_cases c6 : xiand (xX σ i) 63 = 6
    · rw [if_pos c6] at hq
      exact fin _ (law_6 hi hL (rd_tr hJ (rd_where hJ.1 (xX σ (i + 1)) (xX σ (i + 2)) (xX σ (i + 3))))) hq
    rw [if_neg c6] at hq
    by_cases c7 : xiand (xX σ i) 63 = 7
    · rw [if_pos c7] at hq
      exact fin _ (law_7 hi hL (rd_tr hJ (rd_since hJ.1 (xX σ (i + 1)) (xX σ (i + 2)) (xX σ (i + 3))))) hq
    rw [if_neg c7] at hq
    by_cases c8 : xiand (xX σ i) 63 = 8
    · rw [if_pos c8] at hq
      exact fin _ (law_8 hi hL (rd_tr hJ (rd_washes hJ.1 (xX σ (i + 1)) (xX σ (i + 2)) (xX σ (i + 3))))) hq
    rw [if_neg c8] at hq
    by_cases c9 : xiand (xX σ i) 63 = 9
    · rw [if_pos c9] at hq
      exact fin _ (law_9 hi hL (rd_tr hJ (rd_nights hJ.1 (xX σ (i + 1)) (xX σ (i + 2)) (xX σ (i + 3)) (xX σ (i + 4))))) hq
    rw [if_neg c9] at hq
    by_cases c10 : xiand (xX σ i) 63 = 10
    · rw [if_pos c10] at hq
      exact fin _ (law_10 hi hL (rd_tr hJ (rd_many hJ.1 (xX σ (i + 1)) (xX σ (i + 2)) (xX σ (i + 3)) (xX σ (i + 4)) (hX (i + 1))))) hq
    rw [if_neg c10] at hq
    by_cases c11 : xiand (xX σ i) 63 = 11
    · rw [if_pos c11] at hq
      exact fin _ (law_11 hi hL (st_tw hJ (st_heat hJ.1 (xX σ (i + 1)) (xX σ (i + 2)) (xX σ (i + 3))))) hq
    rw [if_neg c11] at hq
    by_cases c12 : xiand (xX σ i) 63 = 12
    · rw [if_pos c12] at hq
      exact fin _ (law_12 hi hL (rd_tr hJ (rd_proven hJ.1 hJ.2.1 (xX σ (i + 1)) (xX σ (i + 2))))) hq
    rw [if_neg c12] at hq
    by_cases c13 : xiand (xX σ i) 63 = 13
    · rw [if_pos c13] at hq
      exact fin _ (law_13 hi hL (rd_tr hJ (rd_us hJ.1 hJ.2.1 (a1 := (xX σ (i + 1))) (a2 := (xX σ (i + 2))) (by have := hX (i + 1); omega)))) hq
    rw [if_neg c13] at hq
    by_cases c14 : xiand (xX σ i) 63 = 14
    · rw [if_pos c14] at hq
      exact fin _ (law_14 hi hL (st_tw hJ (st_lot hJ.1 (xX σ (i + 1)) (xX σ (i + 2))))) hq
    rw [if_neg c14] at hq
    by_cases c15 : xiand (xX σ i) 63 = 15
    · rw [if_pos c15] at hq
      exact fin _ (law_15 hi hL (st_tw hJ (st_beyond hJ.1 (xX σ (i + 1))))) hq
    rw [if_neg c15] at hq
    by_cases c16 : xiand (xX σ i) 63 = 16
    · rw [if_pos c16] at hq
      exact fin _ (law_16 hi hL (st_tw hJ (st_bag hJ.1 (xX σ (i + 1)) (xX σ (i + 2))))) hq
    rw [if_neg c16] at hq
    by_cases c17 : xiand (xX σ i) 63 = 17
    · rw [if_pos c17] at hq
      exact fin _ (law_17 hi hL (st_tw hJ (st_read hJ.1 (xX σ (i + 1)) (xX σ (i + 2))))) hq
    rw [if_neg c17] at hq
    by_cases c18 : xiand (xX σ i) 63 = 18
    · rw [if_pos c18] at hq
      exact fin _ (law_18 hi hL (rd_tr hJ (rd_misses hJ.1 (xX σ (i + 1)) (xX σ (i + 2)) (xX σ (i + 3))))) hq
    rw [if_neg c18] at hq
    by_cases c19 : xiand (xX σ i) 63 = 19
    · rw [if_pos c19] at hq
      exact fin _ (law_19 hi hL (rd_tr hJ (rd_doubt hJ.1 (xX σ (i + 1)) (xX σ (i + 2)) (xX σ (i + 3))))) hq
    rw [if_neg c19] at hq
    by_cases c20 : xiand (xX σ i) 63 = 20
    · rw [if_pos c20] at hq
      exact fin _ (law_20 hi hL (rd_tr hJ (rd_lost hJ.1 (xX σ (i + 1)) (xX σ (i + 2)) (xX σ (i + 3)) (xX σ (i + 4))))) hq
    rw [if_neg c20] at hq
    by_cases c21 : xiand (xX σ i) 63 = 21
    · rw [if_pos c21] at hq
      exact fin _ (law_21 hi hL (st_tw hJ (st_counted hJ.1 (xX σ (i + 1)) (xX σ (i + 2)) (xX σ (i + 3)) (xX σ (i + 4))))) hq
    rw [if_neg c21] at hq
    by_cases c22 : xiand (xX σ i) 63 = 22
    · rw [if_pos c22] at hq
      exact fin _ (law_22 hi hL (rd_tr hJ (rd_shortOf hJ.1 (xX σ (i + 1)) (xX σ (i + 2)) (xX σ (i + 3)) (xX σ (i + 4))))) hq
    rw [if_neg c22] at hq
    by_cases c23 : xiand (xX σ i) 63 = 23
    · rw [if_pos c23] at hq
      exact fin _ (law_23 hi hL (rd_tr hJ (rd_load hJ.1 (xX σ (i + 1)) (xX σ (i + 2)) (xX σ (i + 3)) (xX σ (i + 4)) (xX σ (i + 5))))) hq
    rw [if_neg c23] at hq
    by_cases c24 : xiand (xX σ i) 63 = 24
    · rw [if_pos c24] at hq
      exact fin _ (law_24 hi hL (st_tw hJ (st_feed hJ.1 (xX σ (i + 1)) (xX σ (i + 2)) (xX σ (i + 3)) (xX σ (i + 4)) (xX σ (i + 5))))) hq
    rw [if_neg c24] at hq
    by_cases c25 : xiand (xX σ i) 63 = 25
    · rw [if_pos c25] at hq
      exact fin _ (law_25 hi hL ((st_terms hJ.1 hJ.2.1 hJ.2.2 (by omega) (xX σ (i + 1))))) hq
    rw [if_neg c25] at hq
    by_cases c26 : xiand (xX σ i) 63 = 26
    · rw [if_pos c26] at hq
      exact fin _ (law_26 hi hL (rd_tr hJ (rd_fault hJ.1))) hq
    rw [if_neg c26] at hq
    by_cases c27 : xiand (xX σ i) 63 = 27
    · rw [if_pos c27] at hq
      exact fin _ (law_27 hi hL (rd_tr hJ (rd_written hJ.1 hJ.2.1 hJ.2.2 (xX σ (i + 1)) (xX σ (i + 2))))) hq
    rw [if_neg c27] at hq
    by_cases c28 : xiand (xX σ i) 63 = 28
    · rw [if_pos c28] at hq
      exact fin _ (law_28 hi hL (rd_tr hJ (rd_value hJ.1 hJ.2.1 (by omega) (xX σ (i + 1)) (xX σ (i + 2))))) hq
    rw [if_neg c28] at hq
    by_cases c29 : xiand (xX σ i) 63 = 29
    · rw [if_pos c29] at hq
      exact fin _ (law_29 hi hL (rd_tr hJ (rd_price hJ.1 hJ.2.1 (by omega) (xX σ (i + 1)) (xX σ (i + 2))))) hq
    rw [if_neg c29] at hq
    by_cases c30 : xiand (xX σ i) 63 = 30
    · rw [if_pos c30] at hq
      exact fin _ (law_30 hi hL (rd_tr hJ (rd_bill hJ.1 hJ.2.1 (by omega) (xX σ (i + 1)) (xX σ (i + 2)) (xX σ (i + 3)) (xX σ (i + 4))))) hq
    rw [if_neg c30] at hq
    by_cases c31 : xiand (xX σ i) 63 = 31
    · rw [if_pos c31] at hq
      exact fin _ (law_31 hi hL (rd_tr hJ (rd_part hJ.1 hJ.2.1 (by omega) (xX σ (i + 1)) (xX σ (i + 2)) (xX σ (i + 3)) (xX σ (i + 4))))) hq
    rw [if_neg c31] at hq
    by_cases c32 : xiand (xX σ i) 63 = 32
    · rw [if_pos c32] at hq
      exact fin _ (law_32 hi hL (rd_tr hJ (rd_due hJ.1 hJ.2.1 (by omega) (a1 := (xX σ (i + 1))) (by have := hX (i + 1); omega)))) hq
    rw [if_neg c32] at hq
    by_cases c33 : xiand (xX σ i) 63 = 33
    · rw [if_pos c33] at hq
      exact fin _ (law_33 hi hL (st_tw hJ (st_want hJ.1 (xX σ (i + 1)) (xX σ (i + 2)) (xX σ (i + 3)) (xX σ (i + 4))))) hq
    rw [if_neg c33] at hq
    by_cases c34 : xiand (xX σ i) 63 = 34
    · rw [if_pos c34] at hq
      exact fin _ (law_34 hi hL (rd_tr hJ (rd_wanted hJ.1 hJ.2.1 (by omega) (xX σ (i + 1)) (xX σ (i + 2))))) hq
    rw [if_neg c34] at hq
    by_cases c35 : xiand (xX σ i) 63 = 35
    · rw [if_pos c35] at hq
      exact fin _ (law_35 hi hL (st_tw hJ (st_washer hJ.1 (xX σ (i + 1)) (xX σ (i + 2)) (xX σ (i + 3))))) hq
    rw [if_neg c35] at hq
    by_cases c36 : xiand (xX σ i) 63 = 36
    · rw [if_pos c36] at hq
      exact fin _ (law_36 hi hL (st_tw hJ (st_dryers hJ.1 (xX σ (i + 1))))) hq
    rw [if_neg c36] at hq
    by_cases c37 : xiand (xX σ i) 63 = 37
    · rw [if_pos c37] at hq
      exact fin _ (law_37 hi hL (st_tw hJ (st_job hJ.1 (xX σ (i + 1)) (xX σ (i + 2)) (xX σ (i + 3))))) hq
    rw [if_neg c37] at hq
    by_cases c38 : xiand (xX σ i) 63 = 38
    · rw [if_pos c38] at hq
      exact fin _ (law_38 hi hL (st_tw hJ (st_clear hJ.1))) hq
    rw [if_neg c38] at hq
    by_cases c39 : xiand (xX σ i) 63 = 39
    · rw [if_pos c39] at hq
      exact fin _ (law_39 hi hL (rd_tr hJ (rd_night hJ.1 hJ.2.1 (by omega) (xX σ (i + 1))))) hq
    rw [if_neg c39] at hq
    by_cases c40 : xiand (xX σ i) 63 = 40
    · rw [if_pos c40] at hq
      exact fin _ (law_40 hi hL (rd_tr hJ (rd_round hJ.1 (by omega) (xX σ (i + 1)) (xX σ (i + 2)) (xX σ (i + 3))))) hq
    rw [if_neg c40] at hq
    by_cases c41 : xiand (xX σ i) 63 = 41
    · rw [if_pos c41] at hq
      exact fin _ (law_41 hi hL (st_tw hJ (st_supply hJ.1 (xX σ (i + 1)) (xX σ (i + 2)) (xX σ (i + 3)) (xX σ (i + 4))))) hq
    rw [if_neg c41] at hq
    by_cases c42 : xiand (xX σ i) 63 = 42
    · rw [if_pos c42] at hq
      exact fin _ (law_42 hi hL (rd_tr hJ (rd_buy hJ.1 hJ.2.1 (by omega) (xX σ (i + 1)) (xX σ (i + 2)) (xX σ (i + 3))))) hq
    rw [if_neg c42] at hq
    by_cases c43 : xiand (xX σ i) 63 = 43
    · rw [if_pos c43] at hq
      exact fin _ (law_43 hi hL (rd_tr hJ (rd_told hJ.1 (xX σ (i + 1)) (xX σ (i + 2))))) hq
    rw [if_neg c43] at hq
    by_cases c44 : xiand (xX σ i) 63 = 44
    · rw [if_pos c44] at hq
      exact fin _ (law_44 hi hL (rd_tr hJ (rd_count hJ.1 hJ.2.1.1 (xX σ (i + 1))))) hq
    rw [if_neg c44] at hq
    refine fin _ ⟨σ, ?_, hJ, ⟨[], (List.append_nil _).symm, Nat.zero_le _⟩, Nat.le_add_right _ _, rfl⟩ hq
    rw [xw_i6 (by omega)]
end LAW

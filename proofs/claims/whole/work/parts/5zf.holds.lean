/-! what holds where an EX is asked -/
/-- only the row of moves is reckoned with -/
def agW (σ τ : xS) : Prop := ag σ τ ∧ ∀ a, a ≠ 324 → a ≠ 305 → τ.1 a = σ.1 a
theorem agW_tr {a b c : xS} (h : agW a b) (g : agW b c) : agW a c := ⟨ag_tr h.1 g.1, fun x h1 h2 => by rw [g.2 x h1 h2, h.2 x h1 h2]⟩
theorem agW_s {σ : xS} {a k : Nat} {v : Int} (h : tmS a k = true) (h2 : a = 324 ∨ a = 305) : agW σ (xs σ a k v) := ⟨ag_sS h, fun x h3 h4 => xs_ne (by omega)⟩
theorem MW_gather_58 {σ : xS} (hB : bk_B σ.1) (s d k : Int) {n : Nat} (hn : n < 600) {l : List Nat} (hl : l.length ≤ n) (hln : ∀ i ∈ l, i < n) (hso : bk_so (σ.1 319) l) : ∀ (p : Nat) (τ : xS), agW σ τ → p ≤ l.length → τ.1 305 25 = (l.length : Int) → (∀ i, i < p → τ.1 324 i = ((l.getD i 0 : Nat) : Int)) → (∀ i, p ≤ i → i < l.length → τ.1 324 (i + 1) = ((l.getD i 0 : Nat) : Int) ∧ σ.1 319 n < σ.1 319 (l.getD i 0)) →
    ∃ τ' w, X iM_gather 58 [(2, 305), (0, s), (0, d), (0, k), (0, (n : Int)), (0, (p : Int))] [] τ = X iM_gather 8 [(2, 305), (0, s), (0, d), (0, k), (0, ((n + 1 : Nat) : Int)), w] [] τ' ∧ agW σ τ' ∧ bk_rw τ' (bk_ins (σ.1 319) n l) := by
  intro p
  have nx : xw ((n : Int) + 1) = ((n + 1 : Nat) : Int) := by rw [xw_id (by omega) (by omega)]; omega
  -- the end of it
  have fin : ∀ (p : Nat) (τ : xS), agW σ τ → p ≤ l.length → τ.1 305 25 = (l.length : Int) → (∀ i, i < p → τ.1 324 i = ((l.getD i 0 : Nat) : Int)) → (∀ i, p ≤ i → i < l.length → τ.1 324 (i + 1) = ((l.getD i 0 : Nat) : Int) ∧ σ.1 319 n < σ.1 319 (l.getD i 0)) → (∀ i, i < p → σ.1 319 (l.getD i 0) ≤ σ.1 319 n) →
      agW σ (xs (xs τ 324 p (n : Int)) 305 25 (xw ((τ.1 305 25) + 1))) ∧ bk_rw (xs (xs τ 324 p (n : Int)) 305 25 (xw ((τ.1 305 25) + 1))) (bk_ins (σ.1 319) n l) := by
    intro p τ hτ hp h25 h1 h2 h3
    refine ⟨agW_tr hτ (agW_tr (agW_s rfl (Or.inl rfl)) (agW_s rfl (Or.inr rfl))), ?_, ?_⟩
    · rw [xs_at, xup_eq, h25, bk_ins_len, xw_id (by omega) (by omega)]
      omega
    · intro i hi
      rw [bk_ins_len] at hi
      rw [xs_ne (by decide), xs_at, xup_at, bk_ins_at hp h3 (fun i a b => (h2 i a b).2), getD_ins _ _ _ _ hp]
      by_cases e : i = p
      · subst e
        rw [if_pos rfl, if_neg (by omega), if_pos rfl]
      · rw [if_neg e]
        by_cases e2 : i < p
        · rw [if_pos e2]
          exact h1 i e2
        · rw [if_neg e2, if_neg e]
          have := (h2 (i - 1) (by omega) (by omega)).1
          rwa [show i - 1 + 1 = i by omega] at this
  induction p with
  | zero =>
    intro τ hτ hp h25 h1 h2
    rw [qM_gather_58, if_neg (by omega), if_pos (xin_of (by omega) (by omega)), nx]
    have := fin 0 τ hτ hp h25 h1 h2 (fun i hi => absurd hi (Nat.not_lt_zero i))
    exact ⟨_, _, rfl, this.1, this.2⟩
  | succ p ih =>
    intro τ hτ hp h25 h1 h2
    have e1 : xw (((p + 1 : Nat) : Int) - 1) = (p : Int) := by rw [xw_id (by omega) (by omega)]; omega
    have e2 : xw (((p + 1 : Nat) : Int) + (-1)) = (p : Int) := by rw [xw_id (by omega) (by omega)]; omega
    have hr : τ.1 324 p = ((l.getD p 0 : Nat) : Int) := h1 p (Nat.lt_succ_self p)
    have hlp := hln _ (getD_mem' (l := l) (i := p) (by omega))
    have e9 : τ.1 319 = σ.1 319 := hτ.1.at fun _ => rfl
    rw [qM_gather_58, if_pos (by omega), e1, e2, nx, if_pos (xin_of (by omega) (by omega)), Int.toNat_natCast, hr, if_pos (xin_of (by omega) (by omega)), if_pos (xin_of (by omega) (by omega)), Int.toNat_natCast, Int.toNat_natCast, e9, Int.toNat_natCast]
    by_cases hc : σ.1 319 n < σ.1 319 (l.getD p 0)
    · rw [if_pos hc, if_pos (xin_of (by omega) (by omega)), if_pos (xin_of (by omega) (by omega))]
      refine ih _ (agW_tr hτ (agW_s rfl (Or.inl rfl))) (by omega) ?_ ?_ ?_
      · rw [xs_ne (by decide)]; exact h25
      · intro i hi
        rw [xs_at, xup_ne (by omega)]
        exact h1 i (by omega)
      · intro i hi hi2
        rw [xs_at, xup_at]
        by_cases e : i = p
        · subst e
          rw [if_pos rfl]
          exact ⟨rfl, hc⟩
        · rw [if_neg (by omega)]
          exact h2 i (by omega) hi2
    · rw [if_neg hc, if_pos (xin_of (by omega) (by omega))]
      have := fin (p + 1) τ hτ hp h25 h1 h2 (fun i hi => by
        have := bk_so_get hso (i := i) (j := p) (by omega) (by omega)
        omega)
      exact ⟨_, _, rfl, this.1, this.2⟩
theorem MW_gather_8 {σ : xS} (hB : bk_B σ.1) (s d k : Int) : ∀ (t n : Nat) (w : xAV) (τ : xS), n + t = bk_n σ.1 → agW σ τ → bk_rw τ ((bk_ch σ.1 s n).filter (bk_H σ.1 d k)) → ∃ τ', X iM_gather 8 [(2, 305), (0, s), (0, d), (0, k), (0, (n : Int)), w] [] τ = some ((9, 0), τ') ∧ agW σ τ' ∧ bk_rw τ' (bk_hl σ.1 s d k) := by
  intro t
  have hN : ((bk_n σ.1 : Nat) : Int) = σ.1 305 22 := Int.toNat_of_nonneg hB.1.1
  induction t with
  | zero =>
    intro n w τ hn hτ hr
    rw [qM_gather_8, if_neg (by rw [hτ.1.sl (a := 305) (k := 22) rfl]; omega)]
    rw [show n = bk_n σ.1 by omega] at hr
    exact ⟨τ, rfl, hτ, hr⟩
  | succ t ih =>
    intro n w τ hn hτ hr
    have hx : xin (n : Int) 600 := ⟨by omega, by have := hB.1.2; omega⟩
    have nx : xw ((n : Int) + 1) = ((n + 1 : Nat) : Int) := by rw [xw_id (by omega) (by have := hx.2; omega)]; omega
    rw [qM_gather_8, if_pos (by rw [hτ.1.sl (a := 305) (k := 22) rfl]; omega)]
    simp only [if_pos hx, Int.toNat_natCast, nx, hτ.1.at (a := 318) (fun _ => rfl), hτ.1.at (a := 319) (fun _ => rfl), hτ.1.at (a := 321) (fun _ => rfl), hτ.1.at (a := 322) (fun _ => rfl), hr.1]
    have e0 : bk_ch σ.1 s (n + 1) = if σ.1 318 n = s then bk_ins (σ.1 319) n (bk_ch σ.1 s n) else bk_ch σ.1 s n := rfl
    have skip : ¬ (σ.1 318 n = s ∧ bk_H σ.1 d k n = true) → ∃ τ', X iM_gather 8 [(2, 305), (0, s), (0, d), (0, k), (0, ((n + 1 : Nat) : Int)), w] [] τ = some ((9, 0), τ') ∧ agW σ τ' ∧ bk_rw τ' (bk_hl σ.1 s d k) := by
      intro hno
      refine ih (n + 1) w τ (by omega) hτ ?_
      rw [e0]
      by_cases h1 : σ.1 318 n = s
      · rw [if_pos h1, bk_ins_filter bk_ch_so, if_neg fun q => hno ⟨h1, q⟩]
        exact hr
      · rw [if_neg h1]
        exact hr
    have take : σ.1 318 n = s → bk_H σ.1 d k n = true → ∃ τ', X iM_gather 58 [(2, 305), (0, s), (0, d), (0, k), (0, (n : Int)), (0, (((bk_ch σ.1 s n).filter (bk_H σ.1 d k)).length : Int))] [] τ = some ((9, 0), τ') ∧ agW σ τ' ∧ bk_rw τ' (bk_hl σ.1 s d k) := by
      intro h1 h2
      obtain ⟨τ1, w1, q1, q2, q3⟩ := MW_gather_58 hB s d k (n := n) (by have := hx.2; omega) (l := (bk_ch σ.1 s n).filter (bk_H σ.1 d k)) bk_chf_len (fun i hi => (bk_ch_mem.mp (List.mem_filter.mp hi).1).1) (bk_so_filter bk_ch_so) _ τ hτ (Nat.le_refl _) hr.1 hr.2 (fun i a b => by omega)
      rw [q1]
      refine ih (n + 1) w1 τ1 (by omega) q2 ?_
      rw [e0, if_pos h1, bk_ins_filter bk_ch_so, if_pos h2]
      exact q3
    unfold bk_H at skip take
    simp only [Bool.and_eq_true, Bool.or_eq_true, decide_eq_true_eq] at skip take
    repeat' split
    all_goals first
      | exact skip (by omega)
      | exact take (by omega) (by omega)
theorem MW_gather {σ : xS} (hB : bk_B σ.1) (s d k : Int) : ∃ τ', X iM_gather 0 [(2, 305), (0, s), (0, d), (0, k), (9, 0), (9, 0)] [] σ = some ((9, 0), τ') ∧ agW σ τ' ∧ bk_rw τ' (bk_hl σ.1 s d k) := by
  rw [qM_gather_0]
  refine MW_gather_8 hB s d k (bk_n σ.1) 0 _ _ (by omega) (agW_s rfl (Or.inr rfl)) ⟨?_, fun i hi => absurd hi (Nat.not_lt_zero i)⟩
  rw [xs_at, xup_eq]
  rfl
theorem MW_washesOf {σ : xS} (hB : bk_B σ.1) (s d k : Int) : ∃ τ, X iM_washesOf 0 [(2, 305), (0, s), (0, d), (0, k), (9, 0), (9, 0)] [] σ = some ((0, bk_wa σ.1 s d k), τ) ∧ agW σ τ := by
  have hN : ((bk_n σ.1 : Nat) : Int) = σ.1 305 22 := Int.toNat_of_nonneg hB.1.1
  obtain ⟨τ, q1, q2, q3⟩ := MW_gather hB s d k
  refine ⟨τ, ?_, q2⟩
  have hln : ∀ i ∈ bk_hl σ.1 s d k, i < 600 := fun i hi => by
    have := (bk_ch_mem.mp (List.mem_filter.mp hi).1).1
    have := hB.1.2
    omega
  have hle : (bk_hl σ.1 s d k).length ≤ 600 := by
    have := bk_chf_len (m := σ.1) (s := s) (p := bk_H σ.1 d k) (n := bk_n σ.1)
    have := hB.1.2
    show ((bk_ch σ.1 s (bk_n σ.1)).filter (bk_H σ.1 d k)).length ≤ 600
    omega
  have hw : bk_wa σ.1 s d k = bk_wc τ.1 0 (bk_hl σ.1 s d k) := by
    rw [← bk_wa_ag q2.1]
    unfold bk_wa
    rw [bk_hl_ag q2.1]
  rw [qM_washesOf_0, q1, Option.bind_some, qM_washesOf_7, hw]
  cases hl : bk_hl σ.1 s d k with
  | nil =>
    rw [hl] at q3
    rw [qM_washesOf_13, if_neg (by rw [q3.1]; decide)]
    rfl
  | cons x l =>
    rw [hl] at q3 hln hle
    have := M_washesOf_13 q3 hle hln (0, s) (0, d) (xkl (0, k)) l.length 1 0 (by rw [List.length_cons]; omega) (Nat.le_refl 1) (Int.le_refl 0) (by omega)
    refine this.trans ?_
    show some ((0, 0 + bk_wc τ.1 (τ.1 320 x) l), τ) = some ((0, (if (0 : Int) = 2 ∧ τ.1 320 x = 0 then 1 else 0) + bk_wc τ.1 (τ.1 320 x) l), τ)
    rw [if_neg fun q => absurd q.1 (by decide)]

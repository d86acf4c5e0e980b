/-! the book's methods: the reference's -/
theorem bk_lf_lt {m : Nat → Nat → Int} {s : Int} {p : Nat → Bool} {n : Nat} : bk_l (-1) ((bk_ch m s n).filter p) < (n : Int) ∧ -1 ≤ bk_l (-1) ((bk_ch m s n).filter p) := by
  by_cases h : (bk_ch m s n).filter p = []
  · rw [h]
    exact ⟨by show (-1 : Int) < n; omega, Int.le_refl _⟩
  · obtain ⟨i, h1, h2⟩ := bk_l_mem (b := -1) h
    have h3 := (bk_ch_mem.mp (List.mem_filter.mp h1).1).1
    omega
theorem bk_lf_step {m : Nat → Nat → Int} {s d k : Int} {n : Nat} {b : Int} (hb : b = bk_l (-1) ((bk_ch m s n).filter (bk_H m d k))) : bk_l (-1) ((bk_ch m s (n + 1)).filter (bk_H m d k)) = if m 318 n = s then (if bk_H m d k n then (if b < 0 then (n : Int) else if m 319 n < m 319 b.toNat then b else (n : Int)) else b) else b := by
  subst hb
  rw [show bk_ch m s (n + 1) = if m 318 n = s then bk_ins (m 319) n (bk_ch m s n) else bk_ch m s n from rfl]
  by_cases h1 : m 318 n = s
  · rw [if_pos h1, if_pos h1, bk_ins_filter bk_ch_so]
    by_cases h2 : bk_H m d k n = true
    · rw [if_pos h2, if_pos h2, bk_l_step (bk_so_filter bk_ch_so)]
    · rw [if_neg h2, if_neg h2]
  · rw [if_neg h1, if_neg h1]
theorem M_last_6 {σ : xS} (hB : bk_B σ.1) (s d k : Int) : ∀ (t n : Nat) (b : Int), n + t = bk_n σ.1 → b = bk_l (-1) ((bk_ch σ.1 s n).filter (bk_H σ.1 d k)) → X iM_last 6 [(2, 305), (0, s), (0, d), (0, k), (0, b), (0, (n : Int))] [] σ = some ((0, bk_last σ.1 s d k), σ) := by
  intro t
  have hN : ((bk_n σ.1 : Nat) : Int) = σ.1 305 22 := Int.toNat_of_nonneg hB.1.1
  induction t with
  | zero =>
    intro n b hn hb
    rw [qM_last_6, if_neg (by omega), hb]
    rw [show n = bk_n σ.1 by omega]
    rfl
  | succ t ih =>
    intro n b hn hb
    have hx : xin (n : Int) 600 := ⟨by omega, by have := hB.1.2; omega⟩
    have hlt := bk_lf_lt (m := σ.1) (s := s) (p := bk_H σ.1 d k) (n := n)
    rw [← hb] at hlt
    have hst := bk_lf_step hb
    have nx : xw ((n : Int) + 1) = ((n + 1 : Nat) : Int) := by rw [xw_id (by omega) (by have := hx.2; omega)]; omega
    have key : ∀ b', b' = bk_l (-1) ((bk_ch σ.1 s (n + 1)).filter (bk_H σ.1 d k)) → X iM_last 6 [(2, 305), (0, s), (0, d), (0, k), (0, b'), (0, ((n + 1 : Nat) : Int))] [] σ = some ((0, bk_last σ.1 s d k), σ) := fun b' h => ih (n + 1) b' (by omega) h
    rw [hst] at key
    unfold bk_H at key
    simp only [Bool.and_eq_true, Bool.or_eq_true, decide_eq_true_eq] at key
    rw [qM_last_6, if_pos (by omega)]
    simp only [if_pos hx, Int.toNat_natCast, nx]
    by_cases hb0 : b < 0
    · simp only [if_pos hb0] at key ⊢
      repeat' split
      all_goals refine key _ ?_
      all_goals (repeat' split) <;> omega
    · have hxb : xin b 600 := ⟨by omega, by have := hx.2; omega⟩
      simp only [if_neg hb0, if_pos hxb] at key ⊢
      repeat' split
      all_goals refine key _ ?_
      all_goals (repeat' split) <;> omega
theorem M_last {σ : xS} (hB : bk_B σ.1) (s d k : Int) : X iM_last 0 [(2, 305), (0, s), (0, d), (0, k), (9, 0), (9, 0)] [] σ = some ((0, bk_last σ.1 s d k), σ) := by
  rw [qM_last_0]
  exact M_last_6 hB s d k (bk_n σ.1) 0 (-1) (by omega) rfl
theorem M_placeOf {σ : xS} (hB : bk_B σ.1) (s d k : Int) : X iM_placeOf 0 [(2, 305), (0, s), (0, d), (0, k), (9, 0)] [] σ = some ((0, bk_pl σ.1 s d k), σ) := by
  have hN : ((bk_n σ.1 : Nat) : Int) = σ.1 305 22 := Int.toNat_of_nonneg hB.1.1
  have h2 := bk_last_lt (m := σ.1) (s := s) (d := d) (k := k)
  rw [qM_placeOf_0, M_last hB, Option.bind_some, qM_placeOf_7]
  unfold bk_pl
  by_cases h : bk_last σ.1 s d k < 0
  · rw [if_pos h, if_pos h]
  · rw [if_neg h, if_neg h, if_pos (xin_of (by omega) (by have := hB.1.2; omega))]
theorem M_sinceOf {σ : xS} (hB : bk_B σ.1) {s d k : Int} (hs : xin s 150) : X iM_sinceOf 0 [(2, 305), (0, s), (0, d), (0, k), (9, 0)] [] σ = some ((0, bk_si σ.1 s d k), σ) := by
  have hN : ((bk_n σ.1 : Nat) : Int) = σ.1 305 22 := Int.toNat_of_nonneg hB.1.1
  have h2 := bk_last_lt (m := σ.1) (s := s) (d := d) (k := k)
  rw [qM_sinceOf_0, M_last hB, Option.bind_some, qM_sinceOf_7]
  unfold bk_si
  by_cases h : bk_last σ.1 s d k < 0
  · rw [if_pos h, if_pos h, if_pos hs]
  · rw [if_neg h, if_neg h, if_pos (xin_of (by omega) (by have := hB.1.2; omega))]
/-- a sheet that is asked of -/
abbrev bk_ask (m : Nat → Nat → Int) (s d k : Int) : Prop := (0 ≤ s ∧ s < m 305 15) ∧ ((0 ≤ d ∧ d ≤ 1000) ∧ (0 ≤ k ∧ k ≤ 1000)) ∧ m 317 s.toNat ≤ d ∧ m 317 s.toNat ≤ k
theorem M_isAsked {σ : xS} (hB : bk_B σ.1) (s d k : Int) : X iM_isAsked 0 [(2, 305), (0, s), (0, d), (0, k)] [] σ = some ((0, if bk_ask σ.1 s d k then 1 else 0), σ) := by
  rw [qM_isAsked_0]
  have h2 := hB.2.2
  by_cases h : bk_ask σ.1 s d k
  · obtain ⟨h3, ⟨h4, h5⟩, h6, h7⟩ := id h
    have hx : xin s 150 := ⟨h3.1, by omega⟩
    rw [if_pos h, if_neg (by omega), if_pos (by omega), if_neg (by omega), if_neg (by omega), if_neg (by omega), if_neg (by omega), if_pos hx, if_neg (by omega), if_pos hx, if_neg (by omega)]
  · rw [if_neg h]
    repeat' split
    all_goals first | rfl | (exfalso; exact h ⟨⟨by omega, by omega⟩, ⟨⟨by omega, by omega⟩, by omega, by omega⟩, by omega, by omega⟩) | (exfalso; rename_i hx; exact hx ⟨by omega, by omega⟩)
theorem getD_ins (l : List Nat) (n p i : Nat) (hp : p ≤ l.length) : (l.take p ++ n :: l.drop p).getD i 0 = if i < p then l.getD i 0 else if i = p then n else l.getD (i - 1) 0 := by
  simp only [List.getD_eq_getElem?_getD, List.getElem?_append, List.length_take, List.getElem?_take, Nat.min_eq_left hp]
  by_cases h : i < p
  · simp only [if_pos h]
  · simp only [if_neg h]
    by_cases h2 : i = p
    · subst h2
      simp
    · obtain ⟨j, rfl⟩ : ∃ j, i = p + j + 1 := ⟨i - p - 1, by omega⟩
      rw [if_neg h2, show p + j + 1 - p = j + 1 by omega, List.getElem?_cons_succ, List.getElem?_drop, show p + j + 1 - 1 = p + j by omega]
theorem bk_so_get {f : Nat → Int} : ∀ {l : List Nat}, bk_so f l → ∀ {i j : Nat}, i ≤ j → j < l.length → f (l.getD i 0) ≤ f (l.getD j 0)
  | [], _, i, j, _, hj => absurd hj (Nat.not_lt_zero _)
  | x :: l, h, 0, 0, _, _ => Int.le_refl _
  | x :: l, h, 0, j + 1, _, hj => by
    have hj : j < l.length := Nat.lt_of_succ_lt_succ hj
    refine h.1 _ ?_
    show l.getD j 0 ∈ l
    rw [List.getD_eq_getElem?_getD, List.getElem?_eq_getElem hj]
    exact List.getElem_mem hj
  | x :: l, h, i + 1, 0, hi, _ => absurd hi (by omega)
  | x :: l, h, i + 1, j + 1, hi, hj => bk_so_get (l := l) h.2 (Nat.le_of_succ_le_succ hi) (Nat.lt_of_succ_lt_succ hj)
theorem getD_mem' {l : List Nat} {i : Nat} (h : i < l.length) : l.getD i 0 ∈ l := by
  rw [List.getD_eq_getElem?_getD, List.getElem?_eq_getElem h]
  exact List.getElem_mem h
theorem mem_getD {l : List Nat} {x : Nat} (h : x ∈ l) : ∃ i, i < l.length ∧ l.getD i 0 = x := by
  obtain ⟨i, hi, e⟩ := List.getElem_of_mem h
  exact ⟨i, hi, by rw [List.getD_eq_getElem?_getD, List.getElem?_eq_getElem hi]; exact e⟩
theorem bk_ins_at {f : Nat → Int} {n p : Nat} {l : List Nat} (hp : p ≤ l.length) (h1 : ∀ i, i < p → f (l.getD i 0) ≤ f n) (h2 : ∀ i, p ≤ i → i < l.length → f n < f (l.getD i 0)) : bk_ins f n l = l.take p ++ n :: l.drop p := by
  have e : l = l.take p ++ l.drop p := (List.take_append_drop p l).symm
  have k := bk_ins_app (f := f) (i := n) (l := l.take p) (l' := l.drop p) (fun j hj => by
    obtain ⟨i, hi, e⟩ := mem_getD hj
    rw [List.length_take] at hi
    have := h1 i (by omega)
    rw [List.getD_eq_getElem?_getD, List.getElem?_take, if_pos (by omega), ← List.getD_eq_getElem?_getD] at e
    rw [e] at this
    exact this) (fun j hj => by
    obtain ⟨i, hi, e⟩ := mem_getD hj
    rw [List.length_drop] at hi
    have := h2 (p + i) (by omega) (by omega)
    rw [List.getD_eq_getElem?_getD, List.getElem?_drop, ← List.getD_eq_getElem?_getD] at e
    rw [e] at this
    exact this)
  rwa [List.take_append_drop] at k
theorem bk_ch_len {m : Nat → Nat → Int} {s : Int} : ∀ {n : Nat}, (bk_ch m s n).length ≤ n
  | 0 => Nat.le_refl 0
  | n + 1 => by
    unfold bk_ch
    have := bk_ch_len (m := m) (s := s) (n := n)
    split
    · rw [bk_ins_len]; omega
    · omega
theorem bk_chf_len {m : Nat → Nat → Int} {s : Int} {p : Nat → Bool} {n : Nat} : ((bk_ch m s n).filter p).length ≤ n := Nat.le_trans (List.length_filter_le _ _) bk_ch_len
/-- the book's words stand -/
theorem bk_B_ag {σ τ : xS} (h : ag σ τ) (hB : bk_B σ.1) : bk_B τ.1 := by
  unfold bk_B
  rw [h.sl (a := 305) (k := 22) rfl, h.sl (a := 305) (k := 15) rfl]
  exact hB
theorem bk_H_ag {σ τ : xS} (h : ag σ τ) (d k : Int) : bk_H τ.1 d k = bk_H σ.1 d k := by
  funext i
  unfold bk_H
  rw [h.at (a := 319) (fun _ => rfl), h.at (a := 321) (fun _ => rfl), h.at (a := 322) (fun _ => rfl)]
theorem bk_ch_ag {σ τ : xS} (h : ag σ τ) (s : Int) (n : Nat) : bk_ch τ.1 s n = bk_ch σ.1 s n := bk_ch_cg fun i _ => ⟨h.sl (a := 318) rfl, h.sl (a := 319) rfl⟩
theorem bk_hl_ag {σ τ : xS} (h : ag σ τ) (s d k : Int) : bk_hl τ.1 s d k = bk_hl σ.1 s d k := by
  unfold bk_hl bk_n
  rw [bk_ch_ag h, bk_H_ag h, h.sl (a := 305) (k := 22) rfl]
theorem bk_last_ag {σ τ : xS} (h : ag σ τ) (s d k : Int) : bk_last τ.1 s d k = bk_last σ.1 s d k := by
  unfold bk_last
  rw [bk_hl_ag h]
theorem bk_pl_ag {σ τ : xS} (h : ag σ τ) (s d k : Int) : bk_pl τ.1 s d k = bk_pl σ.1 s d k := by
  unfold bk_pl
  rw [bk_last_ag h, h.at (a := 320) (fun _ => rfl)]
theorem bk_si_ag {σ τ : xS} (h : ag σ τ) (s d k : Int) : bk_si τ.1 s d k = bk_si σ.1 s d k := by
  unfold bk_si
  rw [bk_last_ag h, h.at (a := 319) (fun _ => rfl), h.at (a := 317) (fun _ => rfl)]
/-- gathering -/
def bk_rw (σ : xS) (l : List Nat) : Prop := σ.1 305 25 = (l.length : Int) ∧ ∀ i, i < l.length → σ.1 324 i = ((l.getD i 0 : Nat) : Int)
theorem M_gather_58 {σ : xS} (hB : bk_B σ.1) (s d k : Int) {n : Nat} (hn : n < 600) {l : List Nat} (hl : l.length ≤ n) (hln : ∀ i ∈ l, i < n) (hso : bk_so (σ.1 319) l) : ∀ (p : Nat) (τ : xS), ag σ τ → p ≤ l.length → τ.1 305 25 = (l.length : Int) → (∀ i, i < p → τ.1 324 i = ((l.getD i 0 : Nat) : Int)) → (∀ i, p ≤ i → i < l.length → τ.1 324 (i + 1) = ((l.getD i 0 : Nat) : Int) ∧ σ.1 319 n < σ.1 319 (l.getD i 0)) →
    ∃ τ' w, X iM_gather 58 [(2, 305), (0, s), (0, d), (0, k), (0, (n : Int)), (0, (p : Int))] [] τ = X iM_gather 8 [(2, 305), (0, s), (0, d), (0, k), (0, ((n + 1 : Nat) : Int)), w] [] τ' ∧ ag σ τ' ∧ bk_rw τ' (bk_ins (σ.1 319) n l) := by
  intro p
  have nx : xw ((n : Int) + 1) = ((n + 1 : Nat) : Int) := by rw [xw_id (by omega) (by omega)]; omega
  -- the end of it
  have fin : ∀ (p : Nat) (τ : xS), ag σ τ → p ≤ l.length → τ.1 305 25 = (l.length : Int) → (∀ i, i < p → τ.1 324 i = ((l.getD i 0 : Nat) : Int)) → (∀ i, p ≤ i → i < l.length → τ.1 324 (i + 1) = ((l.getD i 0 : Nat) : Int) ∧ σ.1 319 n < σ.1 319 (l.getD i 0)) → (∀ i, i < p → σ.1 319 (l.getD i 0) ≤ σ.1 319 n) →
      ag σ (xs (xs τ 324 p (n : Int)) 305 25 (xw ((τ.1 305 25) + 1))) ∧ bk_rw (xs (xs τ 324 p (n : Int)) 305 25 (xw ((τ.1 305 25) + 1))) (bk_ins (σ.1 319) n l) := by
    intro p τ hτ hp h25 h1 h2 h3
    refine ⟨ag_tr hτ (ag_tr (ag_sS rfl) (ag_sS rfl)), ?_, ?_⟩
    · rw [xs_at, xup_eq, h25, bk_ins_len, xw_id (by omega) (by omega)]
      omega
    · intro i hi
      rw [bk_ins_len] at hi
      rw [xs_ne (by decide), xs_at, xup_at, bk_ins_at hp h3 (fun i a b => (h2 i a b).2), getD_ins _ _ _ _ hp]
      by_cases e : i = p
      · subst e
        rw [if_pos rfl, if_neg (by omega), if_pos rfl]
      · rw [if_neg e]
        by_cases e2 : i < p
        · rw [if_pos e2]
          exact h1 i e2
        · rw [if_neg e2, if_neg e]
          have := (h2 (i - 1) (by omega) (by omega)).1
          rwa [show i - 1 + 1 = i by omega] at this
  induction p with
  | zero =>
    intro τ hτ hp h25 h1 h2
    rw [qM_gather_58, if_neg (by omega), if_pos (xin_of (by omega) (by omega)), nx]
    have := fin 0 τ hτ hp h25 h1 h2 (fun i hi => absurd hi (Nat.not_lt_zero i))
    exact ⟨_, _, rfl, this.1, this.2⟩
  | succ p ih =>
    intro τ hτ hp h25 h1 h2
    have e1 : xw (((p + 1 : Nat) : Int) - 1) = (p : Int) := by rw [xw_id (by omega) (by omega)]; omega
    have e2 : xw (((p + 1 : Nat) : Int) + (-1)) = (p : Int) := by rw [xw_id (by omega) (by omega)]; omega
    have hr : τ.1 324 p = ((l.getD p 0 : Nat) : Int) := h1 p (Nat.lt_succ_self p)
    have hlp := hln _ (getD_mem' (l := l) (i := p) (by omega))
    have e9 : τ.1 319 = σ.1 319 := hτ.at fun _ => rfl
    rw [qM_gather_58, if_pos (by omega), e1, e2, nx, if_pos (xin_of (by omega) (by omega)), Int.toNat_natCast, hr, if_pos (xin_of (by omega) (by omega)), if_pos (xin_of (by omega) (by omega)), Int.toNat_natCast, Int.toNat_natCast, e9, Int.toNat_natCast]
    by_cases hc : σ.1 319 n < σ.1 319 (l.getD p 0)
    · rw [if_pos hc, if_pos (xin_of (by omega) (by omega)), if_pos (xin_of (by omega) (by omega))]
      refine ih _ (ag_tr hτ (ag_sS rfl)) (by omega) ?_ ?_ ?_
      · rw [xs_ne (by decide)]; exact h25
      · intro i hi
        rw [xs_at, xup_ne (by omega)]
        exact h1 i (by omega)
      · intro i hi hi2
        rw [xs_at, xup_at]
        by_cases e : i = p
        · subst e
          rw [if_pos rfl]
          exact ⟨rfl, hc⟩
        · rw [if_neg (by omega)]
          exact h2 i (by omega) hi2
    · rw [if_neg hc, if_pos (xin_of (by omega) (by omega))]
      have := fin (p + 1) τ hτ hp h25 h1 h2 (fun i hi => by
        have := bk_so_get hso (i := i) (j := p) (by omega) (by omega)
        omega)
      exact ⟨_, _, rfl, this.1, this.2⟩
theorem M_gather_8 {σ : xS} (hB : bk_B σ.1) (s d k : Int) : ∀ (t n : Nat) (w : xAV) (τ : xS), n + t = bk_n σ.1 → ag σ τ → bk_rw τ ((bk_ch σ.1 s n).filter (bk_H σ.1 d k)) → ∃ τ', X iM_gather 8 [(2, 305), (0, s), (0, d), (0, k), (0, (n : Int)), w] [] τ = some ((9, 0), τ') ∧ ag σ τ' ∧ bk_rw τ' (bk_hl σ.1 s d k) := by
  intro t
  have hN : ((bk_n σ.1 : Nat) : Int) = σ.1 305 22 := Int.toNat_of_nonneg hB.1.1
  induction t with
  | zero =>
    intro n w τ hn hτ hr
    rw [qM_gather_8, if_neg (by rw [hτ.sl (a := 305) (k := 22) rfl]; omega)]
    rw [show n = bk_n σ.1 by omega] at hr
    exact ⟨τ, rfl, hτ, hr⟩
  | succ t ih =>
    intro n w τ hn hτ hr
    have hx : xin (n : Int) 600 := ⟨by omega, by have := hB.1.2; omega⟩
    have nx : xw ((n : Int) + 1) = ((n + 1 : Nat) : Int) := by rw [xw_id (by omega) (by have := hx.2; omega)]; omega
    rw [qM_gather_8, if_pos (by rw [hτ.sl (a := 305) (k := 22) rfl]; omega)]
    simp only [if_pos hx, Int.toNat_natCast, nx, hτ.at (a := 318) (fun _ => rfl), hτ.at (a := 319) (fun _ => rfl), hτ.at (a := 321) (fun _ => rfl), hτ.at (a := 322) (fun _ => rfl), hr.1]
    have e0 : bk_ch σ.1 s (n + 1) = if σ.1 318 n = s then bk_ins (σ.1 319) n (bk_ch σ.1 s n) else bk_ch σ.1 s n := rfl
    have skip : ¬ (σ.1 318 n = s ∧ bk_H σ.1 d k n = true) → ∃ τ', X iM_gather 8 [(2, 305), (0, s), (0, d), (0, k), (0, ((n + 1 : Nat) : Int)), w] [] τ = some ((9, 0), τ') ∧ ag σ τ' ∧ bk_rw τ' (bk_hl σ.1 s d k) := by
      intro hno
      refine ih (n + 1) w τ (by omega) hτ ?_
      rw [e0]
      by_cases h1 : σ.1 318 n = s
      · rw [if_pos h1, bk_ins_filter bk_ch_so, if_neg fun q => hno ⟨h1, q⟩]
        exact hr
      · rw [if_neg h1]
        exact hr
    have take : σ.1 318 n = s → bk_H σ.1 d k n = true → ∃ τ', X iM_gather 58 [(2, 305), (0, s), (0, d), (0, k), (0, (n : Int)), (0, (((bk_ch σ.1 s n).filter (bk_H σ.1 d k)).length : Int))] [] τ = some ((9, 0), τ') ∧ ag σ τ' ∧ bk_rw τ' (bk_hl σ.1 s d k) := by
      intro h1 h2
      obtain ⟨τ1, w1, q1, q2, q3⟩ := M_gather_58 hB s d k (n := n) (by have := hx.2; omega) (l := (bk_ch σ.1 s n).filter (bk_H σ.1 d k)) bk_chf_len (fun i hi => (bk_ch_mem.mp (List.mem_filter.mp hi).1).1) (bk_so_filter bk_ch_so) _ τ hτ (Nat.le_refl _) hr.1 hr.2 (fun i a b => by omega)
      rw [q1]
      refine ih (n + 1) w1 τ1 (by omega) q2 ?_
      rw [e0, if_pos h1, bk_ins_filter bk_ch_so, if_pos h2]
      exact q3
    unfold bk_H at skip take
    simp only [Bool.and_eq_true, Bool.or_eq_true, decide_eq_true_eq] at skip take
    repeat' split
    all_goals first
      | exact skip (by omega)
      | exact take (by omega) (by omega)
theorem M_gather {σ : xS} (hB : bk_B σ.1) (s d k : Int) : ∃ τ', X iM_gather 0 [(2, 305), (0, s), (0, d), (0, k), (9, 0), (9, 0)] [] σ = some ((9, 0), τ') ∧ ag σ τ' ∧ bk_rw τ' (bk_hl σ.1 s d k) := by
  rw [qM_gather_0]
  refine M_gather_8 hB s d k (bk_n σ.1) 0 _ _ (by omega) (ag_sS rfl) ⟨?_, fun i hi => absurd hi (Nat.not_lt_zero i)⟩
  rw [xs_at, xup_eq]
  rfl
/-- washes -/
def bk_wc (m : Nat → Nat → Int) : Int → List Nat → Int
  | _, [] => 0
  | a, i :: l => (if a = 2 ∧ m 320 i = 0 then 1 else 0) + bk_wc m (m 320 i) l
def bk_wa (m : Nat → Nat → Int) (s d k : Int) : Int := bk_wc m 0 (bk_hl m s d k)
theorem bk_wc_le {m : Nat → Nat → Int} : ∀ {a : Int} {l : List Nat}, 0 ≤ bk_wc m a l ∧ bk_wc m a l ≤ l.length
  | _, [] => ⟨Int.le_refl _, Int.le_refl _⟩
  | a, i :: l => by
    have := bk_wc_le (m := m) (a := m 320 i) (l := l)
    unfold bk_wc
    rw [List.length_cons]
    split <;> omega
theorem bk_wa_ag {σ τ : xS} (h : ag σ τ) (s d k : Int) : bk_wa τ.1 s d k = bk_wa σ.1 s d k := by
  have key : ∀ (l : List Nat) (a : Int), bk_wc τ.1 a l = bk_wc σ.1 a l := by
    intro l
    induction l with
    | nil => intro a; rfl
    | cons i l ih =>
      intro a
      unfold bk_wc
      rw [h.at (a := 320) (fun _ => rfl), ih]
  unfold bk_wa
  rw [bk_hl_ag h, key]
theorem M_washesOf_13 {τ : xS} {l : List Nat} (hr : bk_rw τ l) (hl : l.length ≤ 600) (hln : ∀ i ∈ l, i < 600) (w1 w2 w3 : xAV) : ∀ (t i : Nat) (c : Int), i + t = l.length → 1 ≤ i → 0 ≤ c → c ≤ i → X iM_washesOf 13 [(2, 305), w1, w2, w3, (0, c), (0, (i : Int))] [] τ = some ((0, c + bk_wc τ.1 (τ.1 320 (l.getD (i - 1) 0)) (l.drop i)), τ) := by
  intro t
  induction t with
  | zero =>
    intro i c hi h1 h0 hc
    rw [qM_washesOf_13, if_neg (by rw [hr.1]; omega), List.drop_eq_nil_of_le (by omega)]
    rw [show c + bk_wc τ.1 (τ.1 320 (l.getD (i - 1) 0)) [] = c by show c + 0 = c; omega]
  | succ t ih =>
    intro i c hi h1 h0 hc
    have e1 : xw ((i : Int) - 1) = ((i - 1 : Nat) : Int) := by rw [xw_id (by omega) (by omega)]; omega
    have nx : xw ((i : Int) + 1) = ((i + 1 : Nat) : Int) := by rw [xw_id (by omega) (by omega)]; omega
    have nc : xw (c + 1) = c + 1 := xw_id (by omega) (by omega)
    have g1 := hln _ (getD_mem' (l := l) (i := i) (by omega))
    have g2 := hln _ (getD_mem' (l := l) (i := i - 1) (by omega))
    have r1 : τ.1 324 i = ((l.getD i 0 : Nat) : Int) := hr.2 i (by omega)
    have r2 : τ.1 324 (i - 1) = ((l.getD (i - 1) 0 : Nat) : Int) := hr.2 (i - 1) (by omega)
    have ed : l.drop i = l.getD i 0 :: l.drop (i + 1) := by
      rw [List.drop_eq_getElem_cons (by omega)]
      rw [List.getD_eq_getElem?_getD, List.getElem?_eq_getElem (by omega)]
      rfl
    rw [qM_washesOf_13, if_pos (by rw [hr.1]; omega), e1, nx, nc, Int.toNat_natCast, Int.toNat_natCast, r1, r2, Int.toNat_natCast, Int.toNat_natCast, if_pos (xin_of (by omega) (by omega)), if_pos (xin_of (by omega) (by omega)), if_pos (xin_of (by omega) (by omega)), if_pos (xin_of (by omega) (by omega))]
    rw [ed]
    unfold bk_wc
    have k1 := ih (i + 1) (c + 1) (by omega) (by omega) (by omega) (by omega)
    have k2 := ih (i + 1) c (by omega) (by omega) (by omega) (by omega)
    rw [show i + 1 - 1 = i by omega] at k1 k2
    by_cases a1 : τ.1 320 (l.getD i 0) = 0
    · by_cases a2 : τ.1 320 (l.getD (i - 1) 0) = 2
      · rw [if_pos a1, if_pos a2, k1, if_pos ⟨a2, a1⟩, Int.add_assoc]
      · rw [if_pos a1, if_neg a2, k2, if_neg fun q => a2 q.1, Int.zero_add]
    · rw [if_neg a1, k2, if_neg fun q => a1 q.2, Int.zero_add]
theorem M_washesOf {σ : xS} (hB : bk_B σ.1) (s d k : Int) : ∃ τ, X iM_washesOf 0 [(2, 305), (0, s), (0, d), (0, k), (9, 0), (9, 0)] [] σ = some ((0, bk_wa σ.1 s d k), τ) ∧ ag σ τ := by
  have hN : ((bk_n σ.1 : Nat) : Int) = σ.1 305 22 := Int.toNat_of_nonneg hB.1.1
  obtain ⟨τ, q1, q2, q3⟩ := M_gather hB s d k
  refine ⟨τ, ?_, q2⟩
  have hln : ∀ i ∈ bk_hl σ.1 s d k, i < 600 := fun i hi => by
    have := (bk_ch_mem.mp (List.mem_filter.mp hi).1).1
    have := hB.1.2
    omega
  have hle : (bk_hl σ.1 s d k).length ≤ 600 := by
    have := bk_chf_len (m := σ.1) (s := s) (p := bk_H σ.1 d k) (n := bk_n σ.1)
    have := hB.1.2
    show ((bk_ch σ.1 s (bk_n σ.1)).filter (bk_H σ.1 d k)).length ≤ 600
    omega
  have hw : bk_wa σ.1 s d k = bk_wc τ.1 0 (bk_hl σ.1 s d k) := by
    rw [← bk_wa_ag q2]
    unfold bk_wa
    rw [bk_hl_ag q2]
  rw [qM_washesOf_0, q1, Option.bind_some, qM_washesOf_7, hw]
  cases hl : bk_hl σ.1 s d k with
  | nil =>
    rw [hl] at q3
    rw [qM_washesOf_13, if_neg (by rw [q3.1]; decide)]
    rfl
  | cons x l =>
    rw [hl] at q3 hln hle
    have := M_washesOf_13 q3 hle hln (0, s) (0, d) (xkl (0, k)) l.length 1 0 (by rw [List.length_cons]; omega) (Nat.le_refl 1) (Int.le_refl 0) (by omega)
    refine this.trans ?_
    show some ((0, 0 + bk_wc τ.1 (τ.1 320 x) l), τ) = some ((0, (if (0 : Int) = 2 ∧ τ.1 320 x = 0 then 1 else 0) + bk_wc τ.1 (τ.1 320 x) l), τ)
    rw [if_neg fun q => absurd q.1 (by decide)]
/-- nights -/
def sm (f : Int → Int) : Nat → Int → Int
  | 0, _ => 0
  | t + 1, x => f x + sm f t (x + 1)
theorem sm_add (f : Int → Int) : ∀ (t u : Nat) (x : Int), sm f (t + u) x = sm f t x + sm f u (x + t)
  | 0, u, x => by
    rw [Nat.zero_add, show x + ((0 : Nat) : Int) = x by omega]
    show sm f u x = 0 + sm f u x
    omega
  | t + 1, u, x => by
    rw [show t + 1 + u = (t + u) + 1 by omega]
    show f x + sm f (t + u) (x + 1) = f x + sm f t (x + 1) + sm f u (x + ((t + 1 : Nat) : Int))
    rw [sm_add f t u (x + 1), show x + 1 + (t : Int) = x + ((t + 1 : Nat) : Int) by omega]
    omega
theorem sm_cg {f g : Int → Int} : ∀ (t : Nat) (x : Int), (∀ y, x ≤ y → y < x + t → f y = g y) → sm f t x = sm g t x
  | 0, _, _ => rfl
  | t + 1, x, h => by
    show f x + sm f t (x + 1) = g x + sm g t (x + 1)
    rw [h x (Int.le_refl _) (by omega), sm_cg t (x + 1) fun y a b => h y (by omega) (by omega)]
theorem sm_c (v : Int) : ∀ (t : Nat) (x : Int), sm (fun _ => v) t x = v * t
  | 0, _ => by simp [sm]
  | t + 1, x => by
    show v + sm (fun _ => v) t (x + 1) = v * ((t + 1 : Nat) : Int)
    rw [sm_c v t (x + 1), Int.natCast_succ, Int.mul_add, Int.mul_one, Int.add_comm]
theorem sm_le {f : Int → Int} (hf : ∀ x, 0 ≤ f x ∧ f x ≤ 1) : ∀ (t : Nat) (x : Int), 0 ≤ sm f t x ∧ sm f t x ≤ t
  | 0, _ => ⟨Int.le_refl _, Int.le_refl _⟩
  | t + 1, x => by
    have h1 := sm_le hf t (x + 1)
    have h2 := hf x
    show 0 ≤ f x + sm f t (x + 1) ∧ f x + sm f t (x + 1) ≤ ((t + 1 : Nat) : Int)
    omega
def bk_at (m : Nat → Nat → Int) (s P k x : Int) : Int := if bk_pl m s x k = P then 1 else 0
theorem bk_at_le {m : Nat → Nat → Int} {s P k : Int} (x : Int) : 0 ≤ bk_at m s P k x ∧ bk_at m s P k x ≤ 1 := by
  unfold bk_at
  split <;> omega
theorem M_nights_32 {σ : xS} (hB : bk_B σ.1) {s h d k : Int} (hd : d ≤ 1000) (hh : 0 ≤ h ∧ h < 8) : ∀ (t : Nat) (x c : Int), x + t = d + 1 → 0 ≤ x → 0 ≤ c → c ≤ x → X iM_nights 32 [(2, 305), (0, s), (0, h), (0, d), (0, k), (0, c), (0, x)] [] σ = some ((0, c + sm (bk_at σ.1 s (10 + h) k) t x), σ) := by
  intro t
  induction t with
  | zero =>
    intro x c hx h0 hc0 hc
    rw [qM_nights_32, if_pos (by omega)]
    show some ((0, c), σ) = some ((0, c + 0), σ)
    rw [Int.add_zero]
  | succ t ih =>
    intro x c hx h0 hc0 hc
    rw [qM_nights_32, if_neg (by omega), M_placeOf hB, Option.bind_some, qM_nights_47, xw_id (x := x + 1) (by omega) (by omega), xw_id (x := c + 1) (by omega) (by omega), xw_id (x := 10 + h) (by omega) (by omega)]
    show _ = some ((0, c + (bk_at σ.1 s (10 + h) k x + sm (bk_at σ.1 s (10 + h) k) t (x + 1))), σ)
    by_cases e : bk_pl σ.1 s x k = 10 + h
    · rw [if_pos e, ih _ _ (by omega) (by omega) (by omega) (by omega), show bk_at σ.1 s (10 + h) k x = 1 from if_pos e, Int.add_assoc]
    · rw [if_neg e, ih _ _ (by omega) (by omega) (by omega) (by omega), show bk_at σ.1 s (10 + h) k x = 0 from if_neg e, Int.zero_add]
def bk_nc (m : Nat → Nat → Int) (P d : Int) : Int → Int → List Nat → Int
  | a, c, [] => if a = P then d + 1 - c else 0
  | a, c, i :: l => (if a = P then m 319 i - c else 0) + bk_nc m P d (m 320 i) (m 319 i) l
def bk_plc (m : Nat → Nat → Int) (x : Int) (a : Int) (l : List Nat) : Int := l.foldl (fun a i => if m 319 i ≤ x then m 320 i else a) a
theorem bk_plc_gt {m : Nat → Nat → Int} {x : Int} : ∀ {l : List Nat} {a : Int}, (∀ i ∈ l, x < m 319 i) → bk_plc m x a l = a
  | [], _, _ => rfl
  | i :: l, a, h => by
    have h1 := h i List.mem_cons_self
    show bk_plc m x (if m 319 i ≤ x then m 320 i else a) l = a
    rw [if_neg (by omega)]
    exact bk_plc_gt fun j hj => h j (List.mem_cons_of_mem _ hj)
theorem bk_nc_sm {m : Nat → Nat → Int} {P d : Int} : ∀ {l : List Nat} {a c : Int} {t : Nat}, bk_so (m 319) l → (∀ i ∈ l, c ≤ m 319 i ∧ m 319 i ≤ d) → c + t = d + 1 → sm (fun x => if bk_plc m x a l = P then 1 else 0) t c = bk_nc m P d a c l
  | [], a, c, t, _, _, hc => by
    show sm (fun x => if a = P then 1 else 0) t c = if a = P then d + 1 - c else 0
    rw [sm_c]
    by_cases h : a = P
    · rw [if_pos h, if_pos h]; omega
    · rw [if_neg h, if_neg h]; omega
  | i :: l, a, c, t, hs, hd, hc => by
    have hi := hd i List.mem_cons_self
    obtain ⟨t1, h1⟩ : ∃ t1 : Nat, m 319 i = c + t1 := ⟨(m 319 i - c).toNat, by omega⟩
    obtain ⟨t2, h2⟩ : ∃ t2 : Nat, t = t1 + t2 := ⟨t - t1, by omega⟩
    subst h2
    rw [sm_add]
    show _ = (if a = P then m 319 i - c else 0) + bk_nc m P d (m 320 i) (m 319 i) l
    rw [sm_cg (g := fun _ => if a = P then 1 else 0) t1 c fun y _ hy => by
      rw [bk_plc_gt]
      intro j hj
      rcases List.mem_cons.mp hj with rfl | hj
      · omega
      · have := hs.1 j hj
        omega]
    rw [sm_cg (g := fun x => if bk_plc m x (m 320 i) l = P then 1 else 0) t2 (c + t1) fun y hy _ => by
      show (if bk_plc m y (if m 319 i ≤ y then m 320 i else a) l = P then (1 : Int) else 0) = _
      rw [if_pos (show m 319 i ≤ y by omega)]]
    rw [← h1, bk_nc_sm hs.2 (fun j hj => ⟨hs.1 j hj, (hd j (List.mem_cons_of_mem _ hj)).2⟩) (by omega), sm_c]
    congr 1
    by_cases h : a = P
    · rw [if_pos h, if_pos h]; omega
    · rw [if_neg h, if_neg h]; omega
theorem bk_pl_plc {m : Nat → Nat → Int} {s d k x : Int} (hx : x ≤ d) : bk_pl m s x k = bk_plc m x 0 (bk_hl m s d k) := by
  have e1 : bk_hl m s x k = (bk_hl m s d k).filter fun i => decide (m 319 i ≤ x) := by
    unfold bk_hl
    rw [List.filter_filter]
    congr 1
    funext i
    unfold bk_H
    by_cases h : m 319 i ≤ x
    · rw [decide_eq_true h, decide_eq_true (show m 319 i ≤ d by omega)]
      simp
    · rw [decide_eq_false h]
      simp
  have key : ∀ (l : List Nat) (b : Int), (if bk_l b (l.filter fun i => decide (m 319 i ≤ x)) < 0 then 0 else m 320 (bk_l b (l.filter fun i => decide (m 319 i ≤ x))).toNat) = bk_plc m x (if b < 0 then 0 else m 320 b.toNat) l := by
    intro l
    induction l with
    | nil => intro b; rfl
    | cons i l ih =>
      intro b
      rw [List.filter_cons]
      show _ = bk_plc m x (if m 319 i ≤ x then m 320 i else (if b < 0 then 0 else m 320 b.toNat)) l
      by_cases h : m 319 i ≤ x
      · rw [if_pos h, if_pos (decide_eq_true h), bk_l_cons, ih, if_neg (by omega), Int.toNat_natCast]
      · rw [if_neg h, if_neg (show ¬ decide (m 319 i ≤ x) = true by rw [decide_eq_false h]; decide), ih]
  have := key (bk_hl m s d k) (-1)
  rw [if_pos (show (-1 : Int) < 0 by decide)] at this
  rw [← this]
  unfold bk_pl bk_last
  rw [e1]
/-- how many there are -/
def bk_my (m : Nat → Nat → Int) (P so d k : Int) : Nat → Int
  | 0 => 0
  | n + 1 => bk_my m P so d k n + if m 315 n = so ∧ bk_ask m n d k ∧ bk_pl m n d k = P then 1 else 0
theorem bk_my_le {m : Nat → Nat → Int} {P so d k : Int} : ∀ {n : Nat}, 0 ≤ bk_my m P so d k n ∧ bk_my m P so d k n ≤ n
  | 0 => ⟨Int.le_refl _, Int.le_refl _⟩
  | n + 1 => by
    have := bk_my_le (m := m) (P := P) (so := so) (d := d) (k := k) (n := n)
    show 0 ≤ bk_my m P so d k n + _ ∧ bk_my m P so d k n + _ ≤ ((n + 1 : Nat) : Int)
    split <;> omega
def bk_many (m : Nat → Nat → Int) (P so d k : Int) : Int := bk_my m P so d k (m 305 15).toNat
theorem bk_many_le {m : Nat → Nat → Int} (hB : bk_B m) {P so d k : Int} : 0 ≤ bk_many m P so d k ∧ bk_many m P so d k ≤ 150 := by
  have := bk_my_le (m := m) (P := P) (so := so) (d := d) (k := k) (n := (m 305 15).toNat)
  have := hB.2
  unfold bk_many
  omega
theorem M_manyAt_6 {σ : xS} (hB : bk_B σ.1) (P so d k : Int) : ∀ (t i : Nat), i + t = (σ.1 305 15).toNat → X iM_manyAt 6 [(2, 305), (0, P), (0, so), (0, d), (0, k), (0, bk_my σ.1 P so d k i), (0, (i : Int))] [] σ = some ((0, bk_many σ.1 P so d k), σ) := by
  intro t
  have h15 := hB.2
  induction t with
  | zero =>
    intro i hi
    rw [qM_manyAt_6, if_neg (by omega), show i = (σ.1 305 15).toNat by omega]
    rfl
  | succ t ih =>
    intro i hi
    have hx : xin (i : Int) 150 := ⟨by omega, by omega⟩
    have nx : xw ((i : Int) + 1) = ((i + 1 : Nat) : Int) := by rw [xw_id (by omega) (by omega)]; omega
    have hl := bk_my_le (m := σ.1) (P := P) (so := so) (d := d) (k := k) (n := i)
    have nc : xw (bk_my σ.1 P so d k i + 1) = bk_my σ.1 P so d k i + 1 := xw_id (by omega) (by omega)
    have k1 := ih (i + 1) (by omega)
    rw [show bk_my σ.1 P so d k (i + 1) = bk_my σ.1 P so d k i + if σ.1 315 i = so ∧ bk_ask σ.1 i d k ∧ bk_pl σ.1 i d k = P then 1 else 0 from rfl] at k1
    rw [qM_manyAt_6, if_pos (by omega), if_pos hx, Int.toNat_natCast, nx]
    by_cases a1 : σ.1 315 i = so
    · rw [if_pos a1, M_isAsked hB, Option.bind_some, qM_manyAt_35, nx]
      by_cases a2 : bk_ask σ.1 i d k
      · rw [if_pos a2, if_neg (by decide), M_placeOf hB, Option.bind_some, qM_manyAt_47, nx, nc]
        by_cases a3 : bk_pl σ.1 i d k = P
        · rw [if_pos a3]
          rw [if_pos ⟨a1, a2, a3⟩] at k1
          exact k1
        · rw [if_neg a3]
          rw [if_neg fun q => a3 q.2.2, Int.add_zero] at k1
          exact k1
      · rw [if_neg a2, if_pos rfl]
        rw [if_neg fun q => a2 q.2.1, Int.add_zero] at k1
        exact k1
    · rw [if_neg a1]
      rw [if_neg fun q => a1 q.1, Int.add_zero] at k1
      exact k1
theorem M_manyAt {σ : xS} (hB : bk_B σ.1) (P so d k : Int) : X iM_manyAt 0 [(2, 305), (0, P), (0, so), (0, d), (0, k), (9, 0), (9, 0)] [] σ = some ((0, bk_many σ.1 P so d k), σ) := by
  rw [qM_manyAt_0]
  exact M_manyAt_6 hB P so d k (σ.1 305 15).toNat 0 (by omega)

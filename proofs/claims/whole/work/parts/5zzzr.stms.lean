/-! every statement on both sides -/
section STS
variable {B : Nat → Int} {n C : Nat} {A : Nat → Nat → Int} {F M S : Nat} {cs : Nat → Nat} {σ0 σ τ υ : xS} {j c c0 k q a : Nat} {f : Nat → Nat → Int}
/-- the reader's own and node a alone have changed -/
def rfa (σ τ : xS) (a : Nat) : Prop := τ.2 = σ.2 ∧ (∀ x, x ≠ 297 → x ≠ a → τ.1 x = σ.1 x) ∧ ∀ k, ¬ rsm k → τ.1 297 k = σ.1 297 k
theorem rfa_rf (h : rf σ τ) (a : Nat) : rfa σ τ a := ⟨h.1, fun x h1 _ => h.2.1 x h1, h.2.2⟩
theorem rfa_tr (h : rfa σ τ a) (k : rfa τ υ a) : rfa σ υ a := ⟨k.1.trans h.1, fun x h1 h2 => (k.2.1 x h1 h2).trans (h.2.1 x h1 h2), fun i hi => (k.2.2 i hi).trans (h.2.2 i hi)⟩
theorem rfa_s (h : rfa σ τ a) (ha : a ≠ 297) (i : Nat) (v : Int) : rfa σ (xs τ a i v) a := ⟨h.1, fun x h1 h2 => by rw [xs_ne h2]; exact h.2.1 x h1 h2, fun i hi => by rw [xs_ne (Ne.symm ha)]; exact h.2.2 i hi⟩
theorem gz_rfa (h : gz σ0 σ k q) (g : rfa σ τ a) (ha : nn σ0 ≤ a) : gz σ0 τ k q := by
  obtain ⟨h1, h2, h3, h4, h5⟩ := h
  exact ⟨by rw [g.1]; exact h1, by rw [g.1]; exact h2, by rw [g.1]; exact h3, fun x x1 x2 => by rw [g.2.1 x x1 (by omega)]; exact h4 x x1 x2, fun i hi => (g.2.2 i hi).trans (h5 i hi)⟩
theorem C_pair (hr : rst σ.1 B n C 0 j) (ha : nd σ.2.1 a) (hq : q < 32) : (t_c B n j = 3 → tW B n (j + 1) (kcd q) → t_c B n (j + 1 + 1) = 3 → ∃ τ, X iReader_readPair 0 [(2, 297), (2, (a : Int)), (2, ((2 + q : Nat) : Int))] [] σ = some ((9, 0), τ) ∧ rst τ.1 B n C 0 (j + 1 + 1 + 1) ∧ rfa σ τ a ∧ τ.1 a 1 = t_n B n j ∧ τ.1 a 2 = t_n B n (j + 1 + 1) ∧ ∀ i, i ≠ 1 → i ≠ 2 → τ.1 a i = σ.1 a i) ∧ (t_c B n j ≠ 3 → ∃ τ, X iReader_readPair 0 [(2, 297), (2, (a : Int)), (2, ((2 + q : Nat) : Int))] [] σ = some ((9, 0), τ) ∧ rft τ.1 B n j ∧ rfa σ τ a) ∧ (t_c B n j = 3 → ¬ tW B n (j + 1) (kcd q) → ∃ τ, X iReader_readPair 0 [(2, 297), (2, (a : Int)), (2, ((2 + q : Nat) : Int))] [] σ = some ((9, 0), τ) ∧ rft τ.1 B n (j + 1) ∧ rfa σ τ a) ∧ (t_c B n j = 3 → tW B n (j + 1) (kcd q) → t_c B n (j + 1 + 1) ≠ 3 → ∃ τ, X iReader_readPair 0 [(2, 297), (2, (a : Int)), (2, ((2 + q : Nat) : Int))] [] σ = some ((9, 0), τ) ∧ rft τ.1 B n (j + 1 + 1) ∧ rfa σ τ a) := by
  have h392 := ha.1
  have h297 : a ≠ 297 := by omega
  obtain ⟨n1, n2⟩ := C_passNumber hr
  have wr : ∀ {υ : xS} {x : Nat} (i : Nat) (v : Int), rst υ.1 B n C 0 x → rst (xs υ a i v).1 B n C 0 x := fun i v h => rst_cg h fun x hx => xs_ne (by omega)
  have wf : ∀ {υ : xS} {x : Nat} (i : Nat) (v : Int), rft υ.1 B n x → rft (xs υ a i v).1 B n x := fun i v h => rft_cg h (xs_ne (by omega))
  refine ⟨fun t1 t2 t3 => ?_, fun t1 => ?_, fun t1 t2 => ?_, fun t1 t2 t3 => ?_⟩
  · obtain ⟨τ1, a1, a2, a3⟩ := n1 t1
    have d1 : nd τ1.2.1 a := by rw [a3.1]; exact ha
    obtain ⟨τ2, b1, b2, b3⟩ := (C_passWord (wr 1 (t_n B n j) a2) hq).1 t2
    obtain ⟨τ3, e1, e2, e3⟩ := (C_passNumber b2).1 t3
    have d3 : nd τ3.2.1 a := by rw [e3.1, b3.1]; exact d1
    refine ⟨xs τ3 a 2 (t_n B n (j + 1 + 1)), ?_, wr 2 _ e2, rfa_s (rfa_tr (rfa_s (rfa_rf a3 a) h297 1 _) (rfa_tr (rfa_rf b3 a) (rfa_rf e3 a))) h297 2 _, ?_, ?_, fun i i1 i2 => ?_⟩
    · rw [qReader_readPair_0, a1, Option.bind_some, qReader_readPair_5, nd_o d1, cnd_t, nd_wr d1, xob_some, b1, Option.bind_some, qReader_readPair_13, e1, Option.bind_some, qReader_readPair_19, nd_o d3, cnd_t, nd_wr d3, xob_some]
    · rw [xs_at, xup_ne (by decide), e3.2.1 a h297, b3.2.1 a h297, xs_at, xup_eq]
    · rw [xs_at, xup_eq]
    · rw [xs_at, xup_ne i2, e3.2.1 a h297, b3.2.1 a h297, xs_at, xup_ne i1, a3.2.1 a h297]
  · obtain ⟨τ1, a1, a2, a3⟩ := n2 t1
    have d1 : nd τ1.2.1 a := by rw [a2.1]; exact ha
    have d2 : nd (xs τ1 a 1 (-1)).2.1 a := d1
    refine ⟨xs (xs τ1 a 1 (-1)) a 2 (-1), ?_, wf 2 _ (wf 1 _ a3), rfa_s (rfa_s (rfa_rf a2 a) h297 1 _) h297 2 _⟩
    rw [qReader_readPair_0, a1, Option.bind_some, qReader_readPair_5, nd_o d1, cnd_t, nd_wr d1, xob_some, C_passWord_x (wf 1 _ a3), Option.bind_some, qReader_readPair_13, C_passNumber_x (wf 1 _ a3), Option.bind_some, qReader_readPair_19, nd_o d2, cnd_t, nd_wr d2, xob_some]
  · obtain ⟨τ1, a1, a2, a3⟩ := n1 t1
    have d1 : nd τ1.2.1 a := by rw [a3.1]; exact ha
    obtain ⟨τ2, b1, b2, b3⟩ := (C_passWord (wr 1 (t_n B n j) a2) hq).2 t2
    have d2 : nd τ2.2.1 a := by rw [b2.1]; exact d1
    refine ⟨xs τ2 a 2 (-1), ?_, wf 2 _ b3, rfa_s (rfa_tr (rfa_s (rfa_rf a3 a) h297 1 _) (rfa_rf b2 a)) h297 2 _⟩
    rw [qReader_readPair_0, a1, Option.bind_some, qReader_readPair_5, nd_o d1, cnd_t, nd_wr d1, xob_some, b1, Option.bind_some, qReader_readPair_13, C_passNumber_x b3, Option.bind_some, qReader_readPair_19, nd_o d2, cnd_t, nd_wr d2, xob_some]
  · obtain ⟨τ1, a1, a2, a3⟩ := n1 t1
    have d1 : nd τ1.2.1 a := by rw [a3.1]; exact ha
    obtain ⟨τ2, b1, b2, b3⟩ := (C_passWord (wr 1 (t_n B n j) a2) hq).1 t2
    obtain ⟨τ3, e1, e2, e3⟩ := (C_passNumber b2).2 t3
    have d3 : nd τ3.2.1 a := by rw [e2.1, b3.1]; exact d1
    refine ⟨xs τ3 a 2 (-1), ?_, wf 2 _ e3, rfa_s (rfa_tr (rfa_s (rfa_rf a3 a) h297 1 _) (rfa_tr (rfa_rf b3 a) (rfa_rf e2 a))) h297 2 _⟩
    rw [qReader_readPair_0, a1, Option.bind_some, qReader_readPair_5, nd_o d1, cnd_t, nd_wr d1, xob_some, b1, Option.bind_some, qReader_readPair_13, e1, Option.bind_some, qReader_readPair_19, nd_o d3, cnd_t, nd_wr d3, xob_some]
theorem C_party (hr : rst σ.1 B n C 0 j) (ha : nd σ.2.1 a) : (∀ p : Int, (p = 0 ∧ tW B n j 4562600) ∨ (p = 1 ∧ tW B n j 12531826) ∨ (p = 2 ∧ tW B n j 326280) → ∃ τ, X iReader_readParty 0 [(2, 297), (2, (a : Int))] [] σ = some ((9, 0), τ) ∧ rst τ.1 B n C 0 (j + 1) ∧ rfa σ τ a ∧ τ.1 a 3 = 9 + p ∧ ∀ i, i ≠ 3 → τ.1 a i = σ.1 a i) ∧ (¬ tW B n j 4562600 → ¬ tW B n j 12531826 → ¬ tW B n j 326280 → ∃ τ, X iReader_readParty 0 [(2, 297), (2, (a : Int))] [] σ = some ((9, 0), τ) ∧ rft τ.1 B n j ∧ rfa σ τ a) := by
  have h392 := ha.1
  have h297 : a ≠ 297 := by omega
  obtain ⟨f1, f2, f3, f4⟩ := rst_f hr
  have w7 : (xcm (σ.1 297 9) && xcm 9) = true ∧ (σ.1 297 9 = 9 ↔ tW B n j 4562600) := wd_at hr (q := 7) (by decide)
  have w8 : (xcm (σ.1 297 9) && xcm 10) = true ∧ (σ.1 297 9 = 10 ↔ tW B n j 12531826) := wd_at hr (q := 8) (by decide)
  have w9 : (xcm (σ.1 297 9) && xcm 11) = true ∧ (σ.1 297 9 = 11 ↔ tW B n j 326280) := wd_at hr (q := 9) (by decide)
  refine ⟨fun p hp => ?_, fun n1 n2 n3 => ?_⟩
  · have ek : σ.1 297 9 = 9 + p := by
      rcases hp with ⟨rfl, h⟩ | ⟨rfl, h⟩ | ⟨rfl, h⟩
      · exact w7.2.mpr h
      · exact w8.2.mpr h
      · exact w9.2.mpr h
    have ht : t_c B n j ≠ 1 := by rcases hp with ⟨_, h⟩ | ⟨_, h⟩ | ⟨_, h⟩ <;> (rw [h.1]; decide)
    have hr1 : rst (xs σ a 3 (σ.1 297 9)).1 B n C 0 j := rst_cg hr fun x hx => xs_ne (by omega)
    obtain ⟨τ, a1, a2, a3⟩ := C_step hr1 ht
    refine ⟨τ, ?_, a2, rfa_tr (rfa_s (rfa_rf rf_rf a) h297 3 _) (rfa_rf a3 a), by rw [a3.2.1 a h297, xs_at, xup_eq]; exact ek, fun i hi => by rw [a3.2.1 a h297, xs_at, xup_ne hi]⟩
    rcases hp with ⟨rfl, h⟩ | ⟨rfl, h⟩ | ⟨rfl, h⟩
    · rw [qReader_readParty_0, w7.1, cnd_t, if_pos (w7.2.mpr h), nd_o ha, cnd_t, nd_wr ha, xob_some, a1, Option.bind_some, qReader_readParty_48]
    · rw [qReader_readParty_0, w7.1, cnd_t, if_neg (show ¬ σ.1 297 9 = 9 by omega), w8.1, cnd_t, if_pos (w8.2.mpr h), nd_o ha, cnd_t, nd_wr ha, xob_some, a1, Option.bind_some, qReader_readParty_48]
    · rw [qReader_readParty_0, w7.1, cnd_t, if_neg (show ¬ σ.1 297 9 = 9 by omega), w8.1, cnd_t, if_neg (show ¬ σ.1 297 9 = 10 by omega), w9.1, cnd_t, if_pos (w9.2.mpr h), nd_o ha, cnd_t, nd_wr ha, xob_some, a1, Option.bind_some, qReader_readParty_48]
  · exact ⟨_, by rw [qReader_readParty_0, w7.1, cnd_t, if_neg (fun z => n1 (w7.2.mp z)), w8.1, cnd_t, if_neg (fun z => n2 (w8.2.mp z)), w9.1, cnd_t, if_neg (fun z => n3 (w9.2.mp z)), if_pos hr.2.2.2, if_pos f2, f1], f4, rfa_rf f3 a⟩
/-- a fault in a statement's head -/
theorem SBAD {w : Nat} (hX : X iReader_readStatement 0 [(2, 297), (9, 0)] [] σ = some ((2, 0), υ)) (h1 : rft υ.1 B n w) (h2 : gz σ υ k q) (h3 : j ≤ w ∧ w ≤ C ∧ k ≤ 5 ∧ q ≤ 48) (hM : ∀ τ, tq B n A F S τ.1 (-1) j c f → ∃ τ', X iM_tells 0 [(2, 305), (0, (S : Int))] [] τ = some ((9, 0), τ') ∧ tz B n F S τ'.1 (t_s B n w : Int) ∧ fq F c0 τ τ') : stO B n C A F S c0 σ j c f := Or.inr ⟨υ, k, q, w, hX, h1, h2, by omega, hM⟩
set_option maxHeartbeats 1000000 in
theorem ST0 (hnw : ∀ i, i < M → A 0 (F + i) = 0 → ∀ q, q < 32 → A 6 (F + i) ≠ kcd q) (hS : S = F + M) (hr : rst σ.1 B n C 0 j) (hl : ltc σ.1 σ.2.1 (A 0) (A 6) F M cs) (hn13 : σ.1 297 13 = (lkc (A 0) F M : Int)) (hd : 400 ≤ xdp σ) (hc : c + (C - j) < 3300) (h0 : c0 ≤ c) (hw : tW B n j (kcd 0)) : stO B n C A F S c0 σ j c f := by
  obtain ⟨τ1, x1, x2, x3, x4, x5⟩ := C_st0_h hr hw
  have hj := tc_lt hr (by rw [hw.1]; decide)
  have n1 := nn_ge (σ := σ)
  have g1 : gz σ τ1 1 8 := gz_hg x3
  have gn := gz_nn g1
  have hA : ∀ i, i < M → xup (A 0) S 0 (F + i) = A 0 (F + i) ∧ xup (A 6) S (t_w B n (j + 1)) (F + i) = A 6 (F + i) := fun i hi => ⟨xup_ne (by omega), xup_ne (by omega)⟩
  have hl1 : ltc τ1.1 τ1.2.1 (xup (A 0) S 0) (xup (A 6) S (t_w B n (j + 1))) F M cs := ltc_cg hA (gz_ltc g1 hl)
  have hnw1 : ∀ i, i < M → xup (A 0) S 0 (F + i) = 0 → ∀ q, q < 32 → xup (A 6) S (t_w B n (j + 1)) (F + i) ≠ kcd q := fun i hi => by
    rw [(hA i hi).1, (hA i hi).2]
    exact hnw i hi
  by_cases hm : nmo B n (xup (A 0) S 0) (xup (A 6) S (t_w B n (j + 1))) F M (j + 1)
  · obtain ⟨τ2, y1, y2, y3, y4, y5, y6, y7⟩ := C_newName g1 x4 (Nat.le_refl _) x2 hl1 hm
    refine HOK (σ1 := τ2) (a := nn σ) (kd := 0) (na := -1) (nb := -1) (nm := some (t_w B n (j + 1))) (k := 1 + 4) (q := 8 + 40) (j1 := j + 1 + 1) hnw hS (by decide) y4 (Nat.le_refl _) (by rw [y7 0 (by decide) (by decide), x5]; rfl) (by rw [y7 6 (by decide) (by decide), x5]; rfl) (by rw [y7 7 (by decide) (by decide), x5]; rfl) y2 hl y3 (by omega) hd hc h0 ?_ (fun τ hτ => ?_) (fun _ => ⟨?_, ?_⟩) (fun h => absurd h (by decide)) (fun h => absurd h (by decide)) (fun h => absurd h (by decide)) (fun h => absurd h (by decide)) (fun _ q hq => ?_) ?_
    · rw [x1, qReader_readStatement_128, y1, Option.bind_some, qReader_readStatement_133, if_pos y2.2.2.2]
    · obtain ⟨τa, z1, z2, z3⟩ := M_h0 (c0 := c0) hτ hw
      obtain ⟨τb, z4, z5, z6⟩ := (M_let (c0 := c0) z2 hS hnw1).1 hm
      exact ⟨τb, by rw [z1, z4], z5, fq_tr z3 z6⟩
    · rw [y6, x3.2.2.2.2 13 (by unfold rsm; omega), hn13]
      exact congrArg (fun z : Nat => (z : Int)) (lkc_cg fun i _ _ => xup_ne (by omega)).symm
    · have e6 : hdA A S c 0 (-1) (-1) (some (t_w B n (j + 1))) 6 S = t_w B n (j + 1) := xup_eq
      rw [e6]; exact y5
    · have e6 : hdA A S c 0 (-1) (-1) (some (t_w B n (j + 1))) 6 S = t_w B n (j + 1) := xup_eq
      rw [e6]
      rcases t_k_cases (B := B) (n := n) (j := j + 1) with ⟨_, h2⟩ | ⟨q', _, h2, _⟩
      · exact fun e => h2 q hq ⟨hm.1, e⟩
      · have := hm.2.1
        rw [h2] at this
        omega
    · have e6 : hdA A S c 0 (-1) (-1) (some (t_w B n (j + 1))) 6 S = t_w B n (j + 1) := xup_eq
      have p1 := pk_w hw 2 (by decide) (by decide)
      have p2 := l27_tok hm.1 (nam_pos y5)
      rw [shw_hd, if_pos rfl, e6]
      omega
  · obtain ⟨τ2, y1, y2, y3⟩ := C_newName_no x2 hl1 ((nn σ : Nat) : Int) hm
    refine SBAD (υ := τ2) (k := 1 + 0) (q := 8 + 0) (w := j + 1) ?_ y3 (gz_tr g1 (gz_rf y2)) (by omega) fun τ hτ => ?_
    · rw [x1, qReader_readStatement_128, y1, Option.bind_some, qReader_readStatement_133, if_neg (rft_n y3)]
    · obtain ⟨τa, z1, z2, z3⟩ := M_h0 (c0 := c0) hτ hw
      obtain ⟨τb, z4, z5, z6⟩ := (M_let (c0 := c0) z2 hS hnw1).2 hm
      exact ⟨τb, by rw [z1, z4], z5, fq_tr z3 z6⟩
set_option maxHeartbeats 1000000 in
theorem ST1 (hnw : ∀ i, i < M → A 0 (F + i) = 0 → ∀ q, q < 32 → A 6 (F + i) ≠ kcd q) (hS : S = F + M) (hr : rst σ.1 B n C 0 j) (hl : ltc σ.1 σ.2.1 (A 0) (A 6) F M cs) (hn13 : σ.1 297 13 = (lkc (A 0) F M : Int)) (hd : 400 ≤ xdp σ) (hc : c + (C - j) < 3300) (h0 : c0 ≤ c) (hw : tW B n j (kcd 1)) : stO B n C A F S c0 σ j c f := by
  obtain ⟨τ1, x1, x2, x3, x4, x5⟩ := C_st1_h hr hw
  have hj := tc_lt hr (by rw [hw.1]; decide)
  have n1 := nn_ge (σ := σ)
  have g1 : gz σ τ1 1 8 := gz_hg x3
  have gn := gz_nn g1
  by_cases t3 : t_c B n (j + 1) = 3
  · obtain ⟨τ2, y1, y2, y3⟩ := (C_passNumber x2).1 t3
    have d2 : nd τ2.2.1 (nn σ) := by rw [y3.1]; exact x4
    have rr : rst (xs τ2 (nn σ) 1 (t_n B n (j + 1))).1 B n C 0 (j + 1 + 1) := rst_cg y2 fun x hx => xs_ne (by omega)
    have y7 : ∀ i, i ≠ 1 → (xs τ2 (nn σ) 1 (t_n B n (j + 1))).1 (nn σ) i = τ1.1 (nn σ) i := fun i hi => by rw [xs_at, xup_ne hi, y3.2.1 _ (by omega)]
    have tb := t_n_bd t3
    refine HOK (σ1 := xs τ2 (nn σ) 1 (t_n B n (j + 1))) (a := nn σ) (kd := 1) (na := t_n B n (j + 1)) (nb := -1) (nm := none) (k := 1 + 0) (q := 8 + 0) (j1 := j + 1 + 1) hnw hS (by decide) d2 (Nat.le_refl _) (by rw [y7 0 (by decide), x5]; rfl) (by rw [y7 6 (by decide), x5]; rfl) (by rw [y7 7 (by decide), x5]; rfl) rr hl (gz_s (gz_tr g1 (gz_rf y3)) (Nat.le_refl _) 1 _) (by omega) hd hc h0 ?_ (fun τ hτ => ?_) (fun h => absurd h (by decide)) (fun _ => ⟨by rw [xs_at, xup_eq], by omega, tb.2⟩) (fun h => absurd h (by decide)) (fun h => absurd h (by decide)) (fun h => absurd h (by decide)) (fun h => absurd h (by decide)) (by
      have p1 := pk_w hw 4 (by decide) (by decide)
      have p2 := d10_tok t3
      rw [shw_hd, if_neg (by decide), if_pos rfl, if_pos tb.1]
      omega)
    · rw [x1, qReader_readStatement_140, (tc_at x2).trans t3, if_pos rfl, y1, Option.bind_some, qReader_readStatement_153, nd_o d2, cnd_t, nd_wr d2, xob_some, if_pos rr.2.2.2]
    · obtain ⟨τa, z1, z2, z3⟩ := M_h1 (c0 := c0) hτ hw
      obtain ⟨τb, z4, z5, z6⟩ := (M_price (c0 := c0) z2).1 t3
      exact ⟨τb, by rw [z1, z4], z5, fq_tr z3 z6⟩
  · have rr : rst (xs τ1 (nn σ) 1 (-1)).1 B n C 0 (j + 1) := rst_cg x2 fun x hx => xs_ne (by omega)
    have y7 : ∀ i, i ≠ 1 → (xs τ1 (nn σ) 1 (-1)).1 (nn σ) i = τ1.1 (nn σ) i := fun i hi => by rw [xs_at, xup_ne hi]
    refine HOK (σ1 := xs τ1 (nn σ) 1 (-1)) (a := nn σ) (kd := 1) (na := -1) (nb := -1) (nm := none) (k := 1) (q := 8) (j1 := j + 1) hnw hS (by decide) x4 (Nat.le_refl _) (by rw [y7 0 (by decide), x5]; rfl) (by rw [y7 6 (by decide), x5]; rfl) (by rw [y7 7 (by decide), x5]; rfl) rr hl (gz_s g1 (Nat.le_refl _) 1 _) (by omega) hd hc h0 ?_ (fun τ hτ => ?_) (fun h => absurd h (by decide)) (fun _ => ⟨by rw [xs_at, xup_eq], by decide, by decide⟩) (fun h => absurd h (by decide)) (fun h => absurd h (by decide)) (fun h => absurd h (by decide)) (fun h => absurd h (by decide)) (by
      have p1 := pk_w hw 4 (by decide) (by decide)
      rw [shw_hd, if_neg (by decide), if_pos rfl, if_neg (by decide)]
      omega)
    · rw [x1, qReader_readStatement_140, tc_at x2, if_neg t3, nd_o x4, cnd_t, nd_wr x4, xob_some, if_pos rr.2.2.2]
    · obtain ⟨τa, z1, z2, z3⟩ := M_h1 (c0 := c0) hτ hw
      exact ⟨τa, by rw [z1, (M_price (c0 := c0) z2).2 t3], z2, z3⟩
set_option maxHeartbeats 1000000 in
theorem ST2 (hnw : ∀ i, i < M → A 0 (F + i) = 0 → ∀ q, q < 32 → A 6 (F + i) ≠ kcd q) (hS : S = F + M) (hr : rst σ.1 B n C 0 j) (hl : ltc σ.1 σ.2.1 (A 0) (A 6) F M cs) (hn13 : σ.1 297 13 = (lkc (A 0) F M : Int)) (hd : 400 ≤ xdp σ) (hc : c + (C - j) < 3300) (h0 : c0 ≤ c) (hw : tW B n j (kcd 2)) : stO B n C A F S c0 σ j c f := by
  obtain ⟨τ1, x1, x2, x3, x4, x5⟩ := C_st2_h hr hw
  have hj := tc_lt hr (by rw [hw.1]; decide)
  have n1 := nn_ge (σ := σ)
  have g1 : gz σ τ1 1 8 := gz_hg x3
  have gn := gz_nn g1
  obtain ⟨p1, p2⟩ := C_party x2 x4
  by_cases hp : ∃ p : Int, (p = 0 ∧ tW B n (j + 1) 4562600) ∨ (p = 1 ∧ tW B n (j + 1) 12531826) ∨ (p = 2 ∧ tW B n (j + 1) 326280)
  · obtain ⟨p, hp⟩ := hp
    obtain ⟨τ2, y1, y2, y3, y4, y7⟩ := p1 p hp
    refine HOK (σ1 := τ2) (a := nn σ) (kd := 2) (na := p) (nb := -1) (nm := none) (k := 1) (q := 8) (j1 := j + 1 + 1) hnw hS (by decide) (by rw [y3.1]; exact x4) (Nat.le_refl _) (by rw [y7 0 (by decide), x5]; rfl) (by rw [y7 6 (by decide), x5]; rfl) (by rw [y7 7 (by decide), x5]; rfl) y2 hl (gz_rfa g1 y3 (Nat.le_refl _)) (by omega) hd hc h0 ?_ (fun τ hτ => ?_) (fun h => absurd h (by decide)) (fun h => absurd h (by decide)) (fun _ => ⟨y4, by omega⟩) (fun h => absurd h (by decide)) (fun h => absurd h (by decide)) (fun h => absurd h (by decide)) (by
      have p1 := pk_w hw 3 (by decide) (by decide)
      have p2 := ptk_mo (B := B) (n := n) (show j + 1 ≤ j + 1 + 1 by omega)
      rw [shw_hd, if_neg (by decide), if_neg (by decide), if_pos rfl]
      omega)
    · rw [x1, qReader_readStatement_167, y1, Option.bind_some, qReader_readStatement_172, if_pos y2.2.2.2]
    · obtain ⟨τa, z1, z2, z3⟩ := M_h2 (c0 := c0) hτ hw
      obtain ⟨τb, z4, z5, z6⟩ := (M_loss (c0 := c0) z2).1 p hp
      exact ⟨τb, by rw [z1, z4], z5, fq_tr z3 z6⟩
  · have m1 : ¬ tW B n (j + 1) 4562600 := fun h => hp ⟨0, Or.inl ⟨rfl, h⟩⟩
    have m2 : ¬ tW B n (j + 1) 12531826 := fun h => hp ⟨1, Or.inr (Or.inl ⟨rfl, h⟩)⟩
    have m3 : ¬ tW B n (j + 1) 326280 := fun h => hp ⟨2, Or.inr (Or.inr ⟨rfl, h⟩)⟩
    obtain ⟨τ2, y1, y2, y3⟩ := p2 m1 m2 m3
    refine SBAD (υ := τ2) (k := 1) (q := 8) (w := j + 1) ?_ y2 (gz_rfa g1 y3 (Nat.le_refl _)) (by omega) fun τ hτ => ?_
    · rw [x1, qReader_readStatement_167, y1, Option.bind_some, qReader_readStatement_172, if_neg (rft_n y2)]
    · obtain ⟨τa, z1, z2, z3⟩ := M_h2 (c0 := c0) hτ hw
      obtain ⟨τb, z4, z5, z6⟩ := (M_loss (c0 := c0) z2).2 m1 m2 m3
      exact ⟨τb, by rw [z1, z4], z5, fq_tr z3 z6⟩
theorem ST3 (hnw : ∀ i, i < M → A 0 (F + i) = 0 → ∀ q, q < 32 → A 6 (F + i) ≠ kcd q) (hS : S = F + M) (hr : rst σ.1 B n C 0 j) (hl : ltc σ.1 σ.2.1 (A 0) (A 6) F M cs) (hn13 : σ.1 297 13 = (lkc (A 0) F M : Int)) (hd : 400 ≤ xdp σ) (hc : c + (C - j) < 3300) (h0 : c0 ≤ c) (hw : tW B n j (kcd 3)) : stO B n C A F S c0 σ j c f := by
  obtain ⟨τ1, x1, x2, x3, x4, x5⟩ := C_st3_h hr hw
  have hj := tc_lt hr (by rw [hw.1]; decide)
  have n1 := nn_ge (σ := σ)
  have g1 : gz σ τ1 1 8 := gz_hg x3
  have gn := gz_nn g1
  refine HOK (σ1 := τ1) (a := nn σ) (kd := 3) (na := -1) (nb := -1) (nm := none) (k := 1) (q := 8) (j1 := j + 1) hnw hS (by decide) x4 (Nat.le_refl _) (by rw [x5]; rfl) (by rw [x5]; rfl) (by rw [x5]; rfl) x2 hl g1 (by omega) hd hc h0 ?_ (fun τ hτ => ?_) (fun h => absurd h (by decide)) (fun h => absurd h (by decide)) (fun h => absurd h (by decide)) (fun _ => rfl) (fun h => absurd h (by decide)) (fun h => absurd h (by decide)) (by
    have p1 := pk_w hw 3 (by decide) (by decide)
    rw [shw_hd, if_neg (by decide), if_neg (by decide), if_neg (by decide), if_pos rfl]
    omega)
  · rw [x1, qReader_readStatement_179, if_pos x2.2.2.2]
  · obtain ⟨τa, z1, z2, z3⟩ := M_h3 (c0 := c0) hτ hw
    exact ⟨τa, by rw [z1, M_mid251 z2], z2, z3⟩
set_option maxHeartbeats 1000000 in
theorem ST4 (hnw : ∀ i, i < M → A 0 (F + i) = 0 → ∀ q, q < 32 → A 6 (F + i) ≠ kcd q) (hS : S = F + M) (hr : rst σ.1 B n C 0 j) (hl : ltc σ.1 σ.2.1 (A 0) (A 6) F M cs) (hn13 : σ.1 297 13 = (lkc (A 0) F M : Int)) (hd : 400 ≤ xdp σ) (hc : c + (C - j) < 3300) (h0 : c0 ≤ c) (hw : tW B n j (kcd 4)) : stO B n C A F S c0 σ j c f := by
  obtain ⟨τ1, x1, x2, x3, x4, x5⟩ := C_st4_h hr hw
  have hj := tc_lt hr (by rw [hw.1]; decide)
  have n1 := nn_ge (σ := σ)
  have g1 : gz σ τ1 1 8 := gz_hg x3
  have gn := gz_nn g1
  obtain ⟨p1, p2, p3, p4⟩ := C_pair (q := 10) x2 x4 (by decide)
  have bad : ∀ w τ2, X iReader_readPair 0 [(2, 297), (2, ((nn σ : Nat) : Int)), (2, 12)] [] τ1 = some ((9, 0), τ2) → rft τ2.1 B n w → rfa τ1 τ2 (nn σ) → j ≤ w → w ≤ C → (∀ τ, tq B n (hdA A S c 4 (-1) (-1) none) F S τ.1 (-1) (j + 1) c f → ∃ τ', X iM_tells 275 [(2, 305), (0, (S : Int))] [] τ = some ((9, 0), τ') ∧ tz B n F S τ'.1 (t_s B n w : Int) ∧ fq F c0 τ τ') → stO B n C A F S c0 σ j c f := fun w τ2 y1 y2 y3 w1 w2 hM => by
    refine SBAD (υ := τ2) (k := 1) (q := 8) (w := w) ?_ y2 (gz_rfa g1 y3 (Nat.le_refl _)) ⟨w1, w2, by decide, by decide⟩ fun τ hτ => ?_
    · rw [x1, qReader_readStatement_186, y1, Option.bind_some, qReader_readStatement_194, if_neg (rft_n y2)]
    · obtain ⟨τa, z1, z2, z3⟩ := M_h4 (c0 := c0) hτ hw
      obtain ⟨τb, z4, z5, z6⟩ := hM τa z2
      exact ⟨τb, by rw [z1, z4], z5, fq_tr z3 z6⟩
  have jC := x2.2.1.1
  by_cases t1 : t_c B n (j + 1) = 3
  · have j1 := tc_lt x2 (by rw [t1]; decide)
    by_cases t2 : tW B n (j + 1 + 1) 555
    · by_cases t3 : t_c B n (j + 1 + 1 + 1) = 3
      · obtain ⟨τ2, (y1 : X iReader_readPair 0 [(2, 297), (2, ((nn σ : Nat) : Int)), (2, 12)] [] τ1 = some ((9, 0), τ2)), y2, y3, y4, y5, y7⟩ := p1 t1 t2 t3
        have b1 := t_n_bd t1
        have b2 := t_n_bd t3
        refine HOK (σ1 := τ2) (a := nn σ) (kd := 4) (na := t_n B n (j + 1)) (nb := t_n B n (j + 1 + 1 + 1)) (nm := none) (k := 1) (q := 8) (j1 := j + 1 + 1 + 1 + 1) hnw hS (by decide) (by rw [y3.1]; exact x4) (Nat.le_refl _) (by rw [y7 0 (by decide) (by decide), x5]; rfl) (by rw [y7 6 (by decide) (by decide), x5]; rfl) (by rw [y7 7 (by decide) (by decide), x5]; rfl) y2 hl (gz_rfa g1 y3 (Nat.le_refl _)) (by omega) hd hc h0 ?_ (fun τ hτ => ?_) (fun h => absurd h (by decide)) (fun h => absurd h (by decide)) (fun h => absurd h (by decide)) (fun h => absurd h (by decide)) (fun _ => ⟨⟨y4, y5⟩, b1, b2⟩) (fun h => absurd h (by decide)) (by
          have p1 := pk_w hw 4 (by decide) (by decide)
          have p2 := pk_w t2 1 (by decide) (by decide)
          have p3 := d10_tok t1
          have p4 := d10_tok t3
          rw [shw_hd, if_neg (by decide), if_neg (by decide), if_neg (by decide), if_neg (by decide)]
          omega)
        · rw [x1, qReader_readStatement_186, y1, Option.bind_some, qReader_readStatement_194, if_pos y2.2.2.2]
        · obtain ⟨τa, z1, z2, z3⟩ := M_h4 (c0 := c0) hτ hw
          obtain ⟨τb, z4, z5, z6⟩ := (M_feast (c0 := c0) z2).1 t1 t2 t3
          exact ⟨τb, by rw [z1, z4], z5, fq_tr z3 z6⟩
      · obtain ⟨τ2, (y1 : X iReader_readPair 0 [(2, 297), (2, ((nn σ : Nat) : Int)), (2, 12)] [] τ1 = some ((9, 0), τ2)), y2, y3⟩ := p4 t1 t2 t3
        have j2 : j + 1 + 1 < C ∨ j + 1 + 1 = C := by omega
        have j3 : j + 1 + 1 ≠ C := fun e => by
          have := x2.1.2.1.2
          rw [← e, t2.1] at this
          exact absurd this (by decide)
        exact bad _ τ2 y1 y2 y3 (by omega) (by omega) fun τ hτ => (M_feast (c0 := c0) hτ).2.2.2 t1 t2 t3
    · obtain ⟨τ2, (y1 : X iReader_readPair 0 [(2, 297), (2, ((nn σ : Nat) : Int)), (2, 12)] [] τ1 = some ((9, 0), τ2)), y2, y3⟩ := p3 t1 (show ¬ tW B n (j + 1 + 1) (kcd 10) from fun z => t2 z)
      exact bad _ τ2 y1 y2 y3 (by omega) (by omega) fun τ hτ => (M_feast (c0 := c0) hτ).2.2.1 t1 t2
  · obtain ⟨τ2, (y1 : X iReader_readPair 0 [(2, 297), (2, ((nn σ : Nat) : Int)), (2, 12)] [] τ1 = some ((9, 0), τ2)), y2, y3⟩ := p2 t1
    exact bad _ τ2 y1 y2 y3 (by omega) (by omega) fun τ hτ => (M_feast (c0 := c0) hτ).2.1 t1
set_option maxHeartbeats 1000000 in
theorem ST5 (hnw : ∀ i, i < M → A 0 (F + i) = 0 → ∀ q, q < 32 → A 6 (F + i) ≠ kcd q) (hS : S = F + M) (hr : rst σ.1 B n C 0 j) (hl : ltc σ.1 σ.2.1 (A 0) (A 6) F M cs) (hn13 : σ.1 297 13 = (lkc (A 0) F M : Int)) (hd : 400 ≤ xdp σ) (hc : c + (C - j) < 3300) (h0 : c0 ≤ c) (hw : tW B n j (kcd 5)) : stO B n C A F S c0 σ j c f := by
  obtain ⟨τ1, x1, x2, x3, x4, x5⟩ := C_st5_h hr hw
  have hj := tc_lt hr (by rw [hw.1]; decide)
  have n1 := nn_ge (σ := σ)
  have g1 : gz σ τ1 1 8 := gz_hg x3
  have gn := gz_nn g1
  obtain ⟨p1, p2, p3, p4⟩ := C_pair (q := 12) x2 x4 (by decide)
  have bad : ∀ w τ2, X iReader_readPair 0 [(2, 297), (2, ((nn σ : Nat) : Int)), (2, 14)] [] τ1 = some ((9, 0), τ2) → rft τ2.1 B n w → rfa τ1 τ2 (nn σ) → j ≤ w → w ≤ C → (∀ τ, tq B n (hdA A S c 5 (-1) (-1) none) F S τ.1 (-1) (j + 1) c f → ∃ τ', X iM_tells 326 [(2, 305), (0, (S : Int))] [] τ = some ((9, 0), τ') ∧ tz B n F S τ'.1 (t_s B n w : Int) ∧ fq F c0 τ τ') → stO B n C A F S c0 σ j c f := fun w τ2 y1 y2 y3 w1 w2 hM => by
    refine SBAD (υ := τ2) (k := 1) (q := 8) (w := w) ?_ y2 (gz_rfa g1 y3 (Nat.le_refl _)) ⟨w1, w2, by decide, by decide⟩ fun τ hτ => ?_
    · rw [x1, qReader_readStatement_201, y1, Option.bind_some, qReader_readStatement_209, if_neg (rft_n y2)]
    · obtain ⟨τa, z1, z2, z3⟩ := M_h5 (c0 := c0) hτ hw
      obtain ⟨τb, z4, z5, z6⟩ := hM τa z2
      exact ⟨τb, by rw [z1, z4], z5, fq_tr z3 z6⟩
  have jC := x2.2.1.1
  by_cases t1 : t_c B n (j + 1) = 3
  · have j1 := tc_lt x2 (by rw [t1]; decide)
    by_cases t2 : tW B n (j + 1 + 1) 459818
    · by_cases t3 : t_c B n (j + 1 + 1 + 1) = 3
      · obtain ⟨τ2, (y1 : X iReader_readPair 0 [(2, 297), (2, ((nn σ : Nat) : Int)), (2, 14)] [] τ1 = some ((9, 0), τ2)), y2, y3, y4, y5, y7⟩ := p1 t1 t2 t3
        have b1 := t_n_bd t1
        have b2 := t_n_bd t3
        refine HOK (σ1 := τ2) (a := nn σ) (kd := 5) (na := t_n B n (j + 1)) (nb := t_n B n (j + 1 + 1 + 1)) (nm := none) (k := 1) (q := 8) (j1 := j + 1 + 1 + 1 + 1) hnw hS (by decide) (by rw [y3.1]; exact x4) (Nat.le_refl _) (by rw [y7 0 (by decide) (by decide), x5]; rfl) (by rw [y7 6 (by decide) (by decide), x5]; rfl) (by rw [y7 7 (by decide) (by decide), x5]; rfl) y2 hl (gz_rfa g1 y3 (Nat.le_refl _)) (by omega) hd hc h0 ?_ (fun τ hτ => ?_) (fun h => absurd h (by decide)) (fun h => absurd h (by decide)) (fun h => absurd h (by decide)) (fun h => absurd h (by decide)) (fun _ => ⟨⟨y4, y5⟩, b1, b2⟩) (fun h => absurd h (by decide)) (by
          have p1 := pk_w hw 2 (by decide) (by decide)
          have p2 := pk_w t2 1 (by decide) (by decide)
          have p3 := d10_tok t1
          have p4 := d10_tok t3
          rw [shw_hd, if_neg (by decide), if_neg (by decide), if_neg (by decide), if_neg (by decide)]
          omega)
        · rw [x1, qReader_readStatement_201, y1, Option.bind_some, qReader_readStatement_209, if_pos y2.2.2.2]
        · obtain ⟨τa, z1, z2, z3⟩ := M_h5 (c0 := c0) hτ hw
          obtain ⟨τb, z4, z5, z6⟩ := (M_mix (c0 := c0) z2).1 t1 t2 t3
          exact ⟨τb, by rw [z1, z4], z5, fq_tr z3 z6⟩
      · obtain ⟨τ2, (y1 : X iReader_readPair 0 [(2, 297), (2, ((nn σ : Nat) : Int)), (2, 14)] [] τ1 = some ((9, 0), τ2)), y2, y3⟩ := p4 t1 t2 t3
        have j2 : j + 1 + 1 < C ∨ j + 1 + 1 = C := by omega
        have j3 : j + 1 + 1 ≠ C := fun e => by
          have := x2.1.2.1.2
          rw [← e, t2.1] at this
          exact absurd this (by decide)
        exact bad _ τ2 y1 y2 y3 (by omega) (by omega) fun τ hτ => (M_mix (c0 := c0) hτ).2.2.2 t1 t2 t3
    · obtain ⟨τ2, (y1 : X iReader_readPair 0 [(2, 297), (2, ((nn σ : Nat) : Int)), (2, 14)] [] τ1 = some ((9, 0), τ2)), y2, y3⟩ := p3 t1 (show ¬ tW B n (j + 1 + 1) (kcd 12) from fun z => t2 z)
      exact bad _ τ2 y1 y2 y3 (by omega) (by omega) fun τ hτ => (M_mix (c0 := c0) hτ).2.2.1 t1 t2
  · obtain ⟨τ2, (y1 : X iReader_readPair 0 [(2, 297), (2, ((nn σ : Nat) : Int)), (2, 14)] [] τ1 = some ((9, 0), τ2)), y2, y3⟩ := p2 t1
    exact bad _ τ2 y1 y2 y3 (by omega) (by omega) fun τ hτ => (M_mix (c0 := c0) hτ).2.1 t1
set_option maxHeartbeats 1000000 in
theorem ST6 (hnw : ∀ i, i < M → A 0 (F + i) = 0 → ∀ q, q < 32 → A 6 (F + i) ≠ kcd q) (hS : S = F + M) (hr : rst σ.1 B n C 0 j) (hl : ltc σ.1 σ.2.1 (A 0) (A 6) F M cs) (hn13 : σ.1 297 13 = (lkc (A 0) F M : Int)) (hd : 400 ≤ xdp σ) (hc : c + (C - j) < 3300) (h0 : c0 ≤ c) (hw : tW B n j (kcd 6)) : stO B n C A F S c0 σ j c f := by
  obtain ⟨τ1, x1, x2, x3, x4, x5⟩ := C_st6_h hr hw
  have hj := tc_lt hr (by rw [hw.1]; decide)
  have n1 := nn_ge (σ := σ)
  have g1 : gz σ τ1 1 8 := gz_hg x3
  have gn := gz_nn g1
  obtain ⟨p1, p2, p3, p4⟩ := C_pair (q := 13) x2 x4 (by decide)
  have bad : ∀ w τ2, X iReader_readPair 0 [(2, 297), (2, ((nn σ : Nat) : Int)), (2, 15)] [] τ1 = some ((9, 0), τ2) → rft τ2.1 B n w → rfa τ1 τ2 (nn σ) → j ≤ w → w ≤ C → (∀ τ, tq B n (hdA A S c 6 (-1) (-1) none) F S τ.1 (-1) (j + 1) c f → ∃ τ', X iM_tells 378 [(2, 305), (0, (S : Int))] [] τ = some ((9, 0), τ') ∧ tz B n F S τ'.1 (t_s B n w : Int) ∧ fq F c0 τ τ') → stO B n C A F S c0 σ j c f := fun w τ2 y1 y2 y3 w1 w2 hM => by
    refine SBAD (υ := τ2) (k := 1) (q := 8) (w := w) ?_ y2 (gz_rfa g1 y3 (Nat.le_refl _)) ⟨w1, w2, by decide, by decide⟩ fun τ hτ => ?_
    · rw [x1, qReader_readStatement_216, y1, Option.bind_some, qReader_readStatement_224, if_neg (rft_n y2)]
    · obtain ⟨τa, z1, z2, z3⟩ := M_h6 (c0 := c0) hτ hw
      obtain ⟨τb, z4, z5, z6⟩ := hM τa z2
      exact ⟨τb, by rw [z1, z4], z5, fq_tr z3 z6⟩
  have jC := x2.2.1.1
  by_cases t1 : t_c B n (j + 1) = 3
  · have j1 := tc_lt x2 (by rw [t1]; decide)
    by_cases t2 : tW B n (j + 1 + 1) 4797
    · by_cases t3 : t_c B n (j + 1 + 1 + 1) = 3
      · obtain ⟨τ2, (y1 : X iReader_readPair 0 [(2, 297), (2, ((nn σ : Nat) : Int)), (2, 15)] [] τ1 = some ((9, 0), τ2)), y2, y3, y4, y5, y7⟩ := p1 t1 t2 t3
        have b1 := t_n_bd t1
        have b2 := t_n_bd t3
        refine HOK (σ1 := τ2) (a := nn σ) (kd := 6) (na := t_n B n (j + 1)) (nb := t_n B n (j + 1 + 1 + 1)) (nm := none) (k := 1) (q := 8) (j1 := j + 1 + 1 + 1 + 1) hnw hS (by decide) (by rw [y3.1]; exact x4) (Nat.le_refl _) (by rw [y7 0 (by decide) (by decide), x5]; rfl) (by rw [y7 6 (by decide) (by decide), x5]; rfl) (by rw [y7 7 (by decide) (by decide), x5]; rfl) y2 hl (gz_rfa g1 y3 (Nat.le_refl _)) (by omega) hd hc h0 ?_ (fun τ hτ => ?_) (fun h => absurd h (by decide)) (fun h => absurd h (by decide)) (fun h => absurd h (by decide)) (fun h => absurd h (by decide)) (fun _ => ⟨⟨y4, y5⟩, b1, b2⟩) (fun h => absurd h (by decide)) (by
          have p1 := pk_w hw 3 (by decide) (by decide)
          have p2 := pk_w t2 1 (by decide) (by decide)
          have p3 := d10_tok t1
          have p4 := d10_tok t3
          rw [shw_hd, if_neg (by decide), if_neg (by decide), if_neg (by decide), if_neg (by decide)]
          omega)
        · rw [x1, qReader_readStatement_216, y1, Option.bind_some, qReader_readStatement_224, if_pos y2.2.2.2]
        · obtain ⟨τa, z1, z2, z3⟩ := M_h6 (c0 := c0) hτ hw
          obtain ⟨τb, z4, z5, z6⟩ := (M_heat (c0 := c0) z2).1 t1 t2 t3
          exact ⟨τb, by rw [z1, z4], z5, fq_tr z3 z6⟩
      · obtain ⟨τ2, (y1 : X iReader_readPair 0 [(2, 297), (2, ((nn σ : Nat) : Int)), (2, 15)] [] τ1 = some ((9, 0), τ2)), y2, y3⟩ := p4 t1 t2 t3
        have j2 : j + 1 + 1 < C ∨ j + 1 + 1 = C := by omega
        have j3 : j + 1 + 1 ≠ C := fun e => by
          have := x2.1.2.1.2
          rw [← e, t2.1] at this
          exact absurd this (by decide)
        exact bad _ τ2 y1 y2 y3 (by omega) (by omega) fun τ hτ => (M_heat (c0 := c0) hτ).2.2.2 t1 t2 t3
    · obtain ⟨τ2, (y1 : X iReader_readPair 0 [(2, 297), (2, ((nn σ : Nat) : Int)), (2, 15)] [] τ1 = some ((9, 0), τ2)), y2, y3⟩ := p3 t1 (show ¬ tW B n (j + 1 + 1) (kcd 13) from fun z => t2 z)
      exact bad _ τ2 y1 y2 y3 (by omega) (by omega) fun τ hτ => (M_heat (c0 := c0) hτ).2.2.1 t1 t2
  · obtain ⟨τ2, (y1 : X iReader_readPair 0 [(2, 297), (2, ((nn σ : Nat) : Int)), (2, 15)] [] τ1 = some ((9, 0), τ2)), y2, y3⟩ := p2 t1
    exact bad _ τ2 y1 y2 y3 (by omega) (by omega) fun τ hτ => (M_heat (c0 := c0) hτ).2.1 t1
theorem ST (hnw : ∀ i, i < M → A 0 (F + i) = 0 → ∀ q, q < 32 → A 6 (F + i) ≠ kcd q) (hS : S = F + M) (hr : rst σ.1 B n C 0 j) (hl : ltc σ.1 σ.2.1 (A 0) (A 6) F M cs) (hn13 : σ.1 297 13 = (lkc (A 0) F M : Int)) (hd : 400 ≤ xdp σ) (hc : c + (C - j) < 3300) (h0 : c0 ≤ c) : stO B n C A F S c0 σ j c f := by
  by_cases w0 : tW B n j (kcd 0)
  · exact ST0 hnw hS hr hl hn13 hd hc h0 w0
  by_cases w1 : tW B n j (kcd 1)
  · exact ST1 hnw hS hr hl hn13 hd hc h0 w1
  by_cases w2 : tW B n j (kcd 2)
  · exact ST2 hnw hS hr hl hn13 hd hc h0 w2
  by_cases w3 : tW B n j (kcd 3)
  · exact ST3 hnw hS hr hl hn13 hd hc h0 w3
  by_cases w4 : tW B n j (kcd 4)
  · exact ST4 hnw hS hr hl hn13 hd hc h0 w4
  by_cases w5 : tW B n j (kcd 5)
  · exact ST5 hnw hS hr hl hn13 hd hc h0 w5
  by_cases w6 : tW B n j (kcd 6)
  · exact ST6 hnw hS hr hl hn13 hd hc h0 w6
  have hw : ∀ q, q < 7 → ¬ tW B n j (kcd q) := r7 ⟨w0, w1, w2, w3, w4, w5, w6⟩
  obtain ⟨τ, k, x1, x2, x3, x4⟩ := C_st0 hr hw
  exact SBAD x1 x4 (gz_hg x2) ⟨Nat.le_refl _, hr.2.1.1, by omega, by omega⟩ fun τ hτ => M_hn hτ hw
end STS

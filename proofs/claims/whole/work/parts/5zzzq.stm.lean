/-! a statement on both sides -/
section STO
variable {B : Nat → Int} {n C : Nat} {A : Nat → Nat → Int} {F M S : Nat} {cs : Nat → Nat} {σ σ1 τ υ : xS} {j j1 c c0 k q a : Nat} {f : Nat → Nat → Int} {kd na nb : Int} {nm : Option Int}
/-- the EX of statement i -/
def stX (A f m : Nat → Nat → Int) (t : List (Nat × Nat)) (F i : Nat) (x : Int) (al ah : Nat) : Prop := ∃ lo hi root n cl ch c : Nat, (al < cl ∧ ch ≤ ah) ∧ (A 4 i = (lo : Int) ∧ A 5 i = (hi : Int) ∧ A 3 i = (root : Int)) ∧ (lo ≤ root ∧ root < hi ∧ hi ≤ 3300) ∧ (n ≤ 400 ∧ hi ≤ lo + 400) ∧ x = (c : Int) ∧ wfs f (A 0) F i lo hi ∧ f 0 root ≤ 10 ∧ rl f m t (A 0) (A 6) F i n cl ch c root
/-- node a is statement i -/
def stN (A f m : Nat → Nat → Int) (t : List (Nat × Nat)) (F i a ah : Nat) : Prop :=
  nd t a ∧ m a 0 = 2 + A 0 i ∧ (0 ≤ A 0 i ∧ A 0 i ≤ 6) ∧
  (A 0 i = 0 → m a 1 = (lkc (A 0) F (i - F) : Int) ∧ nam m t (m a 4) (A 6 i)) ∧
  (A 0 i = 1 → m a 1 = A 1 i ∧ -1 ≤ A 1 i ∧ A 1 i ≤ 999999999) ∧
  (A 0 i = 2 → m a 3 = 9 + A 1 i ∧ 0 ≤ A 1 i ∧ A 1 i ≤ 2) ∧
  (A 0 i = 3 → A 1 i = -1) ∧
  (4 ≤ A 0 i → (m a 1 = A 1 i ∧ m a 2 = A 2 i) ∧ (0 ≤ A 1 i ∧ A 1 i ≤ 999999999) ∧ 0 ≤ A 2 i ∧ A 2 i ≤ 999999999) ∧
  (A 0 i ≤ 4 → stX A f m t F i (m a 6) a ah) ∧ (5 ≤ A 0 i → m a 6 = 0)
/-- what a statement may write, but for its EX; all -/
def shw (A : Nat → Nat → Int) (i : Nat) : Nat := if A 0 i = 0 then 7 + l27 (A 6 i) else if A 0 i = 1 then 8 + (if 0 ≤ A 1 i then 1 + d10 (A 1 i) else 0) else if A 0 i = 2 then 13 else if A 0 i = 3 then 9 else 13 + (1 + d10 (A 1 i)) + (1 + d10 (A 2 i))
def sw (A f : Nat → Nat → Int) (F i : Nat) : Nat := shw A i + (if A 0 i < 5 then wl f (lwd (A 6) F) (A 3 i).toNat else 0)
theorem shw_hd : shw (hdA A S c kd na nb nm) S = if kd = 0 then 7 + l27 (hdA A S c kd na nb nm 6 S) else if kd = 1 then 8 + (if 0 ≤ na then 1 + d10 na else 0) else if kd = 2 then 13 else if kd = 3 then 9 else 13 + (1 + d10 na) + (1 + d10 nb) := by
  have A0 : hdA A S c kd na nb nm 0 S = kd := xup_eq
  have A1 : hdA A S c kd na nb nm 1 S = na := xup_eq
  have A2 : hdA A S c kd na nb nm 2 S = nb := xup_eq
  unfold shw
  rw [A0, A1, A2]
/-- what the two sides make of a statement at token j -/
def stO (B : Nat → Int) (n C : Nat) (A : Nat → Nat → Int) (F S c0 : Nat) (σ : xS) (j c : Nat) (f : Nat → Nat → Int) : Prop :=
  (∃ (υ : xS) (a k q j' c' : Nat) (f' A' : Nat → Nat → Int), X iReader_readStatement 0 [(2, 297), (9, 0)] [] σ = some ((2, (a : Int)), υ) ∧ rst υ.1 B n C 0 j' ∧ gz σ υ k q ∧ (j < j' ∧ c ≤ c' ∧ c' + j ≤ c + j' ∧ k + j ≤ j' + 4 ∧ q + 8 * j ≤ 8 * j' + 40) ∧ (∀ q r, r < c → f' q r = f q r) ∧ nn σ ≤ a ∧ (∀ r i, r < 7 → i ≠ S → A' r i = A r i) ∧ stN A' f' υ.1 υ.2.1 F S a (nn υ) ∧ A' 5 S = (c' : Int) ∧ sw A' f' F S + 3 * ptk B n j ≤ 3 * ptk B n j' + 3 ∧ υ.1 a 7 = 0 ∧ (A' 0 S = 0 → ∀ q, q < 32 → A' 6 S ≠ kcd q) ∧
    ∀ τ, tq B n A F S τ.1 (-1) j c f → (t_c B n j' = 59 → ∃ τ', X iM_tells 0 [(2, 305), (0, (S : Int))] [] τ = some ((9, 0), τ') ∧ tq B n A' F S τ'.1 (-1) (j' + 1) c' f' ∧ fq F c0 τ τ') ∧ (t_c B n j' ≠ 59 → ∃ τ', X iM_tells 0 [(2, 305), (0, (S : Int))] [] τ = some ((9, 0), τ') ∧ tz B n F S τ'.1 (t_s B n j' : Int) ∧ fq F c0 τ τ')) ∨
  ∃ (υ : xS) (k q w : Nat), X iReader_readStatement 0 [(2, 297), (9, 0)] [] σ = some ((2, 0), υ) ∧ rft υ.1 B n w ∧ gz σ υ k q ∧ (j ≤ w ∧ w ≤ C ∧ k + j ≤ w + 5 ∧ q + 8 * j ≤ 8 * w + 48) ∧ ∀ τ, tq B n A F S τ.1 (-1) j c f → ∃ τ', X iM_tells 0 [(2, 305), (0, (S : Int))] [] τ = some ((9, 0), τ') ∧ tz B n F S τ'.1 (t_s B n w : Int) ∧ fq F c0 τ τ'
theorem hdA_o (r i : Nat) (hi : i ≠ S) : hdA A S c kd na nb nm r i = A r i := by
  unfold hdA
  by_cases h0 : r = 0
  · rw [if_pos h0, xup_ne hi, h0]
  by_cases h1 : r = 1
  · rw [if_neg h0, if_pos h1, xup_ne hi, h1]
  by_cases h2 : r = 2
  · rw [if_neg h0, if_neg h1, if_pos h2, xup_ne hi, h2]
  by_cases h3 : r = 3
  · rw [if_neg h0, if_neg h1, if_neg h2, if_pos h3, xup_ne hi, h3]
  by_cases h4 : r = 4
  · rw [if_neg h0, if_neg h1, if_neg h2, if_neg h3, if_pos h4, xup_ne hi, h4]
  by_cases h6 : r = 6
  · rw [if_neg h0, if_neg h1, if_neg h2, if_neg h3, if_neg h4, if_pos h6, h6]
    cases nm with
    | none => rfl
    | some w => exact xup_ne hi
  · rw [if_neg h0, if_neg h1, if_neg h2, if_neg h3, if_neg h4, if_neg h6]
theorem ars_o {hi : Int} {root : Option Int} (r i : Nat) (h : i ≠ S) : ars A S hi root r i = A r i := by
  unfold ars
  by_cases h5 : r = 5
  · rw [if_pos h5, xup_ne h, h5]
  by_cases h3 : r = 3
  · rw [if_neg h5, if_pos h3, h3]
    cases root with
    | none => rfl
    | some w => exact xup_ne h
  · rw [if_neg h5, if_neg h3]
theorem ltc_cg {m : Nat → Nat → Int} {t : List (Nat × Nat)} {sk sn sk' sn' : Nat → Int} (h : ∀ i, i < M → sk' (F + i) = sk (F + i) ∧ sn' (F + i) = sn (F + i)) (hl : ltc m t sk sn F M cs) : ltc m t sk' sn' F M cs := by
  refine ⟨hl.1, fun i hi => ?_⟩
  obtain ⟨d1, d2, d3, d4, d5⟩ := hl.2 i hi
  obtain ⟨e1, e2⟩ := h i hi
  rw [e1, e2, lkc_cg (sk := sk) (sk' := sk') (F := F) (n := i) fun x h1 h2 => by
    have := (h (x - F) (by omega)).1
    rw [show F + (x - F) = x by omega] at this
    exact this]
  exact ⟨d1, d2, d3, d4, d5⟩
set_option maxHeartbeats 1000000 in
theorem HOK (hnw : ∀ i, i < M → A 0 (F + i) = 0 → ∀ q, q < 32 → A 6 (F + i) ≠ kcd q) (hS : S = F + M) (hkd : 0 ≤ kd ∧ kd ≤ 6) (ha : nd σ1.2.1 a) (ha0 : nn σ ≤ a) (hs0 : σ1.1 a 0 = 2 + kd) (hs6 : σ1.1 a 6 = 0) (hs7 : σ1.1 a 7 = 0) (hr1 : rst σ1.1 B n C 0 j1) (hl : ltc σ.1 σ.2.1 (A 0) (A 6) F M cs) (hg : gz σ σ1 k q) (hk : j < j1 ∧ k ≤ 5 ∧ q ≤ 48) (hd : 400 ≤ xdp σ) (hc : c + (C - j) < 3300) (h0 : c0 ≤ c)
    (hX : X iReader_readStatement 0 [(2, 297), (9, 0)] [] σ = (X iReader_readRest 0 [(2, 297), (2, (a : Int)), (9, 0)] [] σ1).bind fun q1 => X iReader_readStatement 245 [(2, 297), (2, (a : Int))] [q1.1] q1.2)
    (hM : ∀ τ, tq B n A F S τ.1 (-1) j c f → ∃ τ1, X iM_tells 0 [(2, 305), (0, (S : Int))] [] τ = midx S τ1 ∧ tq B n (hdA A S c kd na nb nm) F S τ1.1 (-1) j1 c f ∧ fq F c0 τ τ1)
    (hN0 : kd = 0 → σ1.1 a 1 = (lkc (xup (A 0) S kd) F M : Int) ∧ nam σ1.1 σ1.2.1 (σ1.1 a 4) (hdA A S c kd na nb nm 6 S)) (hN1 : kd = 1 → σ1.1 a 1 = na ∧ -1 ≤ na ∧ na ≤ 999999999) (hN2 : kd = 2 → σ1.1 a 3 = 9 + na ∧ 0 ≤ na ∧ na ≤ 2) (hN3 : kd = 3 → na = -1) (hN4 : 4 ≤ kd → (σ1.1 a 1 = na ∧ σ1.1 a 2 = nb) ∧ (0 ≤ na ∧ na ≤ 999999999) ∧ 0 ≤ nb ∧ nb ≤ 999999999)
    (hNM : kd = 0 → ∀ q, q < 32 → hdA A S c kd na nb nm 6 S ≠ kcd q) (hwt : shw (hdA A S c kd na nb nm) S + 3 * ptk B n j ≤ 3 * ptk B n j1 + 3) : stO B n C A F S c0 σ j c f := by
  subst hS
  have jC := hr1.2.1.1
  have hA : ∀ r i, i ≠ F + M → hdA A (F + M) c kd na nb nm r i = A r i := fun r i hi => hdA_o r i hi
  have hnw' : ∀ i, i < M → hdA A (F + M) c kd na nb nm 0 (F + i) = 0 → ∀ q, q < 32 → hdA A (F + M) c kd na nb nm 6 (F + i) ≠ kcd q := fun i hi => by
    rw [hA 0 _ (by omega), hA 6 _ (by omega)]
    exact hnw i hi
  have hl' : ltc σ.1 σ.2.1 (hdA A (F + M) c kd na nb nm 0) (hdA A (F + M) c kd na nb nm 6) F M cs := ltc_cg (fun i hi => ⟨hA 0 _ (by omega), hA 6 _ (by omega)⟩) hl
  have R := R_top (B := B) (n := n) (C := C) (c0 := c0) (cs := cs) (M := M) hnw'
  have A0 : hdA A (F + M) c kd na nb nm 0 (F + M) = kd := xup_eq
  have A1 : hdA A (F + M) c kd na nb nm 1 (F + M) = na := xup_eq
  have A2 : hdA A (F + M) c kd na nb nm 2 (F + M) = nb := xup_eq
  have A4 : hdA A (F + M) c kd na nb nm 4 (F + M) = (c : Int) := xup_eq
  have rr := REST (k := k) (q := q) R rfl hkd A0 ha ha0 hs0 hr1 hl' hg (by rw [gz_xdp hg]; exact hd) (show c + (C - j1) < 3300 by omega) h0 f
  rcases rr with ⟨υ, k', j', c', f', A', x1, x2, x3, x4, x5, x6, x11, x7, x8, x9, x10⟩ | ⟨υ, k', w, x1, x2, x3, x4, x5⟩
  · have hA' : ∀ r i, i ≠ F + M → A' r i = A r i := fun r i hi => by
      by_cases h5 : kd < 5
      · rw [(x8 h5).1, ars_o r i hi]; exact hA r i hi
      · rw [(x9 (by omega)).1, ars_o r i hi]; exact hA r i hi
    have eA : ∀ r, r ≠ 3 → r ≠ 5 → A' r = hdA A (F + M) c kd na nb nm r := fun r h3 h5 => by
      by_cases hk5 : kd < 5
      · rw [(x8 hk5).1]; unfold ars; rw [if_neg h5, if_neg h3]
      · rw [(x9 (by omega)).1]; unfold ars; rw [if_neg h5, if_neg h3]
    have hj' := x2.2.1.1
    have hC4 := hr1.1.2.1.1
    refine Or.inl ⟨υ, a, k + k', q + 8 * k', j', c', f', A', by rw [hX, x1, Option.bind_some, qReader_readStatement_245], x2, x3, ⟨by omega, by omega, by omega, by omega, by omega⟩, x5, ha0, fun r i _ hi => hA' r i hi, ⟨x6, ?_, ?_, ?_, ?_, ?_, ?_, ?_, ?_, ?_⟩, ?_, ?_, ?_, ?_, fun τ hτ => ?_⟩
    · rw [eA 0 (by decide) (by decide), A0, x7 0 (by decide)]; exact hs0
    · rw [eA 0 (by decide) (by decide), A0]; exact hkd
    · rw [eA 0 (by decide) (by decide), A0, eA 6 (by decide) (by decide)]
      intro h
      rw [x7 1 (by decide), x7 4 (by decide), Nat.add_sub_cancel_left]
      exact ⟨(hN0 h).1, x11 _ _ (hN0 h).2⟩
    · rw [eA 0 (by decide) (by decide), A0, eA 1 (by decide) (by decide), A1, x7 1 (by decide)]; exact hN1
    · rw [eA 0 (by decide) (by decide), A0, eA 1 (by decide) (by decide), A1, x7 3 (by decide)]; exact hN2
    · rw [eA 0 (by decide) (by decide), A0, eA 1 (by decide) (by decide), A1]; exact hN3
    · rw [eA 0 (by decide) (by decide), A0, eA 1 (by decide) (by decide), A1, eA 2 (by decide) (by decide), A2, x7 1 (by decide), x7 2 (by decide)]; exact hN4
    · rw [eA 0 (by decide) (by decide), A0]
      intro h
      obtain ⟨y1, y2, _, y3, y4, b, lo, hi, y5, y7, y6⟩ := x8 (by omega)
      refine ⟨c, c', c' - 1, c' - c, lo, hi, b, y7, ⟨by rw [eA 4 (by decide) (by decide)]; exact A4, ?_, ?_⟩, by omega, by omega, y5, by rw [eA 0 (by decide) (by decide)]; exact y3, y4, ?_⟩
      · rw [y1]; exact xup_eq
      · rw [y1]; exact xup_eq
      · rw [eA 0 (by decide) (by decide), eA 6 (by decide) (by decide)]
        exact y6 _ (Nat.le_refl _)
    · rw [eA 0 (by decide) (by decide), A0]
      intro h
      rw [(x9 h).2.2.2]; exact hs6
    · by_cases hk5 : kd < 5
      · rw [(x8 hk5).1]; exact xup_eq
      · have y := x9 (by omega)
        rw [y.1, y.2.1]; exact xup_eq
    · have es : shw A' (F + M) = shw (hdA A (F + M) c kd na nb nm) (F + M) := by
        unfold shw
        rw [eA 0 (by decide) (by decide), eA 1 (by decide) (by decide), eA 2 (by decide) (by decide), eA 6 (by decide) (by decide)]
      have pl := ptk_mo (B := B) (n := n) x4.1
      unfold sw
      rw [es, eA 0 (by decide) (by decide), A0, eA 6 (by decide) (by decide)]
      by_cases hk5 : kd < 5
      · have e3 : A' 3 (F + M) = ((c' - 1 : Nat) : Int) := by rw [(x8 hk5).1]; exact xup_eq
        have := (x8 hk5).2.2.1
        rw [if_pos hk5, e3, Int.toNat_natCast]
        omega
      · rw [if_neg hk5]
        omega
    · rw [x7 7 (by decide)]; exact hs7
    · rw [eA 0 (by decide) (by decide), A0, eA 6 (by decide) (by decide)]; exact hNM
    · obtain ⟨τ1, y1, y2, y3⟩ := hM τ hτ
      obtain ⟨z1, z2⟩ := x10 τ1 y2
      refine ⟨fun h => ?_, fun h => ?_⟩
      · obtain ⟨τ', w1, w2, w3⟩ := z1 h
        exact ⟨τ', by rw [y1, w1], w2, fq_tr y3 w3⟩
      · obtain ⟨τ', w1, w2, w3⟩ := z2 h
        exact ⟨τ', by rw [y1, w1], w2, fq_tr y3 w3⟩
  · refine Or.inr ⟨υ, k + k', q + 8 * k', w, by rw [hX, x1, Option.bind_some, qReader_readStatement_245], x2, x3, ⟨by omega, by omega, by omega, by omega⟩, fun τ hτ => ?_⟩
    obtain ⟨τ1, y1, y2, y3⟩ := hM τ hτ
    obtain ⟨τ', w1, w2, w3⟩ := x5 τ1 y2
    exact ⟨τ', by rw [y1, w1], w2, fq_tr y3 w3⟩
end STO

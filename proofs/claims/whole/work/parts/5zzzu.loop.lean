/-! the statements' loop on both sides -/
section LOP
variable {B : Nat → Int} {n C : Nat} {A A' : Nat → Nat → Int} {F M S : Nat} {cs : Nat → Nat} {σ0 σ τ υ : xS} {e : Int} {j c c0 k q cz : Nat} {f f' : Nat → Nat → Int}
theorem C31x {w : Nat} (h : rft σ.1 B n w) (v : Int) (w1 w2 w4 : xAV) : X iReader_readAll1 31 [(2, 297), w1, w2, (0, v), w4] [] σ = some ((2, 0), σ) := by
  have hn := rft_n h
  rw [qReader_readAll1_31]
  by_cases h1 : v < 24
  · rw [if_pos h1]
    by_cases h2 : xna 3 (σ.1 297 8) = 1
    · rw [if_pos h2, if_pos h2, if_neg hn]
    · rw [if_neg h2, if_neg hn, if_neg h2, if_neg hn, if_neg hn]
  · rw [if_neg h1]
    by_cases h2 : xna 3 (σ.1 297 8) = 1
    · rw [if_pos h2, if_neg hn]
    · rw [if_neg h2, if_neg hn, if_neg hn]
theorem tq_S (h : tq B n A F S σ.1 (-1) j c f) (h1 : S + 1 ≤ 199) : tq B n A F (S + 1) (xs σ 305 57 ((S + 1 : Nat) : Int)).1 (-1) j c f ∧ fq F c0 σ (xs σ 305 57 ((S + 1 : Nat) : Int)) := by
  have e5 : ∀ k, k ≠ 57 → (xs σ 305 57 ((S + 1 : Nat) : Int)).1 305 k = σ.1 305 k := fun k hk => by rw [xs_at, xup_ne hk]
  obtain ⟨⟨h2, h3⟩, h4, ⟨h5, h6⟩, h7, h8, h9, h10, h11⟩ := h
  refine ⟨⟨⟨?_, tkn_cg h3 fun k hk => e5 k (by omega)⟩, mse_cg h4 ⟨e5 _ (by decide), e5 _ (by decide)⟩, ⟨by rw [e5 _ (by decide)]; exact h5, fun q hq => by rw [xs_ne (by omega)]; exact h6 q hq⟩, fun q hq => by rw [xs_ne (by omega)]; exact h7 q hq, by rw [e5 _ (by decide)]; exact h8, by rw [xs_at, xup_eq], by omega, h1⟩, fq_s (Or.inr rfl) _⟩
  unfold tpB
  rw [e5 _ (by decide), xs_ne (by decide)]
  exact h2
theorem tk_0 {m : Nat → Nat → Int} (h : tkn m B n j) : m 305 71 = 0 ↔ t_c B n j = 1 := by
  rw [h.2.2.1]
  unfold tk1
  by_cases h1 : t_c B n j = 1
  · rw [if_pos h1]; exact ⟨fun _ => h1, fun _ => rfl⟩
  · rw [if_neg h1]
    refine ⟨fun z => ?_, fun z => absurd z h1⟩
    exfalso
    repeat' split at z
    all_goals exact absurd z (by decide)
theorem gy_xdp (h : gy σ τ k q) : xdp τ = xdp σ := congrArg (fun z => z.1) h.2.2.1
/-- what the loops make of the rest of a text -/
def lpO (B : Nat → Int) (n C : Nat) (σ0 σ : xS) (A f : Nat → Nat → Int) (F M j c cz c0 : Nat) : Prop :=
  (∃ (υ : xS) (A' f' : Nat → Nat → Int) (M' j' c' : Nat) (cs' : Nat → Nat) (k' q' : Nat), (∀ w1 w2 w4, X iReader_readAll1 31 [(2, 297), w1, w2, (0, (M : Int)), w4] [] σ = some ((2, υ.1 297 11), υ)) ∧ lps B n C σ0 υ A' f' F M' j' c' cz cs' k' q' ∧ t_c B n j' = 1 ∧ M' ≤ 24 ∧ (∀ q r, r < c → f' q r = f q r) ∧ (∀ r i, r < 7 → i < F + M → A' r i = A r i) ∧
    ∀ τ, tq B n A F (F + M) τ.1 (-1) j c f → ∃ τ', (∀ w v2, X iM_terms 69 [(2, 305), w, (0, v2)] [] τ = X iM_terms 69 [(2, 305), w, (0, v2)] [] τ') ∧ tq B n A' F (F + M') τ'.1 (-1) j' c' f' ∧ fq F c0 τ τ') ∨
  ∃ (υ : xS) (k' q' w : Nat), (∀ w1 w2 w4, X iReader_readAll1 31 [(2, 297), w1, w2, (0, (M : Int)), w4] [] σ = some ((2, 0), υ)) ∧ rft υ.1 B n w ∧ gy σ0 υ k' q' ∧ (w ≤ C ∧ k' ≤ w + 101 ∧ q' ≤ 8 * w + 1008) ∧
    ∀ τ, tq B n A F (F + M) τ.1 (-1) j c f → ∃ τ' S', (∀ w v2, X iM_terms 69 [(2, 305), w, (0, v2)] [] τ = X iM_terms 69 [(2, 305), w, (0, v2)] [] τ') ∧ tz B n F S' τ'.1 (t_s B n w : Int) ∧ fq F c0 τ τ'
set_option maxHeartbeats 1000000 in
theorem LOOP (hF : F + 24 ≤ 199) (hd : 400 ≤ xdp σ0) (hcz : cz + C < 3300) (h0 : c0 ≤ cz) : ∀ (fu : Nat) (σ : xS) (A f : Nat → Nat → Int) (M j c : Nat) (cs : Nat → Nat) (k q : Nat), C - j < fu → lps B n C σ0 σ A f F M j c cz cs k q → M ≤ 24 → lpO B n C σ0 σ A f F M j c cz c0 := by
  intro fu
  induction fu with
  | zero => intro σ A f M j c cs k q hf _ _; exact absurd hf (Nat.not_lt_zero _)
  | succ fu ih =>
    intro σ A f M j c cs k q hfu hL hM
    have hL' := hL
    obtain ⟨⟨hr, hl, h13⟩, h12, hgy, ⟨hb1, hb2, hb3, hb4, hb5⟩, _, hnw⟩ := hL'
    have jC := hr.2.1.1
    obtain ⟨f1, f2, f3, f4⟩ := rst_f hr
    by_cases h1 : t_c B n j = 1
    · refine Or.inl ⟨σ, A, f, M, j, c, cs, k, q, fun w1 w2 w4 => ?_, hL, h1, hM, fun _ _ _ => rfl, fun _ _ _ _ => rfl, fun τ hτ => ⟨τ, fun _ _ => rfl, hτ, fq_rf⟩⟩
      rw [qReader_readAll1_31, (tc_at hr).trans h1]
      by_cases h24 : (M : Int) < 24
      · rw [if_pos h24, if_pos rfl, if_pos rfl, if_pos hr.2.2.2]
      · rw [if_neg h24, if_pos rfl, if_pos hr.2.2.2]
    have hlt := tc_lt hr h1
    have t71 : ∀ τ : xS, tq B n A F (F + M) τ.1 (-1) j c f → ¬ τ.1 305 71 = 0 := fun τ hτ z => h1 ((tk_0 hτ.1.2).mp z)
    have tS : ∀ τ : xS, tq B n A F (F + M) τ.1 (-1) j c f → xw (τ.1 305 57 - τ.1 305 76) = (M : Int) := fun τ hτ => by
      rw [hτ.2.2.2.2.1, hτ.2.2.2.2.2.1, xw_id (by omega) (by omega)]; omega
    by_cases h24 : M = 24
    · refine Or.inr ⟨_, k, q, j, fun w1 w2 w4 => ?_, f4, ?_, ⟨jC, by omega, by omega⟩, fun τ hτ => ?_⟩
      · rw [qReader_readAll1_31, if_neg (by omega), tc_at hr, if_neg h1, if_pos hr.2.2.2, if_pos f2, f1, if_neg (by omega)]
      · have := gy_tr hgy (gz_rf f3)
        exact this
      · obtain ⟨y1, y2⟩ := tq_fail (c0 := c0) hτ
        refine ⟨_, F + M, fun w v2 => ?_, y1, y2⟩
        rw [qM_terms_69, if_neg (t71 τ hτ), if_pos (tq_0 hτ), tS τ hτ, if_pos (by omega), if_pos (tq_0 hτ)]
    · have hgd : xdp σ = xdp σ0 := gy_xdp hgy
      have st := ST (c0 := c0) (f := f) hnw rfl hr hl h13 (by omega) (show c + (C - j) < 3300 by omega) (by omega)
      have q31 : ∀ w1 w2 w4, X iReader_readAll1 31 [(2, 297), w1, w2, (0, (M : Int)), w4] [] σ = (X iReader_readStatement 0 [(2, 297), (9, 0)] [] σ).bind fun q1 => X iReader_readAll1 57 [(2, 297), w1, w2, (0, (M : Int)), w4] [q1.1] q1.2 := fun w1 w2 w4 => by
        rw [qReader_readAll1_31, if_pos (by omega), tc_at hr, if_neg h1, if_pos hr.2.2.2]
      have q69 : ∀ τ : xS, tq B n A F (F + M) τ.1 (-1) j c f → ∀ w v2, X iM_terms 69 [(2, 305), w, (0, v2)] [] τ = (X iM_tells 0 [(2, 305), (0, ((F + M : Nat) : Int))] [] τ).bind fun q1 => X iM_terms 112 [(2, 305), w, (0, v2)] [] q1.2 := fun τ hτ w v2 => by
        rw [qM_terms_69, if_neg (t71 τ hτ), if_pos (tq_0 hτ), tS τ hτ, if_neg (by omega), hτ.2.2.2.2.2.1]
      rcases st with ⟨υ, a, k1, q1, j', c', f', A', x1, x2, x3, x4, x5, x6, x7, x8, x9, x13, x10, x11, x12⟩ | ⟨υ, k1, q1, w, x1, x2, x3, x4, x5⟩
      · have ha0 : ¬ ((a : Nat) : Int) = 0 := by have := x8.1.1; omega
        obtain ⟨p1, p2⟩ := C_pass x2 (w := 59) (by decide)
        by_cases h59 : t_c B n j' = 59
        · obtain ⟨υ1, y1, y2, y3⟩ := p1 h59
          have j'C := tc_lt x2 (by rw [h59]; decide)
          obtain ⟨υ2, cs', z1, z2⟩ := lps_step hL hM x2 x3 (by omega) x5 x6 x7 x8 x9 x13 (pk_1 (tc_n (by rw [h59]; decide))) x10 x11 y2 y3
          have := ih υ2 A' f' (M + 1) (j' + 1) c' cs' (k + k1) (q + q1) (by omega) z2 (by omega)
          have q57 : ∀ w1 w2 w4, X iReader_readAll1 31 [(2, 297), w1, w2, (0, (M : Int)), w4] [] σ = X iReader_readAll1 31 [(2, 297), w1, w2, (0, ((M + 1 : Nat) : Int)), (2, (a : Int))] [] υ2 := fun w1 w2 w4 => by
            rw [q31, x1, Option.bind_some, qReader_readAll1_57, if_neg ha0, y1, Option.bind_some, qReader_readAll1_70, if_neg (show ¬ (1 : Int) = 0 by decide), z1, Option.bind_some, qReader_readAll1_79, xw_t (by omega)]
          have ref : ∀ τ, tq B n A F (F + M) τ.1 (-1) j c f → ∃ τ1, (∀ w v2, X iM_terms 69 [(2, 305), w, (0, v2)] [] τ = X iM_terms 69 [(2, 305), w, (0, v2)] [] τ1) ∧ tq B n A' F (F + (M + 1)) τ1.1 (-1) (j' + 1) c' f' ∧ fq F c0 τ τ1 := fun τ hτ => by
            obtain ⟨τ', v1, v2, v3⟩ := (x12 τ hτ).1 h59
            obtain ⟨v4, v5⟩ := tq_S (c0 := c0) v2 (by omega)
            refine ⟨_, fun w vv => ?_, v4, fq_tr v3 v5⟩
            rw [q69 τ hτ, v1, Option.bind_some, qM_terms_112, if_pos (tq_0 v2), v2.2.2.2.2.2.1, xw_t (by omega)]
          rcases this with ⟨υ3, A3, f3', M3, j3, c3, cs3, k3, q3, u1, u2, u3, u4, u5, u6, u7⟩ | ⟨υ3, k3, q3, w3, u1, u2, u3, u4, u5⟩
          · refine Or.inl ⟨υ3, A3, f3', M3, j3, c3, cs3, k3, q3, fun w1 w2 w4 => by rw [q57, u1], u2, u3, u4, fun q r hr => by rw [u5 q r (by omega), x5 q r hr], fun r i hr hi => by rw [u6 r i hr (by omega), x7 r i hr (by omega)], fun τ hτ => ?_⟩
            obtain ⟨τ1, v1, v2, v3⟩ := ref τ hτ
            obtain ⟨τ', v4, v5, v6⟩ := u7 τ1 v2
            exact ⟨τ', fun w vv => (v1 w vv).trans (v4 w vv), v5, fq_tr v3 v6⟩
          · refine Or.inr ⟨υ3, k3, q3, w3, fun w1 w2 w4 => by rw [q57, u1], u2, u3, u4, fun τ hτ => ?_⟩
            obtain ⟨τ1, v1, v2, v3⟩ := ref τ hτ
            obtain ⟨τ', S', v4, v5, v6⟩ := u5 τ1 v2
            exact ⟨τ', S', fun w vv => (v1 w vv).trans (v4 w vv), v5, fq_tr v3 v6⟩
        · obtain ⟨υ1, y1, y2, y3⟩ := p2 h59
          have j'C := x2.2.1.1
          refine Or.inr ⟨υ1, k + (k1 + 0), q + (q1 + 0), j', fun w1 w2 w4 => ?_, y3, gy_tr hgy (gz_tr x3 (gz_rf y2)), ⟨j'C, by omega, by omega⟩, fun τ hτ => ?_⟩
          · rw [q31, x1, Option.bind_some, qReader_readAll1_57, if_neg ha0, y1, Option.bind_some, qReader_readAll1_70, if_pos rfl, qReader_readAll1_79, C31x y3]
          · obtain ⟨τ', v1, v2, v3⟩ := (x12 τ hτ).2 h59
            exact ⟨τ', F + M, fun w vv => by rw [q69 τ hτ, v1, Option.bind_some, qM_terms_112, if_neg (tz_ne v2)], v2, v3⟩
      · refine Or.inr ⟨υ, k + k1, q + q1, w, fun w1 w2 w4 => ?_, x2, gy_tr hgy x3, ⟨by omega, by omega, by omega⟩, fun τ hτ => ?_⟩
        · rw [q31, x1, Option.bind_some, qReader_readAll1_57, if_pos rfl, qReader_readAll1_79, C31x x2]
        · obtain ⟨τ', v1, v2, v3⟩ := x5 τ hτ
          exact ⟨τ', F + M, fun w vv => by rw [q69 τ hτ, v1, Option.bind_some, qM_terms_112, if_neg (tz_ne v2)], v2, v3⟩
end LOP

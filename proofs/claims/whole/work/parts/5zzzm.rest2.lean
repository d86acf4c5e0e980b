/-! what follows a statement's head, on both sides -/
section RSO
variable {B : Nat → Int} {n C : Nat} {A : Nat → Nat → Int} {F M S : Nat} {cs : Nat → Nat} {σ0 σ τ υ : xS} {e : Int} {j c c0 k q a : Nat} {f : Nat → Nat → Int} {kd : Int}
/-- what the two sides make of the rest: the class's answer XR, the reference's MR -/
def rsO (B : Nat → Int) (n C : Nat) (A : Nat → Nat → Int) (F S c0 : Nat) (σ0 σ : xS) (a : Nat) (kd : Int) (k q j c : Nat) (f : Nat → Nat → Int) (XR : Option (xAV × xS)) (MR : xS → Option (xAV × xS)) : Prop :=
  (∃ (υ : xS) (k' j' c' : Nat) (f' A' : Nat → Nat → Int), XR = some ((2, (a : Int)), υ) ∧ rst υ.1 B n C 0 j' ∧ gz σ0 υ (k + k') (q + 8 * k') ∧ (j ≤ j' ∧ c ≤ c' ∧ c' + j ≤ c + j' ∧ k' + j ≤ j') ∧ (∀ q r, r < c → f' q r = f q r) ∧ nd υ.2.1 a ∧ (∀ x w, nam σ.1 σ.2.1 x w → nam υ.1 υ.2.1 x w) ∧ (∀ i, i ≠ 6 → υ.1 a i = σ.1 a i) ∧
    (kd < 5 → A' = ars A S c' (some ((c' - 1 : Nat) : Int)) ∧ c < c' ∧ wl f' (lwd (A 6) F) (c' - 1) + 3 * ptk B n j ≤ 3 * ptk B n j' ∧ wfs f' (A 0) F S c c' ∧ f' 0 (c' - 1) ≤ 10 ∧ ∃ b lo hi : Nat, υ.1 a 6 = (b : Int) ∧ (a < lo ∧ hi ≤ nn υ) ∧ ∀ N, c' - c ≤ N → rl f' υ.1 υ.2.1 (A 0) (A 6) F S N lo hi b (c' - 1)) ∧
    (5 ≤ kd → A' = ars A S c' none ∧ c' = c ∧ f' = f ∧ υ.1 a 6 = σ.1 a 6) ∧
    ∀ τ, tq B n A F S τ.1 (-1) j c f → (t_c B n j' = 59 → ∃ τ', MR τ = some ((9, 0), τ') ∧ tq B n A' F S τ'.1 (-1) (j' + 1) c' f' ∧ fq F c0 τ τ') ∧ (t_c B n j' ≠ 59 → ∃ τ', MR τ = some ((9, 0), τ') ∧ tz B n F S τ'.1 (t_s B n j' : Int) ∧ fq F c0 τ τ')) ∨
  ∃ (υ : xS) (k' w : Nat), XR = some ((2, 0), υ) ∧ rft υ.1 B n w ∧ gz σ0 υ (k + k') (q + 8 * k') ∧ (j ≤ w ∧ w ≤ C ∧ k' + j ≤ w) ∧ ∀ τ, tq B n A F S τ.1 (-1) j c f → ∃ τ', MR τ = some ((9, 0), τ') ∧ tz B n F S τ'.1 (t_s B n w : Int) ∧ fq F c0 τ τ'
set_option maxHeartbeats 1000000 in
theorem AFT (R : RD B n C (A 0) (A 6) F M c0 cs 0 4 9 (fun z => z ≤ 10) iReader_readEx [(2, 297)] 0) (hS : S = F + M) (hkd : kd < 5) (hA0 : A 0 S = kd) (ha : nd σ.2.1 a) (ha0 : nn σ0 ≤ a) (hr : rst σ.1 B n C 0 j) (hl0 : ltc σ0.1 σ0.2.1 (A 0) (A 6) F M cs) (hg : gz σ0 σ k q) (hd : 400 ≤ xdp σ) (hc : c + (C - j) < 3300) (h0 : c0 ≤ c) (f : Nat → Nat → Int) : rsO B n C A F S c0 σ0 σ a kd k q j c f (X iReader_readRest 48 [(2, 297), (2, (a : Int)), (9, 0)] [(0, 1)] σ) (fun τ => X iM_tells 462 [(2, 305), (0, (S : Int))] [] τ) := by
  subst hS
  have gn := nn_ge (σ := σ0)
  have haN := ty_lt ha.1 ha.2
  obtain ⟨v, τ1, x1, x2⟩ := R σ j c f hr (gz_ltc hg hl0) (by omega) hc h0
  rcases x2 with ⟨k', b, j', c', f', rfl, m1, m2, ⟨m3, m4, m5, m6⟩, m7, m8, ⟨m9, m13⟩, m10, m11, m12⟩ | ⟨rfl, k', w, m1, m2, ⟨m3, m4, m5⟩, m6⟩
  · have ha1 := hg_ndk m1 ha
    have n1 := hg_nn m1
    have gA := gz_s (gz_tr hg (gz_hg m1)) ha0 6 (b : Int)
    have hgo : ∀ g, GO B n (A 0) (A 6) F (F + M) c0 (-1, 0, j, c, f, g, [(0, 0, -1, -1, 0)]) (-1, 0, j', c', f', ((c' - 1 : Nat) : Int), []) := fun g => m12 g [] (by decide)
    refine Or.inl ⟨xs τ1 a 6 (b : Int), k', j', c', f', ars A (F + M) c' (some ((c' - 1 : Nat) : Int)), ?_, rst_cg m2 (fun x hx => xs_ne (by omega)), gA, ⟨by omega, by omega, m5, m6.1⟩, m7, ha1.1, fun x w hx => nam_xs ha1.1 (hg_nam m1 hx) 6 _, fun i hi => by rw [xs_at, xup_ne hi, ha1.2], fun _ => ⟨rfl, m4, m6.2, m8, m9, b, nn σ, nn τ1, by rw [xs_at, xup_eq], ⟨haN, Nat.le_refl _⟩, fun N hN => ?_⟩, fun h5 => absurd h5 (by omega), fun τ hτ => M_462x hτ (by rw [hA0]; exact hkd) hgo⟩
    · have hr1 : (xs τ1 a 6 (b : Int)).1 297 14 = -1 := by rw [xs_ne (by omega)]; exact m2.2.2.2
      rw [qReader_readRest_48, if_neg (show ¬ (1 : Int) = 0 by decide), x1, Option.bind_some, qReader_readRest_58, nd_o ha1.1, cnd_t, nd_wr ha1.1, xob_some, if_pos hr1]
    · exact rl_cg m8 (fun _ hx => hx) (fun _ _ _ => ⟨rfl, rfl⟩) (fun x w hx => nam_xs ha1.1 hx 6 _) N (nn σ) (nn τ1) b (c' - 1) (by omega) (by omega) (fun x i y1 y2 y3 y4 => by rw [xs_ne (by omega)]) (fun i _ _ => ⟨fun _ _ _ => rfl, fun _ => rfl⟩) (m11 N hN)
  · have ha1 := hg_ndk m1 ha
    have gA := gz_s (gz_tr hg (gz_hg m1)) ha0 6 0
    have hgo : ∀ g, BAD B n (A 0) (A 6) F (F + M) c0 (-1, 0, j, c, f, g, [(0, 0, -1, -1, 0)]) w := fun g => m6 g [] (by decide)
    have hr2 : rft (xs τ1 a 6 0).1 B n w := rft_cg m2 (xs_ne (by omega))
    refine Or.inr ⟨xs τ1 a 6 0, k', w, ?_, hr2, gA, ⟨m3, m4, m5⟩, fun τ hτ => M_462b hτ (by rw [hA0]; exact hkd) hgo⟩
    rw [qReader_readRest_48, if_neg (show ¬ (1 : Int) = 0 by decide), x1, Option.bind_some, qReader_readRest_58, nd_o ha1.1, cnd_t, nd_wr ha1.1, xob_some, if_neg (rft_n hr2)]
theorem rsO_pre {XR XR' : Option (xAV × xS)} {MR MR' : xS → Option (xAV × xS)} {σ1 : xS} (h : rsO B n C A F S c0 σ0 σ1 a kd k q (j + 1) c f XR MR) (he : XR' = XR) (hm : ∀ i, i ≠ 6 → σ1.1 a i = σ.1 a i) (hn : ∀ x w, nam σ.1 σ.2.1 x w → nam σ1.1 σ1.2.1 x w) (hk : kd < 5) (hpk : ptk B n j ≤ ptk B n (j + 1)) (hM : ∀ τ, tq B n A F S τ.1 (-1) j c f → ∃ τ1, MR' τ = MR τ1 ∧ tq B n A F S τ1.1 (-1) (j + 1) c f ∧ fq F c0 τ τ1) : rsO B n C A F S c0 σ0 σ a kd k q j c f XR' MR' := by
  rcases h with ⟨υ, k', j', c', f', A', x1, x2, x3, x4, x5, x6, x11, x7, x8, x9, x10⟩ | ⟨υ, k', w, x1, x2, x3, x4, x5⟩
  · refine Or.inl ⟨υ, k', j', c', f', A', by rw [he, x1], x2, x3, by omega, x5, x6, fun x w hx => x11 x w (hn x w hx), fun i hi => (x7 i hi).trans (hm i hi), fun h5 => ⟨(x8 h5).1, (x8 h5).2.1, by have := (x8 h5).2.2.1; omega, (x8 h5).2.2.2⟩, fun h5 => absurd h5 (by omega), fun τ hτ => ?_⟩
    obtain ⟨τ1, y1, y2, y3⟩ := hM τ hτ
    obtain ⟨z1, z2⟩ := x10 τ1 y2
    refine ⟨fun h => ?_, fun h => ?_⟩
    · obtain ⟨τ', w1, w2, w3⟩ := z1 h
      exact ⟨τ', by rw [y1, w1], w2, fq_tr y3 w3⟩
    · obtain ⟨τ', w1, w2, w3⟩ := z2 h
      exact ⟨τ', by rw [y1, w1], w2, fq_tr y3 w3⟩
  · refine Or.inr ⟨υ, k', w, by rw [he, x1], x2, x3, by omega, fun τ hτ => ?_⟩
    obtain ⟨τ1, y1, y2, y3⟩ := hM τ hτ
    obtain ⟨τ', w1, w2, w3⟩ := x5 τ1 y2
    exact ⟨τ', by rw [y1, w1], w2, fq_tr y3 w3⟩
set_option maxHeartbeats 1000000 in
theorem REST (R : RD B n C (A 0) (A 6) F M c0 cs 0 4 9 (fun z => z ≤ 10) iReader_readEx [(2, 297)] 0) (hS : S = F + M) (hkd : 0 ≤ kd ∧ kd ≤ 6) (hA0 : A 0 S = kd) (ha : nd σ.2.1 a) (ha0 : nn σ0 ≤ a) (hs0 : σ.1 a 0 = 2 + kd) (hr : rst σ.1 B n C 0 j) (hl0 : ltc σ0.1 σ0.2.1 (A 0) (A 6) F M cs) (hg : gz σ0 σ k q) (hd : 400 ≤ xdp σ) (hc : c + (C - j) < 3300) (h0 : c0 ≤ c) (f : Nat → Nat → Int) : rsO B n C A F S c0 σ0 σ a kd k q j c f (X iReader_readRest 0 [(2, 297), (2, (a : Int)), (9, 0)] [] σ) (midx S) := by
  have gn := nn_ge (σ := σ0)
  have ha392 := ha.1
  have e344 : ∀ τ : xS, tq B n A F S τ.1 (-1) j c f → τ.1 344 S = kd := fun τ hτ => by rw [show τ.1 344 = A 0 from hτ.2.2.2.1 0 (by decide)]; exact hA0
  have xk : ∀ i, (2 : Int) ≤ i → i ≤ 8 → xcm i = true := fun i h1 h2 => by
    have := xcm_q (i.toNat - 2) (by omega)
    rw [show ((2 + (i.toNat - 2) : Nat) : Int) = i by omega] at this
    exact this
  have hx : (xcm (2 + kd) && xcm 7) = true ∧ (xcm (2 + kd) && xcm 8) = true ∧ (xcm (2 + kd) && xcm 6) = true := by
    rw [xk (2 + kd) (by omega) (by omega)]
    exact ⟨rfl, rfl, rfl⟩
  have fld := nd_f ha 0
  rw [hs0] at fld
  by_cases h5 : 5 ≤ kd
  · refine Or.inl ⟨σ, 0, j, c, f, ars A S c none, ?_, hr, hg, by omega, fun _ _ _ => rfl, ha, fun _ _ hx => hx, fun _ _ => rfl, fun h => absurd h (by omega), fun _ => ⟨rfl, rfl, rfl, rfl⟩, fun τ hτ => ?_⟩
    · rw [qReader_readRest_0, fld, xob_some, hx.1, cnd_t]
      by_cases h7 : 2 + kd = 7
      · rw [if_pos h7]
      · rw [if_neg h7, xob_some, hx.2.1, cnd_t, if_pos (by omega)]
    · unfold midx
      rw [e344 τ hτ, if_neg (by omega), if_neg (by omega)]
      exact M_462n hτ (by rw [hA0]; omega)
  by_cases h4 : kd = 4
  · have pw := C_passWord hr (q := 11) (by decide)
    by_cases hw : tW B n j 79
    · obtain ⟨τ1, (p1 : X iReader_passWord 0 [(2, 297), (2, 13)] [] σ = some ((0, 1), τ1)), p2, p3⟩ := pw.1 (show tW B n j (kcd 11) from hw)
      have hlt := tc_lt hr (by rw [hw.1]; decide)
      have e1 : τ1.1 a = σ.1 a := p3.2.1 a (by omega)
      have := AFT (kd := kd) (k := k) (q := q) R hS (by omega) hA0 (σ := τ1) (a := a) (by rw [p3.1]; exact ha) ha0 p2 hl0 (gz_tr hg (gz_rf p3)) (by rw [hg_xdp (hg_rf p3)]; exact hd) (show c + (C - (j + 1)) < 3300 by omega) h0 f
      refine rsO_pre this ?_ (fun i _ => by rw [e1]) (fun x w hx => hg_nam (hg_rf p3) hx) (by omega) (by have := pk_1 (tc_n (B := B) (n := n) (j := j) (by rw [hw.1]; decide)); omega) fun τ hτ => ?_
      · rw [qReader_readRest_0, fld, xob_some, hx.1, cnd_t, if_neg (by omega), xob_some, hx.2.1, cnd_t, if_neg (by omega), xob_some, hx.2.2, cnd_t, if_pos (by omega), p1, Option.bind_some, qReader_readRest_39]
      · obtain ⟨τ', y1, y2, y3⟩ := (tq_word (c0 := c0) hτ 79).1 hw
        refine ⟨τ', ?_, y2, y3⟩
        unfold midx
        rw [e344 τ hτ, if_pos h4, y1, Option.bind_some, qM_tells_436]
    · obtain ⟨τ1, (p1 : X iReader_passWord 0 [(2, 297), (2, 13)] [] σ = some ((0, 0), τ1)), p2, p3⟩ := pw.2 (show ¬ tW B n j (kcd 11) from fun z => hw z)
      have ha1 : nd τ1.2.1 a := by rw [p2.1]; exact ha
      have hr2 : rft (xs τ1 a 6 0).1 B n j := rft_cg p3 (xs_ne (by omega))
      refine Or.inr ⟨xs τ1 a 6 0, 0, j, ?_, hr2, gz_s (gz_tr hg (gz_rf p2)) ha0 6 0, ⟨Nat.le_refl _, hr.2.1.1, by omega⟩, fun τ hτ => ?_⟩
      · rw [qReader_readRest_0, fld, xob_some, hx.1, cnd_t, if_neg (by omega), xob_some, hx.2.1, cnd_t, if_neg (by omega), xob_some, hx.2.2, cnd_t, if_pos (by omega), p1, Option.bind_some, qReader_readRest_39, qReader_readRest_48, if_pos rfl, nd_o ha1, cnd_t, nd_wr ha1, xob_some, if_neg (rft_n hr2)]
      · obtain ⟨τ', y1, y2, y3⟩ := (tq_word (c0 := c0) hτ 79).2 hw
        obtain ⟨τ2, y4, y5, y6⟩ := M_462z (c0 := c0) y2
        refine ⟨τ2, ?_, y5, fq_tr y3 y6⟩
        unfold midx
        rw [e344 τ hτ, if_pos h4, y1, Option.bind_some, qM_tells_436, y4]
  · obtain ⟨pp1, pp2⟩ := C_pass hr (w := 61) (by decide)
    have sg : sgn 61 := by unfold sgn; omega
    by_cases hw : t_c B n j = 61
    · obtain ⟨τ1, p1, p2, p3⟩ := pp1 hw
      have hlt := tc_lt hr (by rw [hw]; decide)
      have e1 : τ1.1 a = σ.1 a := p3.2.1 a (by omega)
      have := AFT (kd := kd) (k := k) (q := q) R hS (by omega) hA0 (σ := τ1) (a := a) (by rw [p3.1]; exact ha) ha0 p2 hl0 (gz_tr hg (gz_rf p3)) (by rw [hg_xdp (hg_rf p3)]; exact hd) (show c + (C - (j + 1)) < 3300 by omega) h0 f
      refine rsO_pre this ?_ (fun i _ => by rw [e1]) (fun x w hx => hg_nam (hg_rf p3) hx) (by omega) (by have := pk_1 (tc_n (B := B) (n := n) (j := j) (by rw [hw]; decide)); omega) fun τ hτ => ?_
      · rw [qReader_readRest_0, fld, xob_some, hx.1, cnd_t, if_neg (by omega), xob_some, hx.2.1, cnd_t, if_neg (by omega), xob_some, hx.2.2, cnd_t, if_neg (by omega), p1, Option.bind_some]
      · obtain ⟨τ', y1, y2, y3⟩ := (tq_sign (c0 := c0) hτ sg).1 hw
        refine ⟨τ', ?_, y2, y3⟩
        unfold midx
        rw [e344 τ hτ, if_neg h4, if_pos (by omega), y1, Option.bind_some]
    · obtain ⟨τ1, p1, p2, p3⟩ := pp2 hw
      have ha1 : nd τ1.2.1 a := by rw [p2.1]; exact ha
      have hr2 : rft (xs τ1 a 6 0).1 B n j := rft_cg p3 (xs_ne (by omega))
      refine Or.inr ⟨xs τ1 a 6 0, 0, j, ?_, hr2, gz_s (gz_tr hg (gz_rf p2)) ha0 6 0, ⟨Nat.le_refl _, hr.2.1.1, by omega⟩, fun τ hτ => ?_⟩
      · rw [qReader_readRest_0, fld, xob_some, hx.1, cnd_t, if_neg (by omega), xob_some, hx.2.1, cnd_t, if_neg (by omega), xob_some, hx.2.2, cnd_t, if_neg (by omega), p1, Option.bind_some, qReader_readRest_48, if_pos rfl, nd_o ha1, cnd_t, nd_wr ha1, xob_some, if_neg (rft_n hr2)]
      · obtain ⟨τ', y1, y2, y3⟩ := (tq_sign (c0 := c0) hτ sg).2 hw
        obtain ⟨τ2, y4, y5, y6⟩ := M_462z (c0 := c0) y2
        refine ⟨τ2, ?_, y5, fq_tr y3 y6⟩
        unfold midx
        rw [e344 τ hτ, if_neg h4, if_pos (by omega), y1, Option.bind_some, y4]
end RSO

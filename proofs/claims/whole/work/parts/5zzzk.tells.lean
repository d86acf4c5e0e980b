/-! the reference between statements -/
section TQ
variable {B : Nat → Int} {n : Nat} {A : Nat → Nat → Int} {F S : Nat} {σ τ υ : xS} {e : Int} {j c c0 : Nat} {f : Nat → Nat → Int}
/-- at token j, S statements, c rows -/
def tq (B : Nat → Int) (n : Nat) (A : Nat → Nat → Int) (F S : Nat) (m : Nat → Nat → Int) (e : Int) (j c : Nat) (f : Nat → Nat → Int) : Prop := (tpB m B n ∧ tkn m B n j) ∧ mse m e ∧ (m 305 64 = (c : Int) ∧ ∀ q, q < 6 → m (351 + q) = f q) ∧ (∀ q, q < 7 → m (344 + q) = A q) ∧ m 305 76 = (F : Int) ∧ m 305 57 = (S : Int) ∧ F ≤ S ∧ S ≤ 199
/-- what it leaves alone: statements ahead of F, rows ahead of c0 -/
def fq (F c0 : Nat) (σ τ : xS) : Prop := τ.2 = σ.2 ∧ (∀ a, a ≠ 305 → ¬ (344 ≤ a ∧ a ≤ 356) → ¬ (358 ≤ a ∧ a ≤ 362) → τ.1 a = σ.1 a) ∧ (∀ k, ¬ msc k → k ≠ 57 → τ.1 305 k = σ.1 305 k) ∧ (∀ q r, q < 6 → r < c0 → τ.1 (351 + q) r = σ.1 (351 + q) r) ∧ ∀ q r, q < 7 → r < F → τ.1 (344 + q) r = σ.1 (344 + q) r
theorem fq_rf : fq F c0 σ σ := ⟨rfl, fun _ _ _ _ => rfl, fun _ _ _ => rfl, fun _ _ _ _ => rfl, fun _ _ _ _ => rfl⟩
theorem fq_tr (h : fq F c0 σ τ) (k : fq F c0 τ υ) : fq F c0 σ υ := ⟨k.1.trans h.1, fun a h1 h2 h3 => (k.2.1 a h1 h2 h3).trans (h.2.1 a h1 h2 h3), fun a h1 h2 => (k.2.2.1 a h1 h2).trans (h.2.2.1 a h1 h2), fun q r h1 h2 => (k.2.2.2.1 q r h1 h2).trans (h.2.2.2.1 q r h1 h2), fun q r h1 h2 => (k.2.2.2.2 q r h1 h2).trans (h.2.2.2.2 q r h1 h2)⟩
theorem fq_fm (h : fm c0 σ τ) : fq F c0 σ τ := ⟨h.1, fun a h1 h2 h3 => h.2.1 a h1 (by omega) h3, fun k h1 _ => h.2.2.1 k h1, h.2.2.2, fun q r h1 _ => by rw [h.2.1 (344 + q) (by omega) (by omega) (by omega)]⟩
theorem fq_s {k : Nat} (hk : msc k ∨ k = 57) (v : Int) : fq F c0 σ (xs σ 305 k v) := ⟨rfl, fun a h1 _ _ => by rw [xs_ne h1], fun i h1 h2 => by rw [xs_at, xup_ne (fun z => by rw [z] at h1 h2; exact hk.elim h1 h2)], fun q r h1 _ => by rw [xs_ne (by omega)], fun q r h1 _ => by rw [xs_ne (by omega)]⟩
theorem fq_A {q i : Nat} (hq : q < 7) (hi : F ≤ i) (v : Int) : fq F c0 σ (xs σ (344 + q) i v) := ⟨rfl, fun a h1 h2 _ => by rw [xs_ne (by omega)], fun i h1 h2 => by rw [xs_ne (by omega)], fun q' r h1 _ => by rw [xs_ne (by omega)], fun q' r h1 h2 => by
  by_cases e : q' = q
  · rw [e, xs_at, xup_ne (by omega)]
  · rw [xs_ne (by omega)]⟩
/-- behind a fault, wherever -/
def tz (B : Nat → Int) (n : Nat) (F S : Nat) (m : Nat → Nat → Int) (e : Int) : Prop := (tpB m B n ∧ ∃ j, tkn m B n j) ∧ (mse m e ∧ 0 ≤ e) ∧ m 305 76 = (F : Int) ∧ m 305 57 = (S : Int) ∧ F ≤ S ∧ S ≤ 199
theorem tq_tz (h : tq B n A F S σ.1 e j c f) (he : 0 ≤ e) : tz B n F S σ.1 e := ⟨⟨h.1.1, j, h.1.2⟩, ⟨h.2.1, he⟩, h.2.2.2.2⟩
theorem tz_ne (h : tz B n F S σ.1 e) : ¬ xna 4 (σ.1 305 74) = 0 := mse_no h.2.1.1 (by have := h.2.1.2; omega)
theorem tq_0 (h : tq B n A F S σ.1 (-1) j c f) : xna 4 (σ.1 305 74) = 0 := mse_ok h.2.1
theorem tq_slt (h : tq B n A F S σ.1 e j c f) (hs : slt pnx σ τ) {j' : Nat} (ht : tkn τ.1 B n j') : tq B n A F S τ.1 e j' c f := by
  have e5 (k : Nat) (hk : ¬ pnx k) : τ.1 305 k = σ.1 305 k := hs.2.2 k hk
  obtain ⟨⟨h1, h2⟩, h3, ⟨h4, h5⟩, h6, h7, h8, h9⟩ := h
  exact ⟨⟨tpB_slt (by decide) hs h1, ht⟩, mse_cg h3 ⟨e5 _ (by decide), e5 _ (by decide)⟩, ⟨by rw [e5 _ (by decide)]; exact h4, fun q hq => by rw [hs.2.1 _ (by omega)]; exact h5 q hq⟩, fun q hq => by rw [hs.2.1 _ (by omega)]; exact h6 q hq, by rw [e5 _ (by decide)]; exact h7, by rw [e5 _ (by decide)]; exact h8, h9⟩
theorem tq_next (h : tq B n A F S σ.1 e j c f) : ∃ τ, X iM_next 0 [(2, 305), (9, 0)] [] σ = some ((9, 0), τ) ∧ tq B n A F S τ.1 e (j + 1) c f ∧ fq F c0 σ τ := by
  obtain ⟨τ, h1, h2, h3⟩ := M_next h.1.1 (9, 0) (j := j + 1) h.1.2.1
  exact ⟨τ, h1, tq_slt h h2 h3, fq_fm (fm_slt h2)⟩
theorem tz_next (h : tz B n F S σ.1 e) : ∃ τ, X iM_next 0 [(2, 305), (9, 0)] [] σ = some ((9, 0), τ) ∧ tz B n F S τ.1 e ∧ fq F c0 σ τ := by
  obtain ⟨⟨h1, j, h2⟩, ⟨h3, h4⟩, h7, h8, h9⟩ := h
  obtain ⟨τ, k1, k2, k3⟩ := M_next h1 (9, 0) (j := j + 1) h2.1
  have e5 (k : Nat) (hk : ¬ pnx k) : τ.1 305 k = σ.1 305 k := k2.2.2 k hk
  exact ⟨τ, k1, ⟨⟨tpB_slt (by decide) k2 h1, _, k3⟩, ⟨mse_cg h3 ⟨e5 _ (by decide), e5 _ (by decide)⟩, h4⟩, by rw [e5 _ (by decide)]; exact h7, by rw [e5 _ (by decide)]; exact h8, h9⟩, fq_fm (fm_slt k2)⟩
theorem tq_fail (h : tq B n A F S σ.1 (-1) j c f) : tz B n F S (xs (xs σ 305 74 1) 305 67 (σ.1 305 70)).1 (t_s B n j : Int) ∧ fq F c0 σ (xs (xs σ 305 74 1) 305 67 (σ.1 305 70)) := by
  have ht (k : Nat) (hk : k ≠ 74) (hk2 : k ≠ 67) : (xs (xs σ 305 74 1) 305 67 (σ.1 305 70)).1 305 k = σ.1 305 k := by rw [xs_at, xup_ne hk2, xs_at, xup_ne hk]
  obtain ⟨⟨h1, h2⟩, h3, ⟨h4, h5⟩, h6, h7, h8, h9⟩ := h
  refine ⟨⟨⟨?_, j, tkn_cg h2 fun k hk => ht k (by omega) (by omega)⟩, ⟨Or.inr ⟨by omega, by rw [xs_at, xup_ne (by decide), xs_at, xup_eq], by rw [xs_at, xup_eq]; exact h2.2.1⟩, by omega⟩, by rw [ht _ (by decide) (by decide)]; exact h7, by rw [ht _ (by decide) (by decide)]; exact h8, h9⟩, fq_tr (fq_s (Or.inl (by unfold msc; omega)) _) (fq_s (Or.inl (by unfold msc; omega)) _)⟩
  unfold tpB
  rw [ht _ (by decide) (by decide), xs_ne (by decide), xs_ne (by decide)]
  exact h1
theorem tq_A (h : tq B n A F S σ.1 e j c f) {q : Nat} (hq : q < 7) (i : Nat) (v : Int) : tq B n (fun r => if r = q then xup (A q) i v else A r) F S (xs σ (344 + q) i v).1 e j c f := by
  obtain ⟨⟨h1, h2⟩, h3, ⟨h4, h5⟩, h6, h7, h8, h9⟩ := h
  have e5 : (xs σ (344 + q) i v).1 305 = σ.1 305 := xs_ne (by omega)
  refine ⟨⟨?_, tkn_cg h2 fun k hk => by rw [e5]⟩, mse_cg h3 ⟨by rw [e5], by rw [e5]⟩, ⟨by rw [e5]; exact h4, fun r hr => by rw [xs_ne (by omega)]; exact h5 r hr⟩, fun r hr => ?_, by rw [e5]; exact h7, by rw [e5]; exact h8, h9⟩
  · unfold tpB
    rw [e5, xs_ne (by omega)]
    exact h1
  · show (xs σ (344 + q) i v).1 (344 + r) = if r = q then xup (A q) i v else A r
    by_cases er : r = q
    · rw [if_pos er, er, xs_at, h6 q hq]
    · rw [if_neg er, xs_ne (by omega)]
      exact h6 r hr
theorem tz_A (h : tz B n F S σ.1 e) {q : Nat} (hq : q < 7) (i : Nat) (v : Int) : tz B n F S (xs σ (344 + q) i v).1 e := by
  obtain ⟨⟨h1, j, h2⟩, ⟨h3, h4⟩, h7, h8, h9⟩ := h
  have e5 : (xs σ (344 + q) i v).1 305 = σ.1 305 := xs_ne (by omega)
  refine ⟨⟨?_, j, tkn_cg h2 fun k hk => by rw [e5]⟩, ⟨mse_cg h3 ⟨by rw [e5], by rw [e5]⟩, h4⟩, by rw [e5]; exact h7, by rw [e5]; exact h8, h9⟩
  unfold tpB
  rw [e5, xs_ne (by omega)]
  exact h1
theorem tq_word (h : tq B n A F S σ.1 (-1) j c f) (w : Int) : (tW B n j w → ∃ τ, X iM_word 0 [(2, 305), (1, w), (8, 0)] [] σ = some ((9, 0), τ) ∧ tq B n A F S τ.1 (-1) (j + 1) c f ∧ fq F c0 σ τ) ∧ (¬ tW B n j w → ∃ τ, X iM_word 0 [(2, 305), (1, w), (8, 0)] [] σ = some ((9, 0), τ) ∧ tz B n F S τ.1 (t_s B n j : Int) ∧ fq F c0 σ τ) := by
  refine ⟨fun hw => ?_, fun hw => ?_⟩
  · obtain ⟨h1, h2⟩ := tk_W h.1.2 hw
    obtain ⟨τ, k1, k2, k3⟩ := tq_next (c0 := c0) h
    exact ⟨τ, by rw [qM_word_0, if_pos h1, if_pos h2, k1, Option.bind_some, qM_word_12], k2, k3⟩
  · obtain ⟨k1, k2⟩ := tq_fail (c0 := c0) h
    exact ⟨_, by rw [qM_word_0, if2 (tk_Wn h.1.2 hw), if_pos (tq_0 h)], k1, k2⟩
theorem tz_word (h : tz B n F S σ.1 e) (w : Int) : ∃ τ, X iM_word 0 [(2, 305), (1, w), (8, 0)] [] σ = some ((9, 0), τ) ∧ tz B n F S τ.1 e ∧ fq F c0 σ τ := by
  by_cases h1 : σ.1 305 71 = 1 ∧ σ.1 305 73 = w
  · obtain ⟨τ, k1, k2, k3⟩ := tz_next (c0 := c0) h
    exact ⟨τ, by rw [qM_word_0, if_pos h1.1, if_pos h1.2, k1, Option.bind_some, qM_word_12], k2, k3⟩
  · exact ⟨σ, by rw [qM_word_0, if2 h1, if_neg (tz_ne h)], h, fq_rf⟩
theorem tq_sign (h : tq B n A F S σ.1 (-1) j c f) {w : Int} (hs : sgn w) : (t_c B n j = w → ∃ τ, X iM_sign 0 [(2, 305), (0, w)] [] σ = some ((9, 0), τ) ∧ tq B n A F S τ.1 (-1) (j + 1) c f ∧ fq F c0 σ τ) ∧ (t_c B n j ≠ w → ∃ τ, X iM_sign 0 [(2, 305), (0, w)] [] σ = some ((9, 0), τ) ∧ tz B n F S τ.1 (t_s B n j : Int) ∧ fq F c0 σ τ) := by
  refine ⟨fun hw => ?_, fun hw => ?_⟩
  · obtain ⟨h1, h2⟩ := tk_S h.1.2 hs hw
    obtain ⟨τ, k1, k2, k3⟩ := tq_next (c0 := c0) h
    exact ⟨τ, by rw [qM_sign_0, if_pos h1, if_pos h2, k1, Option.bind_some, qM_sign_12], k2, k3⟩
  · obtain ⟨k1, k2⟩ := tq_fail (c0 := c0) h
    exact ⟨_, by rw [qM_sign_0, if2 (tk_Sn h.1.2 hw), if_pos (tq_0 h)], k1, k2⟩
theorem tq_number (h : tq B n A F S σ.1 (-1) j c f) : (t_c B n j = 3 → ∃ τ, X iM_number 0 [(2, 305), (9, 0)] [] σ = some ((0, t_n B n j), τ) ∧ tq B n A F S τ.1 (-1) (j + 1) c f ∧ fq F c0 σ τ) ∧ (t_c B n j ≠ 3 → ∃ v τ, X iM_number 0 [(2, 305), (9, 0)] [] σ = some ((0, v), τ) ∧ tz B n F S τ.1 (t_s B n j : Int) ∧ fq F c0 σ τ) := by
  refine ⟨fun hw => ?_, fun hw => ?_⟩
  · obtain ⟨h1, h2⟩ := tk_D h.1.2 hw
    obtain ⟨τ, k1, k2, k3⟩ := tq_next (c0 := c0) h
    have hb := t_n_bd hw
    exact ⟨τ, by rw [qM_number_0, if_pos h1, k1, Option.bind_some, qM_number_18, h2, xw_id (x := t_n B n j) (by omega) (by omega)], k2, k3⟩
  · obtain ⟨k1, k2⟩ := tq_fail (c0 := c0) h
    exact ⟨_, _, by rw [qM_number_0, if_neg (tk_Dn h.1.2 hw), if_pos (tq_0 h)], k1, k2⟩
theorem tz_number (h : tz B n F S σ.1 e) : ∃ v τ, X iM_number 0 [(2, 305), (9, 0)] [] σ = some ((0, v), τ) ∧ tz B n F S τ.1 e ∧ fq F c0 σ τ := by
  by_cases h1 : σ.1 305 71 = 2
  · obtain ⟨τ, k1, k2, k3⟩ := tz_next (c0 := c0) h
    exact ⟨_, τ, by rw [qM_number_0, if_pos h1, k1, Option.bind_some, qM_number_18], k2, k3⟩
  · exact ⟨_, σ, by rw [qM_number_0, if_neg h1, if_neg (tz_ne h)], h, fq_rf⟩
/-- an EX, from what the reader found -/
theorem M_begin0 (h : tq B n A F S σ.1 (-1) j c f) : ∃ τ g, X iM_expression 0 [(2, 305), (9, 0)] [] σ = X iM_expression 15 [(2, 305), (9, 0)] [] τ ∧ msT B n (A 0) (A 6) F S τ.1 (-1, 0, j, c, f, g, [(0, 0, -1, -1, 0)]) ∧ fm c0 σ τ := by
  have ht (k : Nat) (hk : k ≠ 82) (hk2 : k ≠ 75) : (xs (xs σ 305 82 0) 305 75 0).1 305 k = σ.1 305 k := by rw [xs_at, xup_ne hk2, xs_at, xup_ne hk]
  have ho (a : Nat) (ha : a ≠ 305) : (xs (xs σ 305 82 0) 305 75 0).1 a = σ.1 a := by rw [xs_ne ha, xs_ne ha]
  obtain ⟨⟨h1, h2⟩, h3, ⟨h4, h5⟩, h6, h7, h8, h9, h10⟩ := h
  have hm : ms B n (A 0) (A 6) F S (xs (xs σ 305 82 0) 305 75 0).1 (-1) 0 j c f (σ.1 305 83) [] := by
    refine ⟨⟨?_, by rw [ht _ (by decide) (by decide)]; exact h7, by rw [ht _ (by decide) (by decide)]; exact h8, by rw [ho _ (by decide)]; exact h6 0 (by decide), by rw [ho _ (by decide)]; exact h6 6 (by decide), h9, by omega⟩, tkn_cg h2 fun k hk => ht k (by omega) (by omega), mse_cg h3 ⟨ht _ (by decide) (by decide), ht _ (by decide) (by decide)⟩, ⟨by rw [xs_at, xup_eq], by decide, by decide⟩, ⟨by rw [ht _ (by decide) (by decide)]; exact h4, fun q hq => by rw [ho _ (by omega)]; exact h5 q hq⟩, ht _ (by decide) (by decide), by rw [xs_at, xup_ne (by decide), xs_at, xup_eq]; rfl, trivial⟩
    unfold tpB
    rw [ht _ (by decide) (by decide), ho _ (by decide)]
    exact h1
  obtain ⟨τ, k1, k2, k3⟩ := ms_begin (c0 := c0) hm (by decide) 0
  exact ⟨τ, σ.1 305 83, by rw [qM_expression_0, k1, Option.bind_some], k2, fm_tr (fm_tr (fm_s (by unfold msc; omega) _) (fm_s (by unfold msc; omega) _)) k3⟩
theorem tq_fm (h : tq B n A F S σ.1 e j c f) (hf : fm c0 σ τ) {e' : Int} {j' c' : Nat} {f' : Nat → Nat → Int} {o g : Int} {K : List PF} (hm : ms B n (A 0) (A 6) F S τ.1 e' o j' c' f' g K) : tq B n A F S τ.1 e' j' c' f' := by
  obtain ⟨⟨h1, h2⟩, h3, ⟨h4, h5⟩, h6, h7, h8, h9, h10⟩ := h
  refine ⟨⟨hm.1.1, hm.2.1⟩, hm.2.2.1, hm.2.2.2.2.1, fun q hq => by rw [hf.2.1 _ (by omega) (by omega) (by omega)]; exact h6 q hq, hm.1.2.1, hm.1.2.2.1, h9, h10⟩
theorem M_expr (h : tq B n A F S σ.1 (-1) j c f) {j' c' : Nat} {f' : Nat → Nat → Int} (hg : ∀ g, GO B n (A 0) (A 6) F S c0 (-1, 0, j, c, f, g, [(0, 0, -1, -1, 0)]) (-1, 0, j', c', f', ((c' - 1 : Nat) : Int), [])) : ∃ τ, X iM_expression 0 [(2, 305), (9, 0)] [] σ = some ((0, ((c' - 1 : Nat) : Int)), τ) ∧ tq B n A F S τ.1 (-1) j' c' f' ∧ fq F c0 σ τ := by
  obtain ⟨τ1, g, a1, a2, a3⟩ := M_begin0 (c0 := c0) h
  obtain ⟨τ, b1, b2, b3⟩ := hg g τ1 a2
  obtain ⟨vw', b1⟩ := b1 (9, 0)
  have b2 : ms B n (A 0) (A 6) F S τ.1 (-1) 0 j' c' f' ((c' - 1 : Nat) : Int) [] := b2
  have e82 : ¬ 0 < τ.1 305 82 := by rw [b2.2.2.2.2.2.2.1]; decide
  exact ⟨τ, by rw [a1, b1, qM_expression_15, if_neg e82, b2.2.2.2.2.2.1], tq_fm h (fm_tr a3 b3) b2, fq_fm (fm_tr a3 b3)⟩
theorem M_exprBad (h : tq B n A F S σ.1 (-1) j c f) {k : Nat} (hg : ∀ g, BAD B n (A 0) (A 6) F S c0 (-1, 0, j, c, f, g, [(0, 0, -1, -1, 0)]) k) : ∃ v τ, X iM_expression 0 [(2, 305), (9, 0)] [] σ = some ((0, v), τ) ∧ tz B n F S τ.1 (t_s B n k : Int) ∧ fq F c0 σ τ := by
  obtain ⟨τ1, g, a1, a2, a3⟩ := M_begin0 (c0 := c0) h
  obtain ⟨τ, t, b1, b2, b3, b4⟩ := hg g τ1 a2
  obtain ⟨vw', b1⟩ := b1 (9, 0)
  have b2 : ms B n (A 0) (A 6) F S τ.1 t.1 t.2.1 t.2.2.1 t.2.2.2.1 t.2.2.2.2.1 t.2.2.2.2.2.1 t.2.2.2.2.2.2 := b2
  have hq := tq_fm h (fm_tr a3 b4) b2
  have hz := tq_tz hq (by rw [b3]; omega)
  rw [b3] at hz
  refine ⟨τ.1 305 83, τ, ?_, hz, fq_fm (fm_tr a3 b4)⟩
  rw [a1, b1, qM_expression_15]
  by_cases e82 : 0 < τ.1 305 82
  · rw [if_pos e82, if_neg (tz_ne hz)]
  · rw [if_neg e82]
end TQ

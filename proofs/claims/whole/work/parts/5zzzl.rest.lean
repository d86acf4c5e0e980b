/-! behind the head of a statement -/
section RST2
variable {B : Nat → Int} {n C : Nat} {A : Nat → Nat → Int} {F M S : Nat} {cs : Nat → Nat} {σ0 σ τ υ : xS} {e : Int} {j c c0 k q : Nat} {f : Nat → Nat → Int}
/-- whether "=" or "by" must come -/
noncomputable def midx (i : Nat) (σ : xS) : Option (xAV × xS) := if σ.1 344 i = 4 then ((X iM_word 0 [(2, 305), (1, 79), (8, 0)] [] σ).bind fun q1 => X iM_tells 436 [(2, 305), (0, (i : Int))] [] q1.2)
  else if σ.1 344 i < 4 then ((X iM_sign 0 [(2, 305), (0, 61)] [] σ).bind fun q2 => X iM_tells 462 [(2, 305), (0, (i : Int))] [] q2.2)
  else X iM_tells 462 [(2, 305), (0, (i : Int))] [] σ
theorem M_462z (h : tz B n F S σ.1 e) : ∃ τ, X iM_tells 462 [(2, 305), (0, (S : Int))] [] σ = some ((9, 0), τ) ∧ tz B n F S τ.1 e ∧ fq F c0 σ τ := by
  have hS := h.2.2.2
  refine ⟨_, ?_, tz_A h (q := 5) (by decide) S (σ.1 305 64), fq_A (q := 5) (by decide) hS.2.1 _⟩
  rw [qM_tells_462, if_neg (tz_ne h), if_pos (xin_of (by omega) (by omega)), if_neg (tz_ne h), qM_tells_512, Int.toNat_natCast]
/-- the ";" -/
theorem M_semi (h : tq B n A F S σ.1 (-1) j c f) : (t_c B n j = 59 → ∃ τ, ((X iM_sign 0 [(2, 305), (0, 59)] [] σ).bind fun q1 => X iM_tells 512 [(2, 305), (0, (S : Int))] [] q1.2) = some ((9, 0), τ) ∧ tq B n A F S τ.1 (-1) (j + 1) c f ∧ fq F c0 σ τ) ∧ (t_c B n j ≠ 59 → ∃ τ, ((X iM_sign 0 [(2, 305), (0, 59)] [] σ).bind fun q1 => X iM_tells 512 [(2, 305), (0, (S : Int))] [] q1.2) = some ((9, 0), τ) ∧ tz B n F S τ.1 (t_s B n j : Int) ∧ fq F c0 σ τ) := by
  obtain ⟨g1, g2⟩ := tq_sign (c0 := c0) h (w := 59) (by unfold sgn; omega)
  refine ⟨fun hw => ?_, fun hw => ?_⟩
  · obtain ⟨τ, k1, k2, k3⟩ := g1 hw
    exact ⟨τ, by rw [k1, Option.bind_some, qM_tells_512], k2, k3⟩
  · obtain ⟨τ, k1, k2, k3⟩ := g2 hw
    exact ⟨τ, by rw [k1, Option.bind_some, qM_tells_512], k2, k3⟩
/-- a statement's arrays with where its rows end, and its root -/
def ars (A : Nat → Nat → Int) (S : Nat) (hi : Int) (root : Option Int) : Nat → Nat → Int := fun r => if r = 5 then xup (A 5) S hi else if r = 3 then (match root with | none => A 3 | some v => xup (A 3) S v) else A r
theorem M_462n (h : tq B n A F S σ.1 (-1) j c f) (hk : ¬ A 0 S < 5) : (t_c B n j = 59 → ∃ τ, X iM_tells 462 [(2, 305), (0, (S : Int))] [] σ = some ((9, 0), τ) ∧ tq B n (ars A S c none) F S τ.1 (-1) (j + 1) c f ∧ fq F c0 σ τ) ∧ (t_c B n j ≠ 59 → ∃ τ, X iM_tells 462 [(2, 305), (0, (S : Int))] [] σ = some ((9, 0), τ) ∧ tz B n F S τ.1 (t_s B n j : Int) ∧ fq F c0 σ τ) := by
  have hS := h.2.2.2.2.2.2
  have e0 : σ.1 344 = A 0 := h.2.2.2.1 0 (by decide)
  have e64 := h.2.2.1.1
  have h5 : tq B n (ars A S c none) F S (xs σ 349 S (c : Int)).1 (-1) j c f := by
    have := tq_A h (q := 5) (by decide) S (c : Int)
    have ea : (fun r => if r = 5 then xup (A 5) S (c : Int) else A r) = ars A S c none := by
      funext r
      show _ = if r = 5 then xup (A 5) S (c : Int) else if r = 3 then A 3 else A r
      by_cases h3 : r = 3
      · rw [h3]; rfl
      · rw [if_neg h3]
    rw [ea] at this
    exact this
  obtain ⟨g1, g2⟩ := M_semi (c0 := c0) h5
  have ff : fq F c0 σ (xs σ 349 S (c : Int)) := fq_A (q := 5) (by decide) hS.1 _
  have ew : X iM_tells 462 [(2, 305), (0, (S : Int))] [] σ = (X iM_sign 0 [(2, 305), (0, 59)] [] (xs σ 349 S (c : Int))).bind fun q1 => X iM_tells 512 [(2, 305), (0, (S : Int))] [] q1.2 := by
    rw [qM_tells_462, if_pos (tq_0 h), if_pos (xin_of (by omega) (by omega)), Int.toNat_natCast, e0, if_neg hk, if_pos (xin_of (by omega) (by omega)), if_pos (tq_0 h), e64]
  refine ⟨fun hw => ?_, fun hw => ?_⟩
  · obtain ⟨τ, k1, k2, k3⟩ := g1 hw
    exact ⟨τ, by rw [ew, k1], k2, fq_tr ff k3⟩
  · obtain ⟨τ, k1, k2, k3⟩ := g2 hw
    exact ⟨τ, by rw [ew, k1], k2, fq_tr ff k3⟩
theorem M_462x (h : tq B n A F S σ.1 (-1) j c f) (hk : A 0 S < 5) {j' c' : Nat} {f' : Nat → Nat → Int} (hg : ∀ g, GO B n (A 0) (A 6) F S c0 (-1, 0, j, c, f, g, [(0, 0, -1, -1, 0)]) (-1, 0, j', c', f', ((c' - 1 : Nat) : Int), [])) : (t_c B n j' = 59 → ∃ τ, X iM_tells 462 [(2, 305), (0, (S : Int))] [] σ = some ((9, 0), τ) ∧ tq B n (ars A S c' (some ((c' - 1 : Nat) : Int))) F S τ.1 (-1) (j' + 1) c' f' ∧ fq F c0 σ τ) ∧ (t_c B n j' ≠ 59 → ∃ τ, X iM_tells 462 [(2, 305), (0, (S : Int))] [] σ = some ((9, 0), τ) ∧ tz B n F S τ.1 (t_s B n j' : Int) ∧ fq F c0 σ τ) := by
  have hS := h.2.2.2.2.2.2
  have e0 : σ.1 344 = A 0 := h.2.2.2.1 0 (by decide)
  obtain ⟨τ1, x1, x2, x3⟩ := M_expr h hg
  have e64 := x2.2.2.1.1
  have h5 : tq B n (ars A S c' (some ((c' - 1 : Nat) : Int))) F S (xs (xs τ1 347 S ((c' - 1 : Nat) : Int)) 349 S (c' : Int)).1 (-1) j' c' f' := by
    have := tq_A (tq_A x2 (q := 3) (by decide) S ((c' - 1 : Nat) : Int)) (q := 5) (by decide) S (c' : Int)
    exact this
  obtain ⟨g1, g2⟩ := M_semi (c0 := c0) h5
  have ff : fq F c0 σ (xs (xs τ1 347 S ((c' - 1 : Nat) : Int)) 349 S (c' : Int)) := fq_tr x3 (fq_tr (fq_A (q := 3) (by decide) hS.1 _) (fq_A (q := 5) (by decide) hS.1 _))
  have ew : X iM_tells 462 [(2, 305), (0, (S : Int))] [] σ = (X iM_sign 0 [(2, 305), (0, 59)] [] (xs (xs τ1 347 S ((c' - 1 : Nat) : Int)) 349 S (c' : Int))).bind fun q1 => X iM_tells 512 [(2, 305), (0, (S : Int))] [] q1.2 := by
    rw [qM_tells_462, if_pos (tq_0 h), if_pos (xin_of (by omega) (by omega)), Int.toNat_natCast, e0, if_pos hk, x1, Option.bind_some, qM_tells_488, if_pos (xin_of (by omega) (by omega)), if_pos (xin_of (by omega) (by omega)), if_pos (tq_0 x2), Int.toNat_natCast, e64]
  refine ⟨fun hw => ?_, fun hw => ?_⟩
  · obtain ⟨τ, k1, k2, k3⟩ := g1 hw
    exact ⟨τ, by rw [ew, k1], k2, fq_tr ff k3⟩
  · obtain ⟨τ, k1, k2, k3⟩ := g2 hw
    exact ⟨τ, by rw [ew, k1], k2, fq_tr ff k3⟩
theorem M_462b (h : tq B n A F S σ.1 (-1) j c f) (hk : A 0 S < 5) {w : Nat} (hg : ∀ g, BAD B n (A 0) (A 6) F S c0 (-1, 0, j, c, f, g, [(0, 0, -1, -1, 0)]) w) : ∃ τ, X iM_tells 462 [(2, 305), (0, (S : Int))] [] σ = some ((9, 0), τ) ∧ tz B n F S τ.1 (t_s B n w : Int) ∧ fq F c0 σ τ := by
  have hS := h.2.2.2.2.2.2
  have e0 : σ.1 344 = A 0 := h.2.2.2.1 0 (by decide)
  obtain ⟨v, τ1, x1, x2, x3⟩ := M_exprBad h hg
  have h5 := tz_A (tz_A x2 (q := 3) (by decide) S v) (q := 5) (by decide) S (τ1.1 305 64)
  refine ⟨_, ?_, h5, fq_tr x3 (fq_tr (fq_A (q := 3) (by decide) hS.1 _) (fq_A (q := 5) (by decide) hS.1 _))⟩
  rw [qM_tells_462, if_pos (tq_0 h), if_pos (xin_of (by omega) (by omega)), Int.toNat_natCast, e0, if_pos hk, x1, Option.bind_some, qM_tells_488, if_pos (xin_of (by omega) (by omega)), if_pos (xin_of (by omega) (by omega)), if_neg (tz_ne x2), qM_tells_512, Int.toNat_natCast]
end RST2

/-! loads: the reference's -/
section LOADM
variable {σ : xS}
/-- the sorts' pieces at hand -/
def ld_g (m : Nat → Nat → Int) (s : Nat) : Nat := (m 306 s).toNat
def ld_H (N : Nat) (hs : Nat → Nat) (τ : xS) : Prop := ∀ s : Nat, s < N → τ.1 340 s = (hs s : Int) ∧ hs s ≤ 150
theorem xmul_id {c g : Nat} (hc : c ≤ 200) (hg : g ≤ 60) : xw ((c : Int) * g) = ((c * g : Nat) : Int) := by
  have h : c * g ≤ 200 * 60 := Nat.mul_le_mul hc hg
  rw [← Int.natCast_mul, xw_id (by omega) (by omega)]
theorem M_sums_61 (hP : pJ σ.1) {hs : Nat → Nat} {b high s t : Nat} {f : Nat → Nat} (hh : high ≤ 9000) (ht : t ≤ high) (hss : s < 6) (hsn : (s : Int) < σ.1 305 6) (vb : Int) : ∀ (u c : Nat) (τ : xS), c + u = hs s + 1 → ag σ τ → ld_H (σ.1 305 6).toNat hs τ → (∀ x, x ≤ high → τ.1 338 x = sa (f x)) →
    ∃ w5 w6, X iM_sums 61 [(2, 305), (0, vb), (0, (high : Int)), (0, (s : Int)), (0, (t : Int)), (0, sa (ws f (ld_g σ.1 s) t c)), (0, (c : Int))] [] τ = X iM_sums 49 [(2, 305), (0, vb), (0, (high : Int)), (0, (s : Int)), (0, ((t + 1 : Nat) : Int)), (0, w5), (0, w6)] [] (xs τ 339 t (sa (ws f (ld_g σ.1 s) t (hs s + 1)))) := by
  intro u
  have hgr := (hP.1.2.2 s (by omega)).1
  have hg : σ.1 306 s = ((ld_g σ.1 s : Nat) : Int) := by unfold ld_g; omega
  have hg60 : ld_g σ.1 s ≤ 60 := by unfold ld_g; omega
  have hx6 : xin (s : Int) 6 := ⟨by omega, by omega⟩
  have hx9 : xin (t : Int) 9001 := ⟨by omega, by omega⟩
  induction u with
  | zero =>
    intro c τ hc hτ hH hf
    have h340 := hH s (by omega)
    rw [qM_sums_61, if_pos hx6, Int.toNat_natCast, h340.1, if_pos (by omega), if_pos hx9, Int.toNat_natCast, xw_s (by omega), show c = hs s + 1 by omega]
    exact ⟨_, _, rfl⟩
  | succ u ih =>
    intro c τ hc hτ hH hf
    have h340 := hH s (by omega)
    have e306 : τ.1 306 = σ.1 306 := hτ.at fun _ => rfl
    rw [qM_sums_61, if_pos hx6, if_pos hx6, if_pos hx6, Int.toNat_natCast, h340.1, if_neg (by omega), e306, hg, xmul_id (by omega) hg60]
    by_cases hq : t < c * ld_g σ.1 s
    · rw [if_pos (by omega), if_pos hx9, Int.toNat_natCast, xw_s (by omega)]
      have e : hs s + 1 = c + (u + 1) := by omega
      rw [e, ws_end hq]
      exact ⟨_, _, rfl⟩
    · have hd : t - c * ld_g σ.1 s ≤ high := by omega
      have e1 : xw ((t : Int) - ((c * ld_g σ.1 s : Nat) : Int)) = ((t - c * ld_g σ.1 s : Nat) : Int) := by rw [xw_id (by omega) (by omega)]; omega
      rw [if_neg (by omega), e1, if_pos (xin_of (by omega) (by omega)), Int.toNat_natCast, hf _ hd]
      clear e1
      have s1 := sa_le (ws f (ld_g σ.1 s) t c)
      have s2 := sa_le (f (t - c * ld_g σ.1 s))
      rw [xw_id (x := sa (ws f (ld_g σ.1 s) t c) + sa (f (t - c * ld_g σ.1 s))) (by omega) (by omega), M_min]
      simp only [Option.bind_some]
      rw [qM_sums_112, sa_add, xw_s (by omega)]
      have e2 : ws f (ld_g σ.1 s) t c + f (t - c * ld_g σ.1 s) = ws f (ld_g σ.1 s) t (c + 1) := by
        show _ = ws f (ld_g σ.1 s) t c + if c * ld_g σ.1 s ≤ t then f (t - c * ld_g σ.1 s) else 0
        rw [if_pos (by omega)]
      rw [e2]
      exact ih (c + 1) τ (by omega) hτ hH hf
theorem M_sums_49 (hP : pJ σ.1) {hs : Nat → Nat} {high s : Nat} {f : Nat → Nat} (hh : high ≤ 9000) (hss : s < 6) (hsn : (s : Int) < σ.1 305 6) (vb : Int) : ∀ (u t : Nat) (w5 w6 : xAV) (τ : xS), t + u = high + 1 → ag σ τ → ld_H (σ.1 305 6).toNat hs τ → (∀ x, x ≤ high → τ.1 338 x = sa (f x)) → (∀ x, x < t → τ.1 339 x = sa (ws f (ld_g σ.1 s) x (hs s + 1))) →
    ∃ w5' w6' τ', X iM_sums 49 [(2, 305), (0, vb), (0, (high : Int)), (0, (s : Int)), (0, (t : Int)), w5, w6] [] τ = X iM_sums 138 [(2, 305), (0, vb), (0, (high : Int)), (0, (s : Int)), (0, 0), w5', w6'] [] τ' ∧ ag σ τ' ∧ ld_H (σ.1 305 6).toNat hs τ' ∧ (∀ x, x ≤ high → τ'.1 338 x = sa (f x)) ∧ ∀ x, x ≤ high → τ'.1 339 x = sa (ws f (ld_g σ.1 s) x (hs s + 1)) := by
  intro u
  induction u with
  | zero =>
    intro t w5 w6 τ ht hτ hH hf h9
    rw [qM_sums_49, if_pos (by omega)]
    exact ⟨_, _, τ, rfl, hτ, hH, hf, fun x hx => h9 x (by omega)⟩
  | succ u ih =>
    intro t w5 w6 τ ht hτ hH hf h9
    rw [qM_sums_49, if_neg (by omega)]
    obtain ⟨a, b, q⟩ := M_sums_61 hP (hs := hs) (b := 0) (f := f) hh (show t ≤ high by omega) hss hsn vb (hs s + 1) 0 τ (by omega) hτ hH hf
    have q : X iM_sums 61 [(2, 305), (0, vb), (0, (high : Int)), (0, (s : Int)), (0, (t : Int)), (0, 0), (0, 0)] [] τ = X iM_sums 49 [(2, 305), (0, vb), (0, (high : Int)), (0, (s : Int)), (0, ((t + 1 : Nat) : Int)), (0, a), (0, b)] [] (xs τ 339 t (sa (ws f (ld_g σ.1 s) t (hs s + 1)))) := q
    rw [q]
    refine ih (t + 1) _ _ _ (by omega) (ag_tr hτ (ag_sS rfl)) (fun y hy => ?_) (fun x hx => ?_) (fun x hx => ?_)
    · rw [xs_ne (by decide)]; exact hH y hy
    · rw [xs_ne (by decide)]; exact hf x hx
    · rw [xs_at, xup_at]
      by_cases e : x = t
      · rw [if_pos e, e]
      · rw [if_neg e]
        exact h9 x (by omega)
theorem M_sums_138 {hs : Nat → Nat} {high s : Nat} {F : Nat → Int} (hh : high ≤ 9000) (hss : s < 6) (vb : Int) (w5 w6 : xAV) : ∀ (u t : Nat) (τ : xS), t + u = high + 1 → ag σ τ → ld_H (σ.1 305 6).toNat hs τ → (∀ x, x ≤ high → τ.1 339 x = F x) → (∀ x, x < t → τ.1 338 x = F x) →
    ∃ w4 τ', X iM_sums 138 [(2, 305), (0, vb), (0, (high : Int)), (0, (s : Int)), (0, (t : Int)), w5, w6] [] τ = X iM_sums 30 [(2, 305), (0, vb), (0, (high : Int)), (0, ((s + 1 : Nat) : Int)), w4, w5, w6] [] τ' ∧ ag σ τ' ∧ ld_H (σ.1 305 6).toNat hs τ' ∧ ∀ x, x ≤ high → τ'.1 338 x = F x := by
  intro u
  induction u with
  | zero =>
    intro t τ ht hτ hH h9 h8
    rw [qM_sums_138, if_pos (by omega), xw_s (by omega)]
    exact ⟨_, τ, rfl, hτ, hH, fun x hx => h8 x (by omega)⟩
  | succ u ih =>
    intro t τ ht hτ hH h9 h8
    have hx9 : xin (t : Int) 9001 := ⟨by omega, by omega⟩
    rw [qM_sums_138, if_neg (by omega), if_pos hx9, if_pos hx9, xw_s (by omega), Int.toNat_natCast]
    refine ih (t + 1) _ (by omega) (ag_tr hτ (ag_sS rfl)) (fun y hy => ?_) (fun x hx => ?_) (fun x hx => ?_)
    · rw [xs_ne (by decide)]; exact hH y hy
    · rw [xs_ne (by decide)]; exact h9 x hx
    · rw [xs_at, xup_at]
      by_cases e : x = t
      · rw [if_pos e, e]
        exact h9 t (by omega)
      · rw [if_neg e]
        exact h8 x (by omega)
theorem M_sums_30 (hP : pJ σ.1) {hs : Nat → Nat} {high : Nat} (hh : high ≤ 9000) (vb : Int) : ∀ (u s : Nat) (w4 w5 w6 : xAV) (τ : xS), s + u = (σ.1 305 6).toNat → ag σ τ → ld_H (σ.1 305 6).toNat hs τ → (∀ x, x ≤ high → τ.1 338 x = sa (wy (ld_g σ.1) hs vb s x)) →
    ∃ τ', X iM_sums 30 [(2, 305), (0, vb), (0, (high : Int)), (0, (s : Int)), w4, w5, w6] [] τ = some ((9, 0), τ') ∧ ag σ τ' ∧ ld_H (σ.1 305 6).toNat hs τ' ∧ ∀ x, x ≤ high → τ'.1 338 x = sa (wy (ld_g σ.1) hs vb (σ.1 305 6).toNat x) := by
  intro u
  have h6 := hP.1.2.1
  induction u with
  | zero =>
    intro s w4 w5 w6 τ ht hτ hH hf
    rw [qM_sums_30, if_neg (by rw [hτ.sl (a := 305) (k := 6) rfl]; omega)]
    refine ⟨τ, rfl, hτ, hH, ?_⟩
    rw [← show s = (σ.1 305 6).toNat by omega]
    exact hf
  | succ u ih =>
    intro s w4 w5 w6 τ ht hτ hH hf
    rw [qM_sums_30, if_pos (by rw [hτ.sl (a := 305) (k := 6) rfl]; omega), xw_s (by omega)]
    by_cases e : (s : Int) = vb
    · rw [if_pos e]
      refine ih (s + 1) _ _ _ τ (by omega) hτ hH fun x hx => ?_
      rw [show wy (ld_g σ.1) hs vb (s + 1) x = wy (ld_g σ.1) hs vb s x from if_pos e]
      exact hf x hx
    · rw [if_neg e]
      obtain ⟨a1, a2, τ1, q1, q2, q3, q4, q5⟩ := M_sums_49 hP (s := s) hh (by omega) (by omega) vb (high + 1) 0 w5 w6 τ (by omega) hτ hH hf (fun x hx => absurd hx (Nat.not_lt_zero x))
      have q1 : X iM_sums 49 [(2, 305), (0, vb), (0, (high : Int)), (0, (s : Int)), (0, 0), w5, w6] [] τ = X iM_sums 138 [(2, 305), (0, vb), (0, (high : Int)), (0, (s : Int)), (0, 0), a1, a2] [] τ1 := q1
      obtain ⟨a3, τ2, p1, p2, p3, p4⟩ := M_sums_138 (s := s) hh (by omega) vb a1 a2 (high + 1) 0 τ1 (by omega) q2 q3 q5 (fun x hx => absurd hx (Nat.not_lt_zero x))
      have p1 : X iM_sums 138 [(2, 305), (0, vb), (0, (high : Int)), (0, (s : Int)), (0, 0), a1, a2] [] τ1 = X iM_sums 30 [(2, 305), (0, vb), (0, (high : Int)), (0, ((s + 1 : Nat) : Int)), a3, a1, a2] [] τ2 := p1
      rw [q1, p1]
      refine ih (s + 1) _ _ _ τ2 (by omega) p2 p3 fun x hx => ?_
      rw [show wy (ld_g σ.1) hs vb (s + 1) x = ws (wy (ld_g σ.1) hs vb s) (ld_g σ.1 s) x (hs s + 1) from if_neg e]
      exact p4 x hx
theorem M_sums_2 {hs : Nat → Nat} {high : Nat} (hh : high ≤ 9000) (vb : Int) (w4 w5 w6 : xAV) (G : Nat → Nat) : ∀ (u t : Nat) (τ : xS), t + u = high + 1 → ag σ τ → ld_H (σ.1 305 6).toNat hs τ → (∀ x, x < t → τ.1 338 x = sa (wy G hs vb 0 x)) →
    ∃ τ', X iM_sums 2 [(2, 305), (0, vb), (0, (high : Int)), (0, (t : Int)), w4, w5, w6] [] τ = X iM_sums 30 [(2, 305), (0, vb), (0, (high : Int)), (0, 0), w4, w5, w6] [] τ' ∧ ag σ τ' ∧ ld_H (σ.1 305 6).toNat hs τ' ∧ ∀ x, x ≤ high → τ'.1 338 x = sa (wy G hs vb 0 x) := by
  intro u
  induction u with
  | zero =>
    intro t τ ht hτ hH h8
    rw [qM_sums_2, if_pos (by omega)]
    exact ⟨τ, rfl, hτ, hH, fun x hx => h8 x (by omega)⟩
  | succ u ih =>
    intro t τ ht hτ hH h8
    have hx9 : xin (t : Int) 9001 := ⟨by omega, by omega⟩
    rw [qM_sums_2, if_neg (by omega), if_pos hx9, if_pos hx9, xw_s (by omega), Int.toNat_natCast]
    have key : ∀ v, v = sa (wy G hs vb 0 t) → ∃ τ', X iM_sums 2 [(2, 305), (0, vb), (0, (high : Int)), (0, ((t + 1 : Nat) : Int)), w4, w5, w6] [] (xs τ 338 t v) = X iM_sums 30 [(2, 305), (0, vb), (0, (high : Int)), (0, 0), w4, w5, w6] [] τ' ∧ ag σ τ' ∧ ld_H (σ.1 305 6).toNat hs τ' ∧ ∀ x, x ≤ high → τ'.1 338 x = sa (wy G hs vb 0 x) := by
      intro v hv
      refine ih (t + 1) _ (by omega) (ag_tr hτ (ag_sS rfl)) (fun y hy => ?_) (fun x hx => ?_)
      · rw [xs_ne (by decide)]; exact hH y hy
      · rw [xs_at, xup_at]
        by_cases e : x = t
        · rw [if_pos e, e]
          exact hv
        · rw [if_neg e]
          exact h8 x (by omega)
    by_cases e : (t : Int) = 0
    · rw [if_pos e]
      have e' : t = 0 := by omega
      refine key 1 ?_
      subst e'
      rfl
    · rw [if_neg e]
      refine key 0 ?_
      rw [show wy G hs vb 0 t = 0 from if_neg (by omega)]
      rfl
theorem M_sums (hP : pJ σ.1) {hs : Nat → Nat} {high : Nat} (hh : high ≤ 9000) (vb : Int) {τ : xS} (hτ : ag σ τ) (hH : ld_H (σ.1 305 6).toNat hs τ) :
    ∃ τ', X iM_sums 0 [(2, 305), (0, vb), (0, (high : Int)), (9, 0), (9, 0), (9, 0), (9, 0)] [] τ = some ((9, 0), τ') ∧ ag σ τ' ∧ ld_H (σ.1 305 6).toNat hs τ' ∧ ∀ x, x ≤ high → τ'.1 338 x = sa (wy (ld_g σ.1) hs vb (σ.1 305 6).toNat x) := by
  obtain ⟨τ1, q1, q2, q3, q4⟩ := M_sums_2 (σ := σ) hh vb (9, 0) (9, 0) (9, 0) (ld_g σ.1) (high + 1) 0 τ (by omega) hτ hH (fun x hx => absurd hx (Nat.not_lt_zero x))
  have q1 : X iM_sums 2 [(2, 305), (0, vb), (0, (high : Int)), (0, 0), (9, 0), (9, 0), (9, 0)] [] τ = X iM_sums 30 [(2, 305), (0, vb), (0, (high : Int)), (0, 0), (9, 0), (9, 0), (9, 0)] [] τ1 := q1
  obtain ⟨τ2, p1, p2, p3, p4⟩ := M_sums_30 hP hh vb (σ.1 305 6).toNat 0 (9, 0) (9, 0) (9, 0) τ1 (by omega) q2 q3 q4
  rw [qM_sums_0, q1]
  exact ⟨τ2, p1, p2, p3, p4⟩
/-- whether a weight between is reached -/
def ld_R (f : Nat → Nat) (lo hi : Int) : Prop := ∃ x : Nat, lo ≤ (x : Int) ∧ (x : Int) ≤ hi ∧ 0 < f x
theorem M_isReached_6 {f : Nat → Nat} {high : Nat} (hh : high ≤ 9000) {lo hi : Int} (hhi : hi ≤ high) (w1 : xAV) {τ : xS} (hf : ∀ x, x ≤ high → τ.1 338 x = sa (f x)) : ∀ (u x : Nat), (x : Int) + u = (if hi < x then (x : Int) else hi + 1) → lo ≤ x → (∀ y : Nat, lo ≤ y → y < x → f y = 0) →
    (ld_R f lo hi ∧ X iM_isReached 6 [(2, 305), w1, (0, hi), (0, (x : Int))] [] τ = some ((0, 1), τ)) ∨ (¬ ld_R f lo hi ∧ X iM_isReached 6 [(2, 305), w1, (0, hi), (0, (x : Int))] [] τ = some ((0, 0), τ)) := by
  intro u
  induction u with
  | zero =>
    intro x hx hlo hz
    have h1 : hi < x := by
      by_cases h : hi < x
      · exact h
      · rw [if_neg h] at hx; omega
    refine Or.inr ⟨fun ⟨y, y1, y2, y3⟩ => ?_, ?_⟩
    · have := hz y y1 (by omega)
      omega
    · rw [qM_isReached_6, if_pos h1]
  | succ u ih =>
    intro x hx hlo hz
    have h1 : ¬ hi < x := by
      intro h
      rw [if_pos h] at hx; omega
    rw [if_neg h1] at hx
    have hx9 : xin (x : Int) 9001 := ⟨by omega, by omega⟩
    rw [qM_isReached_6, if_neg h1, if_pos hx9, Int.toNat_natCast, hf x (by omega), xw_s (by omega)]
    by_cases h2 : 0 < f x
    · rw [if_pos (sa_pos.mpr h2)]
      exact Or.inl ⟨⟨x, hlo, by omega, h2⟩, rfl⟩
    · rw [if_neg fun q => h2 (sa_pos.mp q)]
      refine ih (x + 1) ?_ (by omega) fun y y1 y2 => ?_
      · by_cases h3 : hi < ((x + 1 : Nat) : Int)
        · rw [if_pos h3]; omega
        · rw [if_neg h3]; omega
      · by_cases e : y = x
        · rw [e]; omega
        · exact hz y y1 (by omega)
theorem M_isReached {f : Nat → Nat} {high : Nat} (hh : high ≤ 9000) {lo hi : Int} (hhi : hi ≤ high) (h0 : -100000 ≤ hi) {τ : xS} (hf : ∀ x, x ≤ high → τ.1 338 x = sa (f x)) (hlo : lo ≤ 100000) :
    (ld_R f lo hi ∧ X iM_isReached 0 [(2, 305), (0, lo), (0, hi), (9, 0)] [] τ = some ((0, 1), τ)) ∨ (¬ ld_R f lo hi ∧ X iM_isReached 0 [(2, 305), (0, lo), (0, hi), (9, 0)] [] τ = some ((0, 0), τ)) := by
  have q : X iM_isReached 0 [(2, 305), (0, lo), (0, hi), (9, 0)] [] τ = X iM_isReached 6 [(2, 305), (0, lo), (0, hi), (0, ((lo.toNat : Nat) : Int))] [] τ := by
    rw [qM_isReached_0, M_max]
    simp only [Option.bind_some]
    rw [qM_isReached_5]
    have : (if lo < 0 then (0 : Int) else lo) = ((lo.toNat : Nat) : Int) := by
      by_cases h : lo < 0
      · rw [if_pos h]; omega
      · rw [if_neg h]; omega
    rw [this]
  rw [q]
  refine M_isReached_6 hh hhi (0, lo) hf ((if hi < (lo.toNat : Int) then (lo.toNat : Int) else hi + 1) - lo.toNat).toNat lo.toNat ?_ (by omega) (fun y y1 y2 => by omega)
  by_cases h : hi < (lo.toNat : Int)
  · rw [if_pos h]; omega
  · rw [if_neg h]; omega
end LOADM

/-! loads: the class's -/
theorem ws_mono {f : Nat → Nat} {g t n : Nat} : ∀ {k : Nat}, ws f g t n ≤ ws f g t (n + k)
  | 0 => Nat.le_refl _
  | k + 1 => Nat.le_trans (ws_mono (k := k)) (Nat.le_add_right _ _)
theorem ws_le {f : Nat → Nat} {g t n m : Nat} (h : n ≤ m) : ws f g t n ≤ ws f g t m := by
  obtain ⟨k, rfl⟩ : ∃ k, m = n + k := ⟨m - n, by omega⟩
  exact ws_mono
theorem tw_pos {f : Nat → Nat} {a : Nat} : ∀ {n : Nat}, 0 < tw f a n ↔ ∃ x, a ≤ x ∧ x < a + n ∧ 0 < f x
  | 0 => ⟨fun h => absurd h (Nat.lt_irrefl 0), fun ⟨x, h1, h2, _⟩ => absurd h1 (by omega)⟩
  | n + 1 => by
    show 0 < tw f a n + f (a + n) ↔ _
    constructor
    · intro h
      by_cases h1 : 0 < tw f a n
      · obtain ⟨x, x1, x2, x3⟩ := tw_pos.mp h1
        exact ⟨x, x1, by omega, x3⟩
      · exact ⟨a + n, by omega, by omega, by omega⟩
    · rintro ⟨x, x1, x2, x3⟩
      by_cases e : x = a + n
      · subst e; omega
      · have := (tw_pos (f := f) (a := a) (n := n)).mpr ⟨x, x1, by omega, x3⟩
        omega
theorem tw_cg0 {f : Nat → Nat} {a n : Nat} : ∀ {k : Nat}, (∀ x, a + n ≤ x → x < a + (n + k) → f x = 0) → tw f a (n + k) = tw f a n
  | 0, _ => rfl
  | k + 1, h => by
    show tw f a (n + k) + f (a + (n + k)) = tw f a n
    rw [tw_cg0 (k := k) fun x h1 h2 => h x h1 (by omega), h (a + (n + k)) (by omega) (by omega)]
    rfl
section LOADC
variable {σ : xS}
def ld_P (N : Nat) (hs : Nat → Nat) (τ : xS) : Prop := ∀ s : Nat, s < N → τ.1 207 s = (hs s : Int) ∧ hs s ≤ 150
theorem S_addPieces_28 (hP : pJ σ.1) {hs : Nat → Nat} {s t : Nat} {f : Nat → Nat} (ht : t ≤ 9000) (hss : s < 6) (hsn : (s : Int) < σ.1 305 6) (hb : ws f (ld_g σ.1 s) t (hs s + 1) < 2147483648) : ∀ (u c : Nat) (τ : xS), c + u = hs s + 1 → ag σ τ → ld_P (σ.1 305 6).toNat hs τ → (∀ x, x ≤ t → τ.1 208 x = (f x : Int)) →
    ∃ w4 w5, X iSorts_addPieces 28 [(2, 201), (0, (s : Int)), (0, ((ld_g σ.1 s : Nat) : Int)), (0, (t : Int)), (0, ((ws f (ld_g σ.1 s) t c : Nat) : Int)), (0, (c : Int))] [] τ = X iSorts_addPieces 12 [(2, 201), (0, (s : Int)), (0, ((ld_g σ.1 s : Nat) : Int)), (0, (t : Int) - 1), w4, w5] [] (xs τ 208 t ((ws f (ld_g σ.1 s) t (hs s + 1) : Nat) : Int)) := by
  intro u
  have hgr := (hP.1.2.2 s (by omega)).1
  have hg60 : ld_g σ.1 s ≤ 60 := by unfold ld_g; omega
  have hx6 : xin (s : Int) 6 := ⟨by omega, by omega⟩
  have hx9 : xin (t : Int) 9001 := ⟨by omega, by omega⟩
  have wm : xw ((t : Int) + (-1)) = (t : Int) - 1 := xw_id (by omega) (by omega)
  induction u with
  | zero =>
    intro c τ hc hτ hH hf
    have h207 := hH s (by omega)
    rw [qSorts_addPieces_28, if_pos hx6, Int.toNat_natCast, h207.1, if_pos (by clear wm; omega), if_pos hx9, Int.toNat_natCast, wm, show c = hs s + 1 by clear wm; omega]
    exact ⟨_, _, rfl⟩
  | succ u ih =>
    intro c τ hc hτ hH hf
    have h207 := hH s (by omega)
    rw [qSorts_addPieces_28, if_pos hx6, Int.toNat_natCast, h207.1, if_neg (by clear wm; omega), xmul_id (by clear wm; omega) hg60]
    by_cases hq : t < c * ld_g σ.1 s
    · rw [if_pos (by clear wm; omega), if_pos hx9, Int.toNat_natCast, wm]
      have e : hs s + 1 = c + (u + 1) := by clear wm; omega
      rw [e, ws_end hq]
      exact ⟨_, _, rfl⟩
    · have hd : t - c * ld_g σ.1 s ≤ t := Nat.sub_le _ _
      have e1 : xw ((t : Int) - ((c * ld_g σ.1 s : Nat) : Int)) = ((t - c * ld_g σ.1 s : Nat) : Int) := by clear wm; rw [xw_id (by omega) (by omega)]; omega
      rw [if_neg (by clear wm e1; omega), e1, if_pos (by clear wm e1; exact xin_of (by omega) (by omega)), Int.toNat_natCast, hf _ hd, xw_s (by clear wm e1; omega)]
      clear e1
      have e2 : ws f (ld_g σ.1 s) t c + f (t - c * ld_g σ.1 s) = ws f (ld_g σ.1 s) t (c + 1) := by
        show _ = ws f (ld_g σ.1 s) t c + if c * ld_g σ.1 s ≤ t then f (t - c * ld_g σ.1 s) else 0
        rw [if_pos (by clear wm; omega)]
      have h3 := ws_le (f := f) (g := ld_g σ.1 s) (t := t) (show c + 1 ≤ hs s + 1 by clear wm; omega)
      rw [← Int.natCast_add, e2, xw_id (by clear wm; omega) (by clear wm; omega)]
      exact ih (c + 1) τ (by clear wm; omega) hτ hH hf
theorem S_addPieces_12 (hP : pJ σ.1) {hs : Nat → Nat} {s Hn : Nat} {f : Nat → Nat} (hn : Hn ≤ 9000) (hss : s < 6) (hsn : (s : Int) < σ.1 305 6) (hb : ∀ t, t ≤ Hn → ws f (ld_g σ.1 s) t (hs s + 1) < 2147483648) : ∀ (u : Nat) (w : Int) (w4 w5 : xAV) (τ : xS), w = (u : Int) - 1 → u ≤ Hn + 1 → ag σ τ → ld_P (σ.1 305 6).toNat hs τ → τ.1 201 8 = (Hn : Int) → (∀ x, x < u → τ.1 208 x = (f x : Int)) → (∀ x, u ≤ x → x ≤ Hn → τ.1 208 x = ((ws f (ld_g σ.1 s) x (hs s + 1) : Nat) : Int)) →
    ∃ τ', X iSorts_addPieces 12 [(2, 201), (0, (s : Int)), (0, ((ld_g σ.1 s : Nat) : Int)), (0, w), w4, w5] [] τ = some ((9, 0), τ') ∧ ag σ τ' ∧ ld_P (σ.1 305 6).toNat hs τ' ∧ τ'.1 201 8 = (Hn : Int) ∧ ∀ x, x ≤ Hn → τ'.1 208 x = ((ws f (ld_g σ.1 s) x (hs s + 1) : Nat) : Int) := by
  intro u
  have hgr := (hP.1.2.2 s (by omega)).1
  have hg1 : 1 ≤ ld_g σ.1 s := by unfold ld_g; omega
  have hsm : ∀ x, x < ld_g σ.1 s → ws f (ld_g σ.1 s) x (hs s + 1) = f x := fun x hx => by
    rw [Nat.add_comm, ws_end (by omega)]
    show 0 + (if 0 * ld_g σ.1 s ≤ x then f (x - 0 * ld_g σ.1 s) else 0) = f x
    rw [Nat.zero_mul, if_pos (Nat.zero_le _), Nat.zero_add]
    rfl
  induction u with
  | zero =>
    intro w w4 w5 τ hw hu hτ hH h8 h1 h2
    rw [qSorts_addPieces_12, if_pos (by omega)]
    exact ⟨τ, rfl, hτ, hH, h8, fun x hx => h2 x (Nat.zero_le _) hx⟩
  | succ u ih =>
    intro w w4 w5 τ hw hu hτ hH h8 h1 h2
    have ew : w = (u : Int) := by omega
    subst ew
    by_cases hc : u < ld_g σ.1 s
    · rw [qSorts_addPieces_12, if_pos (by omega)]
      refine ⟨τ, rfl, hτ, hH, h8, fun x hx => ?_⟩
      by_cases e : x < u + 1
      · rw [h1 x e, hsm x (by omega)]
      · exact h2 x (by omega) hx
    · have hx9 : xin (u : Int) 9001 := ⟨by omega, by omega⟩
      rw [qSorts_addPieces_12, if_neg (by omega), if_pos hx9, Int.toNat_natCast, h1 u (by omega)]
      have e1 : ws f (ld_g σ.1 s) u 1 = f u := by
        show 0 + (if 0 * ld_g σ.1 s ≤ u then f (u - 0 * ld_g σ.1 s) else 0) = f u
        rw [Nat.zero_mul, if_pos (Nat.zero_le _), Nat.zero_add]
        rfl
      obtain ⟨a, b, q⟩ := S_addPieces_28 hP (hs := hs) (f := f) (t := u) (by omega) hss hsn (hb u (by omega)) (hs s) 1 τ (by omega) hτ hH (fun x hx => h1 x (by omega))
      rw [e1] at q
      have q : X iSorts_addPieces 28 [(2, 201), (0, (s : Int)), (0, ((ld_g σ.1 s : Nat) : Int)), (0, (u : Int)), (0, ((f u : Nat) : Int)), (0, 1)] [] τ = X iSorts_addPieces 12 [(2, 201), (0, (s : Int)), (0, ((ld_g σ.1 s : Nat) : Int)), (0, (u : Int) - 1), a, b] [] (xs τ 208 u ((ws f (ld_g σ.1 s) u (hs s + 1) : Nat) : Int)) := q
      rw [q]
      refine ih _ a b _ rfl (by omega) (ag_tr hτ (ag_sS rfl)) (fun y hy => ?_) ?_ (fun x hx => ?_) (fun x hx1 hx2 => ?_)
      · rw [xs_ne (by decide)]; exact hH y hy
      · rw [xs_ne (by decide)]; exact h8
      · rw [xs_at, xup_ne (by omega)]
        exact h1 x (by omega)
      · rw [xs_at, xup_at]
        by_cases e : x = u
        · rw [if_pos e, e]
        · rw [if_neg e]
          exact h2 x (by omega) hx2
theorem S_spread_63 {hs : Nat → Nat} {high s Hv Hn : Nat} {f : Nat → Nat} (hn : Hn ≤ 9000) (vb : Int) (w4 : xAV) : ∀ (u v : Nat) (τ : xS), v + u = Hn + 1 → Hv < v → ag σ τ → ld_P (σ.1 305 6).toNat hs τ → τ.1 201 8 = (Hn : Int) → (∀ x, x ≤ Hv → τ.1 208 x = (f x : Int)) → (∀ x, Hv < x → x < v → τ.1 208 x = 0) →
    ∃ w5 τ', X iSorts_spread 63 [(2, 201), (0, (high : Int)), (0, vb), (0, (s : Int)), w4, (0, (v : Int))] [] τ = ((X iSorts_addPieces 0 [(2, 201), (0, (s : Int)), (9, 0), (9, 0), (9, 0), (9, 0)] [] τ').bind fun q1 => X iSorts_spread 91 [(2, 201), (0, (high : Int)), (0, vb), (0, (s : Int)), w4, w5] [] q1.2) ∧ ag σ τ' ∧ ld_P (σ.1 305 6).toNat hs τ' ∧ τ'.1 201 8 = (Hn : Int) ∧ (∀ x, x ≤ Hv → τ'.1 208 x = (f x : Int)) ∧ ∀ x, Hv < x → x ≤ Hn → τ'.1 208 x = 0 := by
  intro u
  induction u with
  | zero =>
    intro v τ hv hv2 hτ hH h8 h1 h2
    rw [qSorts_spread_63, if_pos (by rw [h8]; omega)]
    exact ⟨_, τ, rfl, hτ, hH, h8, h1, fun x x1 x2 => h2 x x1 (by omega)⟩
  | succ u ih =>
    intro v τ hv hv2 hτ hH h8 h1 h2
    have hx9 : xin (v : Int) 9001 := ⟨by omega, by omega⟩
    rw [qSorts_spread_63, if_neg (by rw [h8]; omega), if_pos hx9, Int.toNat_natCast, xw_s (by omega)]
    refine ih (v + 1) _ (by omega) (by omega) (ag_tr hτ (ag_sS rfl)) (fun y hy => ?_) ?_ (fun x hx => ?_) (fun x x1 x2 => ?_)
    · rw [xs_ne (by decide)]; exact hH y hy
    · rw [xs_ne (by decide)]; exact h8
    · rw [xs_at, xup_ne (by omega)]
      exact h1 x hx
    · rw [xs_at, xup_at]
      by_cases e : x = v
      · rw [if_pos e]
      · rw [if_neg e]
        exact h2 x x1 (by omega)
def nmin (a b : Nat) : Nat := if a < b then a else b
theorem S_spread_14 (hP : pJ σ.1) {hs : Nat → Nat} {high : Nat} (hh : high ≤ 9000) (vb : Int) (hbd : ∀ s t, s ≤ (σ.1 305 6).toNat → wy (ld_g σ.1) hs vb s t < 2147483648) : ∀ (u s : Nat) (w4 w5 : xAV) (τ : xS), s + u = (σ.1 305 6).toNat → ag σ τ → ld_P (σ.1 305 6).toNat hs τ → τ.1 201 8 = ((nmin (hv (ld_g σ.1) hs vb s) high : Nat) : Int) → (∀ x, x ≤ nmin (hv (ld_g σ.1) hs vb s) high → τ.1 208 x = ((wy (ld_g σ.1) hs vb s x : Nat) : Int)) →
    ∃ τ', X iSorts_spread 14 [(2, 201), (0, (high : Int)), (0, vb), (0, (s : Int)), w4, w5] [] τ = some ((9, 0), τ') ∧ ag σ τ' ∧ ld_P (σ.1 305 6).toNat hs τ' ∧ τ'.1 201 8 = ((nmin (hv (ld_g σ.1) hs vb (σ.1 305 6).toNat) high : Nat) : Int) ∧ ∀ x, x ≤ nmin (hv (ld_g σ.1) hs vb (σ.1 305 6).toNat) high → τ'.1 208 x = ((wy (ld_g σ.1) hs vb (σ.1 305 6).toNat x : Nat) : Int) := by
  intro u
  have h6 := hP.1.2.1
  have e6 := hP.1.1.2.2.2.2.2
  have e202 := hP.1.1.1
  induction u with
  | zero =>
    intro s w4 w5 τ ht hτ hH h8 hf
    rw [qSorts_spread_14, if_neg (by rw [hτ.sl (a := 201) (k := 5) rfl, e6]; omega)]
    rw [show s = (σ.1 305 6).toNat by omega] at h8 hf
    exact ⟨τ, rfl, hτ, hH, h8, hf⟩
  | succ u ih =>
    intro s w4 w5 τ ht hτ hH h8 hf
    have hss : s < 6 := by omega
    have hx6 : xin (s : Int) 6 := ⟨by omega, by omega⟩
    have hgr := (hP.1.2.2 s (by omega)).1
    have hg : σ.1 306 s = ((ld_g σ.1 s : Nat) : Int) := by unfold ld_g; omega
    have hg60 : ld_g σ.1 s ≤ 60 := by unfold ld_g; omega
    have h207 := hH s (by omega)
    have f202 : τ.1 202 = σ.1 306 := by rw [hτ.at (a := 202) fun _ => rfl, e202]
    rw [qSorts_spread_14, if_pos (by rw [hτ.sl (a := 201) (k := 5) rfl, e6]; omega)]
    by_cases e : (s : Int) = vb
    · rw [if_pos e, qSorts_spread_91, xw_s (by omega)]
      have e1 : hv (ld_g σ.1) hs vb (s + 1) = hv (ld_g σ.1) hs vb s := if_pos e
      refine ih (s + 1) _ _ τ (by omega) hτ hH ?_ fun x hx => ?_
      · rw [e1]; exact h8
      · rw [e1] at hx
        rw [show wy (ld_g σ.1) hs vb (s + 1) x = wy (ld_g σ.1) hs vb s x from if_pos e]
        exact hf x hx
    · have e1 : hv (ld_g σ.1) hs vb (s + 1) = hv (ld_g σ.1) hs vb s + hs s * ld_g σ.1 s := if_neg e
      have e2 : ∀ x, wy (ld_g σ.1) hs vb (s + 1) x = ws (wy (ld_g σ.1) hs vb s) (ld_g σ.1 s) x (hs s + 1) := fun x => if_neg e
      have hm : hs s * ld_g σ.1 s ≤ 150 * 60 := Nat.mul_le_mul h207.2 hg60
      have hvle : nmin (hv (ld_g σ.1) hs vb s) high ≤ high := by unfold nmin; split <;> omega
      rw [if_neg e, if_pos hx6, if_pos hx6, Int.toNat_natCast, h8, h207.1, f202, hg, xmul_id (by omega) hg60, ← Int.natCast_add, xw_id (x := ((nmin (hv (ld_g σ.1) hs vb s) high + hs s * ld_g σ.1 s : Nat) : Int)) (by omega) (by omega), xw_s (by omega)]
      have e3 : xmm 1 (high : Int) ((nmin (hv (ld_g σ.1) hs vb s) high + hs s * ld_g σ.1 s : Nat) : Int) = ((nmin (hv (ld_g σ.1) hs vb (s + 1)) high : Nat) : Int) := by
        show (if ((nmin (hv (ld_g σ.1) hs vb s) high + hs s * ld_g σ.1 s : Nat) : Int) < (high : Int) then ((nmin (hv (ld_g σ.1) hs vb s) high + hs s * ld_g σ.1 s : Nat) : Int) else (high : Int)) = _
        rw [e1]
        unfold nmin
        generalize hv (ld_g σ.1) hs vb s = A
        generalize hs s * ld_g σ.1 s = B
        by_cases c1 : A < high
        · rw [if_pos c1]
          by_cases c2 : A + B < high
          · rw [if_pos c2, if_pos (by omega)]
          · rw [if_neg c2, if_neg (by omega)]
        · rw [if_neg c1, if_neg (show ¬ A + B < high by omega), if_neg (by omega)]
      rw [e3]
      clear e3
      have hvm : nmin (hv (ld_g σ.1) hs vb s) high ≤ nmin (hv (ld_g σ.1) hs vb (s + 1)) high := by
        rw [e1]; unfold nmin; split <;> split <;> omega
      have hvn : nmin (hv (ld_g σ.1) hs vb (s + 1)) high ≤ high := by unfold nmin; split <;> omega
      have hz : ∀ x, nmin (hv (ld_g σ.1) hs vb s) high < x → x ≤ high → wy (ld_g σ.1) hs vb s x = 0 := fun x x1 x2 => by
        refine wy_hv ?_
        unfold nmin at x1
        by_cases c : hv (ld_g σ.1) hs vb s < high
        · rw [if_pos c] at x1; exact x1
        · rw [if_neg c] at x1; omega
      obtain ⟨a5, τ1, q1, q2, q3, q4, q5, q6⟩ := S_spread_63 (σ := σ) (hs := hs) (high := high) (s := s) (Hv := nmin (hv (ld_g σ.1) hs vb s) high) (Hn := nmin (hv (ld_g σ.1) hs vb (s + 1)) high) (f := wy (ld_g σ.1) hs vb s) (by omega) vb (0, ((nmin (hv (ld_g σ.1) hs vb s) high : Nat) : Int)) (nmin (hv (ld_g σ.1) hs vb (s + 1)) high - nmin (hv (ld_g σ.1) hs vb s) high) (nmin (hv (ld_g σ.1) hs vb s) high + 1) (xs τ 201 8 ((nmin (hv (ld_g σ.1) hs vb (s + 1)) high : Nat) : Int)) (by omega) (Nat.lt_succ_self _) (ag_tr hτ (ag_sS rfl)) (fun y hy => by rw [xs_ne (by decide)]; exact hH y hy) (by rw [xs_at, xup_eq]) (fun x hx => by rw [xs_ne (by decide)]; exact hf x hx) (fun x x1 x2 => absurd x1 (by omega))
      have q1 : X iSorts_spread 63 [(2, 201), (0, (high : Int)), (0, vb), (0, (s : Int)), (0, ((nmin (hv (ld_g σ.1) hs vb s) high : Nat) : Int)), (0, ((nmin (hv (ld_g σ.1) hs vb s) high : Nat) : Int) + 1)] [] (xs τ 201 8 ((nmin (hv (ld_g σ.1) hs vb (s + 1)) high : Nat) : Int)) = _ := q1
      rw [q1]
      have hH1 := q3
      have f202' : τ1.1 202 = σ.1 306 := by rw [q2.at (a := 202) fun _ => rfl, e202]
      rw [qSorts_addPieces_0, if_pos hx6, Int.toNat_natCast, f202', hg, q4]
      obtain ⟨τ2, p1, p2, p3, p4, p5⟩ := S_addPieces_12 hP (hs := hs) (s := s) (Hn := nmin (hv (ld_g σ.1) hs vb (s + 1)) high) (f := wy (ld_g σ.1) hs vb s) (by omega) hss (by omega) (fun t _ => by rw [← e2]; exact hbd (s + 1) t (by omega)) (nmin (hv (ld_g σ.1) hs vb (s + 1)) high + 1) ((nmin (hv (ld_g σ.1) hs vb (s + 1)) high : Nat) : Int) (9, 0) (9, 0) τ1 (by omega) (Nat.le_refl _) q2 q3 q4 (fun x hx => by
        by_cases c : x ≤ nmin (hv (ld_g σ.1) hs vb s) high
        · exact q5 x c
        · rw [q6 x (by omega) (by omega), hz x (by omega) (by omega)]
          rfl) (fun x x1 x2 => absurd x1 (by omega))
      rw [p1]
      simp only [Option.bind_some]
      rw [qSorts_spread_91, xw_s (by omega)]
      exact ih (s + 1) _ _ τ2 (by omega) p2 p3 p4 (fun x hx => by rw [e2]; exact p5 x hx)
theorem S_spread (hP : pJ σ.1) {hs : Nat → Nat} {high : Nat} (hh : high ≤ 9000) (vb : Int) (hbd : ∀ s t, s ≤ (σ.1 305 6).toNat → wy (ld_g σ.1) hs vb s t < 2147483648) {τ : xS} (hτ : ag σ τ) (hH : ld_P (σ.1 305 6).toNat hs τ) :
    ∃ τ', X iSorts_spread 0 [(2, 201), (0, (high : Int)), (0, vb), (9, 0), (9, 0), (9, 0)] [] τ = some ((9, 0), τ') ∧ ag σ τ' ∧ ld_P (σ.1 305 6).toNat hs τ' ∧ τ'.1 201 8 = ((nmin (hv (ld_g σ.1) hs vb (σ.1 305 6).toNat) high : Nat) : Int) ∧ ∀ x, x ≤ nmin (hv (ld_g σ.1) hs vb (σ.1 305 6).toNat) high → τ'.1 208 x = ((wy (ld_g σ.1) hs vb (σ.1 305 6).toNat x : Nat) : Int) := by
  rw [qSorts_spread_0]
  have e0 : nmin (hv (ld_g σ.1) hs vb 0) high = 0 := by
    show (if 0 < high then 0 else high) = 0
    split <;> omega
  refine S_spread_14 hP hh vb hbd (σ.1 305 6).toNat 0 (9, 0) (9, 0) _ (by omega) (ag_tr hτ (ag_tr (ag_sS rfl) (ag_sS rfl))) (fun y hy => ?_) ?_ (fun x hx => ?_)
  · rw [xs_ne (by decide), xs_ne (by decide)]; exact hH y hy
  · rw [xs_ne (by decide), xs_at, xup_eq, e0]
    rfl
  · rw [e0] at hx
    have : x = 0 := by omega
    subst this
    rw [xs_at, xup_eq]
    rfl
end LOADC

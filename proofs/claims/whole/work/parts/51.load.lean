/-! loads: the call -/
section LOAD
variable {σ : xS}
/-- the class's sum of ways between two weights -/
theorem S_waysWithin_9 {f : Nat → Nat} {Hv : Nat} (hn : Hv ≤ 9000) {hi : Int} (hhi : -100000 ≤ hi ∧ hi ≤ 100000) {lo : Nat} (w1 : xAV) {τ : xS} (h8 : τ.1 201 8 = (Hv : Int)) (hf : ∀ x, x ≤ Hv → τ.1 208 x = ((f x : Nat) : Int)) {k : Nat} (hk : (k : Int) = (if hi < (Hv : Int) then hi else (Hv : Int)) + 1 - lo ∨ (k = 0 ∧ (if hi < (Hv : Int) then hi else (Hv : Int)) < lo)) (hb : tw f lo k < 2147483648) :
    ∀ (u j : Nat), j + u = k → X iSorts_waysWithin 9 [(2, 201), w1, (0, hi), (0, ((tw f lo j : Nat) : Int)), (0, ((lo + j : Nat) : Int))] [] τ = some ((0, ((tw f lo k : Nat) : Int)), τ) := by
  intro u
  have em : xmm 1 hi (τ.1 201 8) = (if hi < (Hv : Int) then hi else (Hv : Int)) := by
    show (if τ.1 201 8 < hi then τ.1 201 8 else hi) = _
    rw [h8]
    by_cases c : hi < (Hv : Int)
    · rw [if_pos c, if_neg (by omega)]
    · rw [if_neg c]
      by_cases c2 : (Hv : Int) < hi
      · rw [if_pos c2]
      · rw [if_neg c2]; omega
  generalize (if hi < (Hv : Int) then hi else (Hv : Int)) = mn at em hk
  have hmn : (lo : Int) ≤ mn → mn ≤ Hv := by
    intro _
    have : xmm 1 hi (τ.1 201 8) ≤ (Hv : Int) := by
      show (if τ.1 201 8 < hi then τ.1 201 8 else hi) ≤ _
      rw [h8]
      split <;> omega
    omega
  induction u with
  | zero =>
    intro j hj
    rw [qSorts_waysWithin_9, em, if_pos (by clear em; omega), show j = k by omega]
  | succ u ih =>
    intro j hj
    have h1 : ((lo + j : Nat) : Int) ≤ mn := by clear em; omega
    have h2 := hmn (by clear em; omega)
    have h3 : tw f lo (j + 1) ≤ tw f lo k := tw_le (by omega)
    rw [qSorts_waysWithin_9, em, if_neg (by clear em; omega), if_pos (xin_of (by clear em; omega) (by clear em; omega)), Int.toNat_natCast, hf _ (by clear em; omega), ← Int.natCast_add]
    rw [show tw f lo j + f (lo + j) = tw f lo (j + 1) from rfl, xw_id (x := ((tw f lo (j + 1) : Nat) : Int)) (by clear em; omega) (by clear em; omega), xw_s (by clear em; omega)]
    exact ih (j + 1) (by omega)
/-- how many between, of those up to the heaviest -/
theorem S_waysWithin {f : Nat → Nat} {Hv high : Nat} (hn : high ≤ 9000) (hHv : Hv ≤ high) (hz : ∀ x, Hv < x → x ≤ high → f x = 0) (hbd : ∀ n, tw f 0 n < 2147483648) {lo hi : Int} (hlo : -100000 ≤ lo ∧ lo ≤ 100000) (hhi : -100000 ≤ hi ∧ hi ≤ high) {τ : xS} (h8 : τ.1 201 8 = (Hv : Int)) (hf : ∀ x, x ≤ Hv → τ.1 208 x = ((f x : Nat) : Int)) :
    X iSorts_waysWithin 0 [(2, 201), (0, lo), (0, hi), (9, 0), (9, 0)] [] τ = some ((0, ((tw f lo.toNat (hi + 1 - lo.toNat).toNat : Nat) : Int)), τ) := by
  rw [qSorts_waysWithin_0]
  have e0 : xmm 0 lo 0 = ((lo.toNat + 0 : Nat) : Int) := by
    show (if lo < 0 then 0 else lo) = _
    split <;> omega
  rw [e0]
  clear e0
  generalize lo.toNat = a
  generalize hmn : (if hi < (Hv : Int) then hi else (Hv : Int)) = mn
  have hm1 : mn ≤ hi ∧ mn ≤ Hv ∧ (mn = hi ∨ mn = Hv) := by
    rw [← hmn]; split <;> omega
  have ek : tw f a (hi + 1 - a).toNat = tw f a (mn + 1 - a).toNat := by
    obtain ⟨d, hd⟩ : ∃ d, (hi + 1 - a).toNat = (mn + 1 - a).toNat + d := ⟨(hi + 1 - a).toNat - (mn + 1 - a).toNat, by omega⟩
    rw [hd]
    refine tw_cg0 fun x x1 x2 => hz x ?_ ?_
    · omega
    · omega
  rw [ek]
  refine S_waysWithin_9 (f := f) (Hv := Hv) (hi := hi) (lo := a) (by omega) (by omega) (0, lo) h8 hf (k := (mn + 1 - a).toNat) ?_ (Nat.lt_of_le_of_lt tw_part (hbd _)) (mn + 1 - a).toNat 0 (by omega)
  rw [hmn]
  by_cases c : mn < a
  · exact Or.inr ⟨by omega, c⟩
  · exact Or.inl (by omega)
theorem ld_R_tw {f : Nat → Nat} {lo hi : Int} : 0 < tw f lo.toNat (hi + 1 - lo.toNat).toNat ↔ ld_R f lo hi := by
  rw [tw_pos]
  constructor
  · rintro ⟨x, x1, x2, x3⟩
    exact ⟨x, by omega, by omega, x3⟩
  · rintro ⟨x, x1, x2, x3⟩
    exact ⟨x, by omega, by omega, x3⟩
/-- what both come to -/
def ld_w (m : Nat → Nat → Int) (hs : Nat → Nat) (s : Int) (x : Nat) : Nat := wy (ld_g m) hs s (m 305 6).toNat x
def ld_C (m : Nat → Nat → Int) (hs : Nat → Nat) (s : Nat) (lo hi : Int) (c : Nat) : Prop := ld_R (ld_w m hs s) (lo - (c * ld_g m s : Nat)) (hi - (c * ld_g m s : Nat))
theorem S_fewest_3 (hP : pJ σ.1) {hs : Nat → Nat} {s lo high Hv : Nat} (hh : high ≤ 9000) (hl : lo ≤ 9100) (hss : s < 6) (hsn : (s : Int) < σ.1 305 6) (hHv : Hv ≤ high) (hz : ∀ x, Hv < x → x ≤ high → ld_w σ.1 hs s x = 0) (hbd : ∀ n, tw (ld_w σ.1 hs s) 0 n < 2147483648) {τ : xS} (hτ : ag σ τ) (hH : ld_P (σ.1 305 6).toNat hs τ) (h8 : τ.1 201 8 = (Hv : Int)) (hf : ∀ x, x ≤ Hv → τ.1 208 x = ((ld_w σ.1 hs s x : Nat) : Int)) :
    ∀ (u c : Nat), c + u = hs s + 1 → (∀ d : Nat, d < c → ¬ ld_C σ.1 hs s lo high d) → ∃ v, X iSorts_fewest 3 [(2, 201), (0, (s : Int)), (0, (lo : Int)), (0, (high : Int)), (0, (c : Int))] [] τ = some ((0, v), τ) ∧ ((v = -1 ∧ ∀ d : Nat, d ≤ hs s → ¬ ld_C σ.1 hs s lo high d) ∨ ∃ d : Nat, v = (d : Int) ∧ d ≤ hs s ∧ ld_C σ.1 hs s lo high d ∧ ∀ e : Nat, e < d → ¬ ld_C σ.1 hs s lo high e) := by
  intro u
  have hgr := (hP.1.2.2 s (by omega)).1
  have hg : σ.1 306 s = ((ld_g σ.1 s : Nat) : Int) := by unfold ld_g; omega
  have hg60 : ld_g σ.1 s ≤ 60 := by unfold ld_g; omega
  have hx6 : xin (s : Int) 6 := ⟨by omega, by omega⟩
  have h207 := hH s (by omega)
  have f202 : τ.1 202 = σ.1 306 := by rw [hτ.at (a := 202) fun _ => rfl, hP.1.1.1]
  induction u with
  | zero =>
    intro c hc hno
    rw [qSorts_fewest_3, if_pos hx6, Int.toNat_natCast, h207.1, if_pos (by omega)]
    exact ⟨-1, rfl, Or.inl ⟨rfl, fun d hd => hno d (by omega)⟩⟩
  | succ u ih =>
    intro c hc hno
    have hm : c * ld_g σ.1 s ≤ 150 * 60 := Nat.mul_le_mul (by omega) hg60
    rw [qSorts_fewest_3, if_pos hx6, if_pos hx6, if_pos hx6, Int.toNat_natCast, h207.1, if_neg (by omega), f202, hg, xmul_id (by omega) hg60, xw_id (x := (lo : Int) - ((c * ld_g σ.1 s : Nat) : Int)) (by omega) (by omega), xw_id (x := (high : Int) - ((c * ld_g σ.1 s : Nat) : Int)) (by omega) (by omega)]
    rw [S_waysWithin (f := ld_w σ.1 hs s) (high := high) (lo := (lo : Int) - ((c * ld_g σ.1 s : Nat) : Int)) (hi := (high : Int) - ((c * ld_g σ.1 s : Nat) : Int)) hh hHv hz hbd (by omega) (by omega) h8 hf]
    simp only [Option.bind_some]
    rw [qSorts_fewest_40, xw_s (by omega)]
    by_cases hc2 : ld_C σ.1 hs s lo high c
    · have : 0 < tw (ld_w σ.1 hs s) ((lo : Int) - ((c * ld_g σ.1 s : Nat) : Int)).toNat ((high : Int) - ((c * ld_g σ.1 s : Nat) : Int) + 1 - ((lo : Int) - ((c * ld_g σ.1 s : Nat) : Int)).toNat).toNat := ld_R_tw.mpr hc2
      rw [if_pos (by omega)]
      exact ⟨c, rfl, Or.inr ⟨c, rfl, by omega, hc2, hno⟩⟩
    · have : ¬ 0 < tw (ld_w σ.1 hs s) ((lo : Int) - ((c * ld_g σ.1 s : Nat) : Int)).toNat ((high : Int) - ((c * ld_g σ.1 s : Nat) : Int) + 1 - ((lo : Int) - ((c * ld_g σ.1 s : Nat) : Int)).toNat).toNat := fun q => hc2 (ld_R_tw.mp q)
      rw [if_neg (by omega)]
      refine ih (c + 1) (by omega) fun d hd => ?_
      by_cases e : d = c
      · rw [e]; exact hc2
      · exact hno d (by omega)
theorem S_greatest_8 (hP : pJ σ.1) {hs : Nat → Nat} {s lo high Hv : Nat} (hh : high ≤ 9000) (hl : lo ≤ 9100) (hss : s < 6) (hsn : (s : Int) < σ.1 305 6) (hHv : Hv ≤ high) (hz : ∀ x, Hv < x → x ≤ high → ld_w σ.1 hs s x = 0) (hbd : ∀ n, tw (ld_w σ.1 hs s) 0 n < 2147483648) {τ : xS} (hτ : ag σ τ) (hH : ld_P (σ.1 305 6).toNat hs τ) (h8 : τ.1 201 8 = (Hv : Int)) (hf : ∀ x, x ≤ Hv → τ.1 208 x = ((ld_w σ.1 hs s x : Nat) : Int)) :
    ∀ (u : Nat) (w : Int), w = (u : Int) - 1 → u ≤ hs s + 1 → (∀ d : Nat, u ≤ d → d ≤ hs s → ¬ ld_C σ.1 hs s lo high d) → ∃ v, X iSorts_greatest 8 [(2, 201), (0, (s : Int)), (0, (lo : Int)), (0, (high : Int)), (0, w)] [] τ = some ((0, v), τ) ∧ ((v = -1 ∧ ∀ d : Nat, d ≤ hs s → ¬ ld_C σ.1 hs s lo high d) ∨ ∃ d : Nat, v = (d : Int) ∧ d ≤ hs s ∧ ld_C σ.1 hs s lo high d ∧ ∀ e : Nat, d < e → e ≤ hs s → ¬ ld_C σ.1 hs s lo high e) := by
  intro u
  have hgr := (hP.1.2.2 s (by omega)).1
  have hg : σ.1 306 s = ((ld_g σ.1 s : Nat) : Int) := by unfold ld_g; omega
  have hg60 : ld_g σ.1 s ≤ 60 := by unfold ld_g; omega
  have hx6 : xin (s : Int) 6 := ⟨by omega, by omega⟩
  have h207 := hH s (by omega)
  have f202 : τ.1 202 = σ.1 306 := by rw [hτ.at (a := 202) fun _ => rfl, hP.1.1.1]
  induction u with
  | zero =>
    intro w hw hu hno
    rw [qSorts_greatest_8, if_pos (by omega)]
    exact ⟨-1, rfl, Or.inl ⟨rfl, fun d hd => hno d (Nat.zero_le _) hd⟩⟩
  | succ u ih =>
    intro w hw hu hno
    have ew : w = (u : Int) := by omega
    subst ew
    have hm : u * ld_g σ.1 s ≤ 150 * 60 := Nat.mul_le_mul (by omega) hg60
    rw [qSorts_greatest_8, if_neg (by omega), if_pos hx6, if_pos hx6, Int.toNat_natCast, f202, hg, xmul_id (by omega) hg60, xw_id (x := (lo : Int) - ((u * ld_g σ.1 s : Nat) : Int)) (by omega) (by omega), xw_id (x := (high : Int) - ((u * ld_g σ.1 s : Nat) : Int)) (by omega) (by omega)]
    rw [S_waysWithin (f := ld_w σ.1 hs s) (high := high) (lo := (lo : Int) - ((u * ld_g σ.1 s : Nat) : Int)) (hi := (high : Int) - ((u * ld_g σ.1 s : Nat) : Int)) hh hHv hz hbd (by omega) (by omega) h8 hf]
    simp only [Option.bind_some]
    rw [qSorts_greatest_39, xw_id (x := (u : Int) + (-1)) (by omega) (by omega)]
    by_cases hc2 : ld_C σ.1 hs s lo high u
    · have : 0 < tw (ld_w σ.1 hs s) ((lo : Int) - ((u * ld_g σ.1 s : Nat) : Int)).toNat ((high : Int) - ((u * ld_g σ.1 s : Nat) : Int) + 1 - ((lo : Int) - ((u * ld_g σ.1 s : Nat) : Int)).toNat).toNat := ld_R_tw.mpr hc2
      rw [if_pos (by omega)]
      exact ⟨u, rfl, Or.inr ⟨u, rfl, by omega, hc2, fun e e1 e2 => hno e (by omega) e2⟩⟩
    · have : ¬ 0 < tw (ld_w σ.1 hs s) ((lo : Int) - ((u * ld_g σ.1 s : Nat) : Int)).toNat ((high : Int) - ((u * ld_g σ.1 s : Nat) : Int) + 1 - ((lo : Int) - ((u * ld_g σ.1 s : Nat) : Int)).toNat).toNat := fun q => hc2 (ld_R_tw.mp q)
      rw [if_neg (by omega)]
      refine ih _ (by omega) (by omega) fun d d1 d2 => ?_
      by_cases e : d = u
      · rw [e]; exact hc2
      · exact hno d (by omega) d2
/-- the reference's walk over the pieces -/
theorem M_load_211 (hP : pJ σ.1) {hs : Nat → Nat} {s lo high : Nat} {wt : Int} (hh : high ≤ 9000) (hl : lo ≤ 9100) (hss : s < 6) (hsn : (s : Int) < σ.1 305 6) {τ : xS} (hτ : ag σ τ) (hH : ld_H (σ.1 305 6).toNat hs τ) (hf : ∀ x, x ≤ high → τ.1 338 x = sa (ld_w σ.1 hs s x)) (w1 w2 w3 w4 : xAV) :
    ∀ (u c : Nat) (b : Int), c + u = hs s + 1 → ((b = -1 ∧ ∀ d : Nat, d < c → ¬ ld_C σ.1 hs s lo high d) ∨ Int.tmod wt 2 ≠ 0 ∧ ∃ d : Nat, b = (d : Int) ∧ d < c ∧ ld_C σ.1 hs s lo high d ∧ ∀ e : Nat, d < e → e < c → ¬ ld_C σ.1 hs s lo high e) →
    ∃ v, X iM_load 211 [(2, 305), w1, w2, w3, w4, (0, wt), (0, (lo : Int)), (0, (high : Int)), (0, (s : Int)), (0, b), (0, (c : Int))] [] τ = some ((0, v), τ) ∧ ((v = -1 ∧ ∀ d : Nat, d ≤ hs s → ¬ ld_C σ.1 hs s lo high d) ∨ ∃ d : Nat, v = (d : Int) ∧ d ≤ hs s ∧ ld_C σ.1 hs s lo high d ∧ (Int.tmod wt 2 = 0 → ∀ e : Nat, e < d → ¬ ld_C σ.1 hs s lo high e) ∧ (Int.tmod wt 2 ≠ 0 → ∀ e : Nat, d < e → e ≤ hs s → ¬ ld_C σ.1 hs s lo high e)) := by
  intro u
  have hgr := (hP.1.2.2 s (by omega)).1
  have hg : σ.1 306 s = ((ld_g σ.1 s : Nat) : Int) := by unfold ld_g; omega
  have hg60 : ld_g σ.1 s ≤ 60 := by unfold ld_g; omega
  have hx6 : xin (s : Int) 6 := ⟨by omega, by omega⟩
  have h340 := hH s (by omega)
  have f306 : τ.1 306 = σ.1 306 := hτ.at fun _ => rfl
  -- what lies at c and behind
  have fin : ∀ (c : Nat) (b : Int), (∀ d : Nat, c ≤ d → d ≤ hs s → ¬ ld_C σ.1 hs s lo high d) → c ≤ hs s + 1 → ((b = -1 ∧ ∀ d : Nat, d < c → ¬ ld_C σ.1 hs s lo high d) ∨ Int.tmod wt 2 ≠ 0 ∧ ∃ d : Nat, b = (d : Int) ∧ d < c ∧ ld_C σ.1 hs s lo high d ∧ ∀ e : Nat, d < e → e < c → ¬ ld_C σ.1 hs s lo high e) → ((b = -1 ∧ ∀ d : Nat, d ≤ hs s → ¬ ld_C σ.1 hs s lo high d) ∨ ∃ d : Nat, b = (d : Int) ∧ d ≤ hs s ∧ ld_C σ.1 hs s lo high d ∧ (Int.tmod wt 2 = 0 → ∀ e : Nat, e < d → ¬ ld_C σ.1 hs s lo high e) ∧ (Int.tmod wt 2 ≠ 0 → ∀ e : Nat, d < e → e ≤ hs s → ¬ ld_C σ.1 hs s lo high e)) := by
    intro c b hno hcs hb
    rcases hb with ⟨b1, b2⟩ | ⟨b0, d, d1, d2, d3, d4⟩
    · refine Or.inl ⟨b1, fun d hd => ?_⟩
      by_cases e : d < c
      · exact b2 d e
      · exact hno d (by omega) hd
    · refine Or.inr ⟨d, d1, by omega, d3, fun q => absurd q b0, fun _ e e1 e2 => ?_⟩
      by_cases e3 : e < c
      · exact d4 e e1 e3
      · exact hno e (by omega) e2
  induction u with
  | zero =>
    intro c b hc hb
    rw [qM_load_211, if_pos hx6, Int.toNat_natCast, h340.1, if_pos (by omega)]
    exact ⟨b, rfl, fin c b (fun d d1 d2 => absurd d1 (by omega)) (by omega) hb⟩
  | succ u ih =>
    intro c b hc hb
    have hm : c * ld_g σ.1 s ≤ 150 * 60 := Nat.mul_le_mul (by omega) hg60
    rw [qM_load_211, if_pos hx6, if_pos hx6, if_pos hx6, if_pos hx6, Int.toNat_natCast, h340.1, if_neg (by omega), f306, hg, xmul_id (by omega) hg60]
    by_cases hq : high < c * ld_g σ.1 s
    · rw [if_pos (by omega)]
      refine ⟨b, rfl, fin c b (fun d d1 d2 => ?_) (by omega) hb⟩
      rintro ⟨x, x1, x2, x3⟩
      have : c * ld_g σ.1 s ≤ d * ld_g σ.1 s := Nat.mul_le_mul_right _ d1
      omega
    · rw [if_neg (by omega), xw_id (x := (lo : Int) - ((c * ld_g σ.1 s : Nat) : Int)) (by omega) (by omega), xw_id (x := (high : Int) - ((c * ld_g σ.1 s : Nat) : Int)) (by omega) (by omega)]
      have hb2 : ∀ (c' : Nat), c' = c + 1 → ¬ ld_C σ.1 hs s lo high c → ((b = -1 ∧ ∀ d : Nat, d < c' → ¬ ld_C σ.1 hs s lo high d) ∨ Int.tmod wt 2 ≠ 0 ∧ ∃ d : Nat, b = (d : Int) ∧ d < c' ∧ ld_C σ.1 hs s lo high d ∧ ∀ e : Nat, d < e → e < c' → ¬ ld_C σ.1 hs s lo high e) := by
        intro c' hc' hn
        subst hc'
        rcases hb with ⟨b1, b2⟩ | ⟨b0, d, d1, d2, d3, d4⟩
        · refine Or.inl ⟨b1, fun d hd => ?_⟩
          by_cases e : d = c
          · rw [e]; exact hn
          · exact b2 d (by omega)
        · refine Or.inr ⟨b0, d, d1, by omega, d3, fun e e1 e2 => ?_⟩
          by_cases e3 : e = c
          · rw [e3]; exact hn
          · exact d4 e e1 (by omega)
      rcases M_isReached (f := ld_w σ.1 hs s) hh (lo := (lo : Int) - ((c * ld_g σ.1 s : Nat) : Int)) (hi := (high : Int) - ((c * ld_g σ.1 s : Nat) : Int)) (by omega) (by omega) hf (by omega) with ⟨r1, r2⟩ | ⟨r1, r2⟩
      · rw [r2]
        simp only [Option.bind_some]
        rw [qM_load_268, if_neg (by decide), xw_s (by omega)]
        by_cases hw : Int.tmod wt 2 = 0
        · rw [if_pos hw]
          refine ⟨c, rfl, Or.inr ⟨c, rfl, by omega, r1, fun _ e e1 => ?_, fun q => absurd hw q⟩⟩
          rcases hb with ⟨b1, b2⟩ | ⟨b0, -⟩
          · exact b2 e e1
          · exact absurd hw b0
        · rw [if_neg hw]
          exact ih (c + 1) c (by omega) (Or.inr ⟨hw, c, rfl, Nat.lt_succ_self c, r1, fun e e1 e2 => absurd e1 (by omega)⟩)
      · rw [r2]
        simp only [Option.bind_some]
        rw [qM_load_268, if_pos rfl, xw_s (by omega)]
        exact ih (c + 1) b (by omega) (hb2 (c + 1) rfl r1)
/-- the reference's count -/
theorem M_load_148 {f : Nat → Nat} {lo high : Nat} (hh : high ≤ 9000) {τ : xS} (hf : ∀ x, x ≤ high → τ.1 338 x = sa (f x)) (w1 w2 w3 w4 w5 w6 w10 : xAV) : ∀ (u j : Nat), j + u = high + 1 - lo → X iM_load 148 [(2, 305), w1, w2, w3, w4, w5, w6, (0, (high : Int)), (0, sa (tw f lo j)), (0, ((lo + j : Nat) : Int)), w10] [] τ = some ((0, if tw f lo (high + 1 - lo) = 0 then -1 else sa (tw f lo (high + 1 - lo))), τ) := by
  intro u
  induction u with
  | zero =>
    intro j hj
    rw [qM_load_148, if_pos (by omega), show j = high + 1 - lo by omega]
    have := sa_pos (n := tw f lo (high + 1 - lo))
    have h2 := sa_le (tw f lo (high + 1 - lo))
    by_cases c : tw f lo (high + 1 - lo) = 0
    · rw [if_pos (by omega), if_pos c]
    · rw [if_neg (by omega), if_neg c]
  | succ u ih =>
    intro j hj
    have s1 := sa_le (tw f lo j)
    have s2 := sa_le (f (lo + j))
    rw [qM_load_148, if_neg (by omega), if_pos (xin_of (by omega) (by omega)), Int.toNat_natCast, hf _ (by omega), xw_id (x := sa (tw f lo j) + sa (f (lo + j))) (by omega) (by omega), M_min]
    simp only [Option.bind_some]
    rw [qM_load_171, sa_add, xw_s (by omega)]
    exact ih (j + 1) (by omega)
end LOAD
/-- so many pieces of all sorts there are at most -/
def si (f : Nat → Int) : Nat → Int
  | 0 => 0
  | n + 1 => si f n + f n
theorem si_plus {f g : Nat → Int} : ∀ {n : Nat}, si (fun x => f x + g x) n = si f n + si g n
  | 0 => rfl
  | n + 1 => by
    show si (fun x => f x + g x) n + (f n + g n) = si f n + f n + (si g n + g n)
    rw [si_plus (n := n)]
    omega
theorem si_one {a : Int} {Q : Prop} [Decidable Q] : ∀ {n : Nat}, si (fun s => if a = (s : Int) ∧ Q then 1 else 0) n ≤ (if 0 ≤ a ∧ a < n then 1 else 0)
  | 0 => by
    show (0 : Int) ≤ _
    split <;> decide
  | n + 1 => by
    have ih := si_one (a := a) (Q := Q) (n := n)
    show si (fun s => if a = (s : Int) ∧ Q then 1 else 0) n + (if a = (n : Int) ∧ Q then 1 else 0) ≤ _
    by_cases h : a = (n : Int) ∧ Q
    · rw [if_pos h, if_pos (by have := h.1; omega)]
      rw [if_neg (by have := h.1; omega)] at ih
      omega
    · rw [if_neg h]
      by_cases h2 : 0 ≤ a ∧ a < n
      · rw [if_pos h2] at ih
        rw [if_pos (by omega)]
        omega
      · rw [if_neg h2] at ih
        refine Int.le_trans (by omega) (show (0 : Int) ≤ _ from ?_)
        split <;> decide
theorem bk_sum {m : Nat → Nat → Int} {P d k : Int} {N : Nat} : ∀ {n : Nat}, si (fun s => bk_my m P s d k n) N ≤ n
  | 0 => by
    have : ∀ N, si (fun s => bk_my m P s d k 0) N = 0 := by
      intro N
      induction N with
      | zero => rfl
      | succ N ih =>
        show si (fun s => bk_my m P s d k 0) N + 0 = 0
        rw [ih]; rfl
    rw [this]
    exact Int.le_refl _
  | n + 1 => by
    have ih := bk_sum (m := m) (P := P) (d := d) (k := k) (N := N) (n := n)
    show si (fun s => bk_my m P s d k n + if m 315 n = (s : Int) ∧ bk_ask m n d k ∧ bk_pl m n d k = P then 1 else 0) N ≤ ((n + 1 : Nat) : Int)
    rw [si_plus]
    have h2 := si_one (a := m 315 n) (Q := bk_ask m n d k ∧ bk_pl m n d k = P) (n := N)
    have h3 : (if 0 ≤ m 315 n ∧ m 315 n < N then (1 : Int) else 0) ≤ 1 := by split <;> decide
    omega
theorem sh_si {h : Nat → Nat} {f : Nat → Int} : ∀ {n : Nat}, (∀ s, s < n → f s = (h s : Int)) → ((sh h n : Nat) : Int) = si f n
  | 0, _ => rfl
  | n + 1, e => by
    show ((sh h n + h n : Nat) : Int) = si f n + f n
    rw [Int.natCast_add, sh_si fun s hs => e s (Nat.lt_succ_of_lt hs), e n (Nat.lt_succ_self n)]
theorem ntdiv (a b : Nat) : Int.tdiv (a : Int) (b : Int) = ((a / b : Nat) : Int) := rfl
section LOADX
variable {σ : xS}
/-- how many of each sort are at a house now -/
def ld_n (m : Nat → Nat → Int) (h : Int) (s : Nat) : Nat := (bk_many m (10 + h) s (m 305 0) (m 305 0)).toNat
theorem ld_n_le (hB : bk_B σ.1) (h : Int) (s : Nat) : bk_many σ.1 (10 + h) s (σ.1 305 0) (σ.1 305 0) = ((ld_n σ.1 h s : Nat) : Int) ∧ ld_n σ.1 h s ≤ 150 := by
  have := bk_many_le hB (P := 10 + h) (so := s) (d := σ.1 305 0) (k := σ.1 305 0)
  unfold ld_n
  omega
theorem bk_many_ag {τ : xS} (h : ag σ τ) (P so d k : Int) : bk_many τ.1 P so d k = bk_many σ.1 P so d k := by
  have key : ∀ n, bk_my τ.1 P so d k n = bk_my σ.1 P so d k n := by
    intro n
    induction n with
    | zero => rfl
    | succ n ih =>
      show bk_my τ.1 P so d k n + _ = bk_my σ.1 P so d k n + _
      rw [ih]
      unfold bk_ask
      rw [h.at (a := 315) (fun _ => rfl), h.at (a := 317) (fun _ => rfl), h.sl (a := 305) (k := 15) rfl, bk_pl_ag h]
  unfold bk_many
  rw [key, h.sl (a := 305) (k := 15) rfl]
theorem C_load_79 (hP : pJ σ.1) {h : Int} (hh : 0 ≤ h ∧ h < 8) (v2 v3 v4 v5 : Int) (w6 w8 : xAV) : ∀ (u s : Nat) (τ : xS), s + u = (σ.1 305 6).toNat → ag σ τ → (∀ x : Nat, x < s → τ.1 207 x = ((ld_n σ.1 h x : Nat) : Int)) →
    ∃ τ', X iC_load 79 [(2, 200), (0, h), (0, v2), (0, v3), (0, v4), (0, v5), w6, (0, (s : Int)), w8] [] τ = X iC_load 79 [(2, 200), (0, h), (0, v2), (0, v3), (0, v4), (0, v5), w6, (0, σ.1 305 6), w8] [] τ' ∧ ag σ τ' ∧ ld_P (σ.1 305 6).toNat (ld_n σ.1 h) τ' := by
  intro u
  have h6 := hP.1.2.1
  have hd := hP.2.2.1.2.2.2.1
  induction u with
  | zero =>
    intro s τ hs hτ hf
    rw [show (s : Int) = σ.1 305 6 by omega]
    exact ⟨τ, rfl, hτ, fun x hx => ⟨hf x (by omega), (ld_n_le hP.2.2.1.1 h x).2⟩⟩
  | succ u ih =>
    intro s τ hs hτ hf
    have hPt := pJ_ag hτ hP
    have e0 : τ.1 216 0 = σ.1 305 0 := by rw [hτ.cl (a := 216) (by omega), hP.2.2.1.2.1.2.2.2.2.1]
    have hb := B_manyAt hPt.2.2.1 (10 + h) (s : Int) (d := σ.1 305 0) (k := σ.1 305 0) hd hd
    rw [qC_load_79, if_pos (by rw [hτ.sl (a := 201) (k := 5) rfl, hP.1.1.2.2.2.2.2]; omega), e0, xw_id (x := 10 + h) (by omega) (by omega), hb]
    simp only [Option.bind_some]
    rw [qC_load_127, if_pos (xin_of (by omega) (by omega)), Int.toNat_natCast, xw_s (by omega), bk_many_ag hτ, (ld_n_le hP.2.2.1.1 h s).1]
    refine ih (s + 1) _ (by omega) (ag_tr hτ (ag_sS rfl)) fun x hx => ?_
    rw [xs_at, xup_at]
    by_cases e : x = s
    · rw [if_pos e, e]
    · rw [if_neg e]
      exact hf x (by omega)
theorem M_load_89 (hP : pJ σ.1) {h : Int} (hh : 0 ≤ h ∧ h < 8) (v5 v6 v7 : Int) (w2 w3 w4 w9 w10 : xAV) : ∀ (u s : Nat) (τ : xS), s + u = (σ.1 305 6).toNat → ag σ τ → (∀ x : Nat, x < s → τ.1 340 x = ((ld_n σ.1 h x : Nat) : Int)) →
    ∃ τ', X iM_load 89 [(2, 305), (0, h), w2, w3, w4, (0, v5), (0, v6), (0, v7), (0, (s : Int)), w9, w10] [] τ = X iM_load 89 [(2, 305), (0, h), w2, w3, w4, (0, v5), (0, v6), (0, v7), (0, σ.1 305 6), w9, w10] [] τ' ∧ ag σ τ' ∧ ld_H (σ.1 305 6).toNat (ld_n σ.1 h) τ' := by
  intro u
  have h6 := hP.1.2.1
  induction u with
  | zero =>
    intro s τ hs hτ hf
    rw [show (s : Int) = σ.1 305 6 by omega]
    exact ⟨τ, rfl, hτ, fun x hx => ⟨hf x (by omega), (ld_n_le hP.2.2.1.1 h x).2⟩⟩
  | succ u ih =>
    intro s τ hs hτ hf
    rw [qM_load_89, if_pos (by rw [hτ.sl (a := 305) (k := 6) rfl]; omega), hτ.sl (a := 305) (k := 0) rfl, xw_id (x := 10 + h) (by omega) (by omega), M_manyAt (bk_B_ag hτ hP.2.2.1.1)]
    simp only [Option.bind_some]
    rw [qM_load_122, if_pos (xin_of (by omega) (by omega)), Int.toNat_natCast, xw_s (by omega), bk_many_ag hτ, (ld_n_le hP.2.2.1.1 h s).1]
    refine ih (s + 1) _ (by omega) (ag_tr hτ (ag_sS rfl)) fun x hx => ?_
    rw [xs_at, xup_at]
    by_cases e : x = s
    · rw [if_pos e, e]
    · rw [if_neg e]
      exact hf x (by omega)
theorem ld_sh (hP : pJ σ.1) (h : Int) : sh (ld_n σ.1 h) (σ.1 305 6).toNat ≤ 150 := by
  have h1 := bk_sum (m := σ.1) (P := 10 + h) (d := σ.1 305 0) (k := σ.1 305 0) (N := (σ.1 305 6).toNat) (n := (σ.1 305 15).toNat)
  have h2 := sh_si (h := ld_n σ.1 h) (f := fun s => bk_my σ.1 (10 + h) s (σ.1 305 0) (σ.1 305 0) (σ.1 305 15).toNat) (n := (σ.1 305 6).toNat) fun s _ => (ld_n_le hP.2.2.1.1 h s).1
  have h3 := hP.2.2.1.1.2
  omega
theorem sh_mono {h : Nat → Nat} {n : Nat} : ∀ {k : Nat}, sh h n ≤ sh h (n + k)
  | 0 => Nat.le_refl _
  | k + 1 => Nat.le_trans (sh_mono (k := k)) (Nat.le_add_right _ _)
theorem ld_bd (hP : pJ σ.1) (h vb : Int) (s : Nat) (hs : s ≤ (σ.1 305 6).toNat) (n : Nat) : tw (wy (ld_g σ.1) (ld_n σ.1 h) vb s) 0 n < 2147483648 := by
  have h6 := hP.1.2.1
  refine Nat.lt_of_le_of_lt tw_wy (pr_lt (by omega) (fun x _ => (ld_n_le hP.2.2.1.1 h x).2) ?_)
  obtain ⟨k, hk⟩ : ∃ k, (σ.1 305 6).toNat = s + k := ⟨(σ.1 305 6).toNat - s, by omega⟩
  have := ld_sh hP h
  rw [hk] at this
  exact Nat.le_trans sh_mono this
theorem ld_bd1 (hP : pJ σ.1) (h vb : Int) (s t : Nat) (hs : s ≤ (σ.1 305 6).toNat) : wy (ld_g σ.1) (ld_n σ.1 h) vb s t < 2147483648 :=
  Nat.lt_of_le_of_lt (tw_one (Nat.lt_succ_self t)) (ld_bd hP h vb s hs (t + 1))
end LOADX

/-! the reference's writers -/
section MWR
variable {σ τ υ : xS}
def isld (c : Nat) : Bool := (Nat.ble 97 c && Nat.ble c 122) || (Nat.ble 48 c && Nat.ble c 57)
/-- whether the last is a letter or a digit -/
def lld : List Nat → Bool
  | [] => false
  | [c] => isld c
  | _ :: d :: l => lld (d :: l)
theorem lld_snoc (c : Nat) : ∀ l : List Nat, lld (l ++ [c]) = isld c
  | [] => rfl
  | [_] => rfl
  | _ :: d :: l => lld_snoc c (d :: l)
/-- the reference's text so far -/
def wo2 (m : Nat → Nat → Int) (l : List Nat) : Prop := m 305 92 = (l.length : Int) ∧ ∀ i, i < l.length → m 370 i = ((l.getD i 0 : Nat) : Int)
def wo (m : Nat → Nat → Int) (l : List Nat) : Prop := wo2 m l ∧ m 305 93 = (if lld l = true then 1 else 0)
/-- the writer's own alone -/
def wfr1 (σ τ : xS) : Prop := τ.2 = σ.2 ∧ (∀ a, a ≠ 305 → a ≠ 370 → τ.1 a = σ.1 a) ∧ ∀ k, k ≠ 92 → k ≠ 93 → τ.1 305 k = σ.1 305 k
theorem wfr1_rf : wfr1 σ σ := ⟨rfl, fun _ _ _ => rfl, fun _ _ _ => rfl⟩
theorem wfr1_tr (h : wfr1 σ τ) (k : wfr1 τ υ) : wfr1 σ υ := ⟨k.1.trans h.1, fun a h1 h2 => (k.2.1 a h1 h2).trans (h.2.1 a h1 h2), fun i h1 h2 => (k.2.2 i h1 h2).trans (h.2.2 i h1 h2)⟩
theorem wfr1_s {a k : Nat} (h : a = 370 ∨ (a = 305 ∧ (k = 92 ∨ k = 93))) (v : Int) : wfr1 σ (xs σ a k v) := ⟨rfl, fun b h1 h2 => by rw [xs_ne (by omega)], fun i h1 h2 => by
  by_cases e : a = 305
  · rw [e, xs_at, xup_ne (by omega)]
  · rw [xs_ne (by omega)]⟩
theorem wo2_put {l : List Nat} (h : wo2 σ.1 l) (c : Nat) : wo2 (xs (xs σ 370 l.length (c : Int)) 305 92 ((l.length + 1 : Nat) : Int)).1 (l ++ [c]) := by
  have el : (l ++ [c]).length = l.length + 1 := List.length_append
  refine ⟨by rw [xs_at, xup_eq, el], fun i hi => ?_⟩
  rw [el] at hi
  rw [xs_ne (by decide), xs_at, xup_at, getD_snoc l i hi]
  by_cases e : i = l.length
  · rw [if_pos e, if_pos e]
  · rw [if_neg e, if_neg e]; exact h.2 i (by omega)
theorem wo2_93 {l : List Nat} (h : wo2 σ.1 l) (v : Int) : wo2 (xs σ 305 93 v).1 l := ⟨by rw [xs_at, xup_ne (by decide)]; exact h.1, fun i hi => by rw [xs_ne (by decide)]; exact h.2 i hi⟩
theorem M_wS {l : List Nat} (h : wo σ.1 l) {c : Nat} (hc : c < 128) (hn : isld c = false) (hl : l.length < 1400) : ∃ τ, X iM_writesSign 0 [(2, 305), (0, (c : Int))] [] σ = some ((9, 0), τ) ∧ wo τ.1 (l ++ [c]) ∧ wfr1 σ τ := by
  refine ⟨xs (xs (xs σ 370 l.length (c : Int)) 305 92 ((l.length + 1 : Nat) : Int)) 305 93 0, ?_, ⟨wo2_93 (wo2_put h.1 c) 0, ?_⟩, wfr1_tr (wfr1_tr (wfr1_s (Or.inl rfl) _) (wfr1_s (Or.inr ⟨rfl, Or.inl rfl⟩) _)) (wfr1_s (Or.inr ⟨rfl, Or.inr rfl⟩) _)⟩
  · have e1 : xw ((l.length : Int) + 1) = ((l.length + 1 : Nat) : Int) := by rw [xw_id (by omega) (by omega)]; omega
    rw [qM_writesSign_0, h.1.1, if_pos (xin_of (by omega) (by omega)), xna2_c c hc, xna2_c c hc, e1, Int.toNat_natCast]
  · rw [xs_at, xup_eq, lld_snoc, hn]; rfl
/-- digits of v, so many -/
def dgs (b off v : Int) : Nat → List Nat
  | 0 => []
  | k + 1 => (Int.tmod (Int.tdiv v (pw b k)) b + off).toNat :: dgs b off v k
theorem dgs_len {b off v : Int} : ∀ k, (dgs b off v k).length = k
  | 0 => rfl
  | k + 1 => congrArg (· + 1) (dgs_len k)
theorem pwm_Word : ∀ a c : Nat, a ≤ c → c ≤ 8 → pw 27 a ≤ pw 27 c := by
  have : ∀ c : Nat, c < 9 → ∀ a : Nat, a < 9 → a ≤ c → pw 27 a ≤ pw 27 c := by decide
  exact fun a c h1 h2 => this c (by omega) a (by omega) h1
theorem pwm_Number : ∀ a c : Nat, a ≤ c → c ≤ 9 → pw 10 a ≤ pw 10 c := by
  have : ∀ c : Nat, c < 10 → ∀ a : Nat, a < 10 → a ≤ c → pw 10 a ≤ pw 10 c := by decide
  exact fun a c h1 h2 => this c (by omega) a (by omega) h1
theorem pwb_Word : ∀ k : Nat, k ≤ 8 → 1 ≤ pw 27 k ∧ pw 27 k ≤ 282429536481 := by decide
theorem M_wWord_25 {v : Int} (hv : 0 ≤ v ∧ v < 282429536481) : ∀ (k : Nat) (σ : xS) (l : List Nat), k < 8 → wo2 σ.1 l → l.length + k + 1 ≤ 1400 → ∃ τ, X iM_writesWord 25 [(2, 305), (1, v), (8, 0), (1, pw 27 k), (8, 0)] [] σ = some ((9, 0), τ) ∧ wo2 τ.1 (l ++ dgs 27 96 v (k + 1)) ∧ wfr1 σ τ ∧ τ.1 305 93 = σ.1 305 93 := by
  intro k
  induction k with
  | zero =>
    intro σ l hk h hl
    have hp : pw 27 0 = 1 := rfl
    have hd := Int.tmod_nonneg (a := Int.tdiv v 1) 27 (by rw [Int.tdiv_one]; exact hv.1)
    have hd2 := Int.tmod_lt_of_pos (Int.tdiv v 1) (show (0 : Int) < 27 by decide)
    have e0 : xW (Int.tdiv v 1) = Int.tdiv v 1 := by rw [Int.tdiv_one, xW_id (by omega) (by omega)]
    have e1 : xw ((l.length : Int) + 1) = ((l.length + 1 : Nat) : Int) := by rw [xw_id (by omega) (by omega)]; omega
    generalize hD : Int.tmod (Int.tdiv v 1) 27 = D at hd hd2
    have e2 : xna 2 (xna 2 (xw (96 + xw D))) = (((D + 96).toNat : Nat) : Int) := by
      rw [xw_id (x := D) (by omega) (by omega), xw_id (by omega) (by omega)]
      have : (96 + D : Int) = (((D + 96).toNat : Nat) : Int) := by omega
      rw [this, xna2_c _ (by omega), xna2_c _ (by omega)]
    have e3 : xW (Int.tdiv 1 27) = 0 := rfl
    refine ⟨xs (xs σ 370 l.length (((D + 96).toNat : Nat) : Int)) 305 92 ((l.length + 1 : Nat) : Int), ?_, ?_, wfr1_tr (wfr1_s (Or.inl rfl) _) (wfr1_s (Or.inr ⟨rfl, Or.inl rfl⟩) _), ?_⟩
    · rw [hp, qM_writesWord_25, if_pos (by decide), if_neg (by decide), h.1, if_pos (xin_of (by omega) (by omega)), e0, hD, e2, e1, e3, Int.toNat_natCast, qM_writesWord_25, if_neg (by decide)]
    · have : dgs 27 96 v (0 + 1) = [(D + 96).toNat] := by
        show (Int.tmod (Int.tdiv v (pw 27 0)) 27 + 96).toNat :: [] = _
        rw [hp, hD]
      rw [this]
      exact wo2_put h _
    · rw [xs_at, xup_ne (by decide), xs_ne (by decide)]
  | succ k ih =>
    intro σ l hk h hl
    obtain ⟨p1, p2⟩ := pwb_Word (k + 1) (by omega)
    have hdv : 0 ≤ Int.tdiv v (pw 27 (k + 1)) := Int.tdiv_nonneg hv.1 (by omega)
    have hdv2 : Int.tdiv v (pw 27 (k + 1)) ≤ v := Int.tdiv_le_self _ hv.1
    have hd := Int.tmod_nonneg (a := Int.tdiv v (pw 27 (k + 1))) 27 hdv
    have hd2 := Int.tmod_lt_of_pos (Int.tdiv v (pw 27 (k + 1))) (show (0 : Int) < 27 by decide)
    have e0 : xW (Int.tdiv v (pw 27 (k + 1))) = Int.tdiv v (pw 27 (k + 1)) := xW_id (by omega) (by omega)
    have e1 : xw ((l.length : Int) + 1) = ((l.length + 1 : Nat) : Int) := by rw [xw_id (by omega) (by omega)]; omega
    generalize hD : Int.tmod (Int.tdiv v (pw 27 (k + 1))) 27 = D at hd hd2
    have e2 : xna 2 (xna 2 (xw (96 + xw D))) = (((D + 96).toNat : Nat) : Int) := by
      rw [xw_id (x := D) (by omega) (by omega), xw_id (by omega) (by omega)]
      have : (96 + D : Int) = (((D + 96).toNat : Nat) : Int) := by omega
      rw [this, xna2_c _ (by omega), xna2_c _ (by omega)]
    have e3 : xW (Int.tdiv (pw 27 (k + 1)) 27) = pw 27 k := by
      have : pw 27 (k + 1) = pw 27 k * 27 := rfl
      obtain ⟨r1, r2⟩ := pwb_Word k (by omega)
      rw [this, Int.mul_tdiv_cancel _ (by decide), xW_id (by omega) (by omega)]
    have ew := wo2_put h (D + 96).toNat
    obtain ⟨τ, k1, k2, k3, k4⟩ := ih _ _ (by omega) ew (by rw [List.length_append]; show l.length + 1 + k + 1 ≤ 1400; omega)
    refine ⟨τ, ?_, ?_, wfr1_tr (wfr1_tr (wfr1_s (Or.inl rfl) _) (wfr1_s (Or.inr ⟨rfl, Or.inl rfl⟩) _)) k3, ?_⟩
    · rw [qM_writesWord_25, if_pos (by omega), if_neg (by omega), h.1, if_pos (xin_of (by omega) (by omega)), e0, hD, e2, e1, e3, Int.toNat_natCast]
      exact k1
    · have : dgs 27 96 v (k + 1 + 1) = (D + 96).toNat :: dgs 27 96 v (k + 1) := by
        show (Int.tmod (Int.tdiv v (pw 27 (k + 1))) 27 + 96).toNat :: _ = _
        rw [hD]
      rw [this]
      rw [List.append_assoc] at k2
      exact k2
    · rw [k4, xs_at, xup_ne (by decide), xs_ne (by decide)]
theorem M_wWord_6 {v : Int} {K : Nat} (hK : K < 8) (h1 : K = 0 ∨ pw 27 K ≤ v) (h2 : 0 ≤ v ∧ v < pw 27 (K + 1)) : ∀ (d k : Nat) (σ : xS), k + d = K → X iM_writesWord 6 [(2, 305), (1, v), (8, 0), (1, pw 27 k), (8, 0)] [] σ = X iM_writesWord 25 [(2, 305), (1, v), (8, 0), (1, pw 27 K), (8, 0)] [] σ
  | 0, k, σ, e => by
    have ek : k = K := by omega
    subst ek
    obtain ⟨p1, p2⟩ := pwb_Word k (by omega)
    obtain ⟨p3, p4⟩ := pwb_Word (k + 1) (by omega)
    have e1 : pw 27 (k + 1) = pw 27 k * 27 := rfl
    have hdv : Int.tdiv v (pw 27 k) < 27 := by
      rw [Int.tdiv_eq_ediv_of_nonneg h2.1]
      exact Int.ediv_lt_of_lt_mul (by omega) (by rw [Int.mul_comm, ← e1]; exact h2.2)
    have hdv0 : 0 ≤ Int.tdiv v (pw 27 k) := Int.tdiv_nonneg h2.1 (by omega)
    rw [qM_writesWord_6, if_neg (by omega), xW_id (by omega) (by omega), if_pos hdv]
  | d + 1, k, σ, e => by
    obtain ⟨p1, p2⟩ := pwb_Word k (by omega)
    obtain ⟨p3, p4⟩ := pwb_Word (k + 1) (by omega)
    obtain ⟨p5, p6⟩ := pwb_Word (K + 1) (by omega)
    have e1 : pw 27 (k + 1) = pw 27 k * 27 := rfl
    have hm : pw 27 (k + 1) ≤ pw 27 K := pwm_Word (k + 1) K (by omega) (by omega)
    have hv : pw 27 k * 27 ≤ v := by
      rcases h1 with h | h
      · omega
      · omega
    have hdv : 27 ≤ Int.tdiv v (pw 27 k) := by
      rw [Int.tdiv_eq_ediv_of_nonneg h2.1]
      exact Int.le_ediv_of_mul_le (by omega) (by rw [Int.mul_comm]; exact hv)
    have hdv2 : Int.tdiv v (pw 27 k) ≤ v := Int.tdiv_le_self _ h2.1
    have ih := M_wWord_6 hK h1 h2 d (k + 1) σ (by omega)
    rw [qM_writesWord_6, if_neg (by omega), xW_id (by omega) (by omega), if_neg (by omega), ← e1, xW_id (by omega) (by omega)]
    exact ih
/-- a blank where a word or a number stands ahead, then the digits -/
theorem M_wWord {l : List Nat} (h : wo σ.1 l) {v : Int} {K : Nat} (hK : K < 8) (h1 : K = 0 ∨ pw 27 K ≤ v) (h2 : 0 ≤ v ∧ v < pw 27 (K + 1)) (hl : l.length + K + 2 ≤ 1400) (hd : lld ((if lld l = true then l ++ [32] else l) ++ dgs 27 96 v (K + 1)) = true) : ∃ τ, X iM_writesWord 0 [(2, 305), (1, v), (8, 0), (9, 0), (9, 0)] [] σ = some ((9, 0), τ) ∧ wo τ.1 ((if lld l = true then l ++ [32] else l) ++ dgs 27 96 v (K + 1)) ∧ wfr1 σ τ := by
  obtain ⟨p5, p6⟩ := pwb_Word (K + 1) (by omega)
  have hv : 0 ≤ v ∧ v < 282429536481 := by omega
  have fin : ∀ (υ : xS) (l' : List Nat), wo2 υ.1 l' → υ.1 305 93 = 1 → l'.length + K + 1 ≤ 1400 → lld (l' ++ dgs 27 96 v (K + 1)) = true → ∃ τ, X iM_writesWord 6 [(2, 305), (1, v), (8, 0), (1, 1), (8, 0)] [] υ = some ((9, 0), τ) ∧ wo τ.1 (l' ++ dgs 27 96 v (K + 1)) ∧ wfr1 υ τ := fun υ l' w1 w2 w3 w4 => by
    have e6 := M_wWord_6 hK h1 h2 K 0 υ (by omega)
    obtain ⟨τ, k1, k2, k3, k4⟩ := M_wWord_25 hv K υ l' hK w1 (by omega)
    refine ⟨τ, ?_, ⟨k2, by rw [k4, w2, w4]; rfl⟩, k3⟩
    have : pw 27 0 = 1 := rfl
    rw [this] at e6
    rw [e6, k1]
  by_cases hq : lld l = true
  · rw [if_pos hq] at hd ⊢
    have h93 : σ.1 305 93 = 1 := by rw [h.2, if_pos hq]
    have e1 : xw ((l.length : Int) + 1) = ((l.length + 1 : Nat) : Int) := by rw [xw_id (by omega) (by omega)]; omega
    have ew := wo2_put h.1 32
    obtain ⟨τ, k1, k2, k3⟩ := fin (xs (xs (xs (xs σ 370 l.length 32) 305 92 ((l.length + 1 : Nat) : Int)) 305 93 0) 305 93 1) (l ++ [32]) (wo2_93 (wo2_93 ew 0) 1) (by rw [xs_at, xup_eq]) (by rw [List.length_append]; show l.length + 1 + K + 1 ≤ 1400; omega) hd
    refine ⟨τ, ?_, k2, wfr1_tr (wfr1_tr (wfr1_tr (wfr1_tr (wfr1_s (Or.inl rfl) _) (wfr1_s (Or.inr ⟨rfl, Or.inl rfl⟩) _)) (wfr1_s (Or.inr ⟨rfl, Or.inr rfl⟩) _)) (wfr1_s (Or.inr ⟨rfl, Or.inr rfl⟩) _)) k3⟩
    rw [qM_writesWord_0, h93, if_neg (show ¬ xna 4 1 = 0 by decide), h.1.1, if_pos (xin_of (by omega) (by omega)), e1, Int.toNat_natCast]
    exact k1
  · rw [if_neg hq] at hd ⊢
    have h93 : σ.1 305 93 = 0 := by rw [h.2, if_neg hq]
    obtain ⟨τ, k1, k2, k3⟩ := fin (xs σ 305 93 1) l (wo2_93 h.1 1) (by rw [xs_at, xup_eq]) (by omega) hd
    refine ⟨τ, ?_, k2, wfr1_tr (wfr1_s (Or.inr ⟨rfl, Or.inr rfl⟩) _) k3⟩
    rw [qM_writesWord_0, h93, if_pos (show xna 4 0 = 0 from rfl)]
    exact k1
theorem pwb_Number : ∀ k : Nat, k ≤ 9 → 1 ≤ pw 10 k ∧ pw 10 k ≤ 1000000000 := by decide
theorem M_wNumber_25 {v : Int} (hv : 0 ≤ v ∧ v < 1000000000) : ∀ (k : Nat) (σ : xS) (l : List Nat), k < 9 → wo2 σ.1 l → l.length + k + 1 ≤ 1400 → ∃ τ, X iM_writesNumber 25 [(2, 305), (1, v), (8, 0), (1, pw 10 k), (8, 0)] [] σ = some ((9, 0), τ) ∧ wo2 τ.1 (l ++ dgs 10 48 v (k + 1)) ∧ wfr1 σ τ ∧ τ.1 305 93 = σ.1 305 93 := by
  intro k
  induction k with
  | zero =>
    intro σ l hk h hl
    have hp : pw 10 0 = 1 := rfl
    have hd := Int.tmod_nonneg (a := Int.tdiv v 1) 10 (by rw [Int.tdiv_one]; exact hv.1)
    have hd2 := Int.tmod_lt_of_pos (Int.tdiv v 1) (show (0 : Int) < 10 by decide)
    have e0 : xW (Int.tdiv v 1) = Int.tdiv v 1 := by rw [Int.tdiv_one, xW_id (by omega) (by omega)]
    have e1 : xw ((l.length : Int) + 1) = ((l.length + 1 : Nat) : Int) := by rw [xw_id (by omega) (by omega)]; omega
    generalize hD : Int.tmod (Int.tdiv v 1) 10 = D at hd hd2
    have e2 : xna 2 (xna 2 (xw (48 + xw D))) = (((D + 48).toNat : Nat) : Int) := by
      rw [xw_id (x := D) (by omega) (by omega), xw_id (by omega) (by omega)]
      have : (48 + D : Int) = (((D + 48).toNat : Nat) : Int) := by omega
      rw [this, xna2_c _ (by omega), xna2_c _ (by omega)]
    have e3 : xW (Int.tdiv 1 10) = 0 := rfl
    refine ⟨xs (xs σ 370 l.length (((D + 48).toNat : Nat) : Int)) 305 92 ((l.length + 1 : Nat) : Int), ?_, ?_, wfr1_tr (wfr1_s (Or.inl rfl) _) (wfr1_s (Or.inr ⟨rfl, Or.inl rfl⟩) _), ?_⟩
    · rw [hp, qM_writesNumber_25, if_pos (by decide), if_neg (by decide), h.1, if_pos (xin_of (by omega) (by omega)), e0, hD, e2, e1, e3, Int.toNat_natCast, qM_writesNumber_25, if_neg (by decide)]
    · have : dgs 10 48 v (0 + 1) = [(D + 48).toNat] := by
        show (Int.tmod (Int.tdiv v (pw 10 0)) 10 + 48).toNat :: [] = _
        rw [hp, hD]
      rw [this]
      exact wo2_put h _
    · rw [xs_at, xup_ne (by decide), xs_ne (by decide)]
  | succ k ih =>
    intro σ l hk h hl
    obtain ⟨p1, p2⟩ := pwb_Number (k + 1) (by omega)
    have hdv : 0 ≤ Int.tdiv v (pw 10 (k + 1)) := Int.tdiv_nonneg hv.1 (by omega)
    have hdv2 : Int.tdiv v (pw 10 (k + 1)) ≤ v := Int.tdiv_le_self _ hv.1
    have hd := Int.tmod_nonneg (a := Int.tdiv v (pw 10 (k + 1))) 10 hdv
    have hd2 := Int.tmod_lt_of_pos (Int.tdiv v (pw 10 (k + 1))) (show (0 : Int) < 10 by decide)
    have e0 : xW (Int.tdiv v (pw 10 (k + 1))) = Int.tdiv v (pw 10 (k + 1)) := xW_id (by omega) (by omega)
    have e1 : xw ((l.length : Int) + 1) = ((l.length + 1 : Nat) : Int) := by rw [xw_id (by omega) (by omega)]; omega
    generalize hD : Int.tmod (Int.tdiv v (pw 10 (k + 1))) 10 = D at hd hd2
    have e2 : xna 2 (xna 2 (xw (48 + xw D))) = (((D + 48).toNat : Nat) : Int) := by
      rw [xw_id (x := D) (by omega) (by omega), xw_id (by omega) (by omega)]
      have : (48 + D : Int) = (((D + 48).toNat : Nat) : Int) := by omega
      rw [this, xna2_c _ (by omega), xna2_c _ (by omega)]
    have e3 : xW (Int.tdiv (pw 10 (k + 1)) 10) = pw 10 k := by
      have : pw 10 (k + 1) = pw 10 k * 10 := rfl
      obtain ⟨r1, r2⟩ := pwb_Number k (by omega)
      rw [this, Int.mul_tdiv_cancel _ (by decide), xW_id (by omega) (by omega)]
    have ew := wo2_put h (D + 48).toNat
    obtain ⟨τ, k1, k2, k3, k4⟩ := ih _ _ (by omega) ew (by rw [List.length_append]; show l.length + 1 + k + 1 ≤ 1400; omega)
    refine ⟨τ, ?_, ?_, wfr1_tr (wfr1_tr (wfr1_s (Or.inl rfl) _) (wfr1_s (Or.inr ⟨rfl, Or.inl rfl⟩) _)) k3, ?_⟩
    · rw [qM_writesNumber_25, if_pos (by omega), if_neg (by omega), h.1, if_pos (xin_of (by omega) (by omega)), e0, hD, e2, e1, e3, Int.toNat_natCast]
      exact k1
    · have : dgs 10 48 v (k + 1 + 1) = (D + 48).toNat :: dgs 10 48 v (k + 1) := by
        show (Int.tmod (Int.tdiv v (pw 10 (k + 1))) 10 + 48).toNat :: _ = _
        rw [hD]
      rw [this]
      rw [List.append_assoc] at k2
      exact k2
    · rw [k4, xs_at, xup_ne (by decide), xs_ne (by decide)]
theorem M_wNumber_6 {v : Int} {K : Nat} (hK : K < 9) (h1 : K = 0 ∨ pw 10 K ≤ v) (h2 : 0 ≤ v ∧ v < pw 10 (K + 1)) : ∀ (d k : Nat) (σ : xS), k + d = K → X iM_writesNumber 6 [(2, 305), (1, v), (8, 0), (1, pw 10 k), (8, 0)] [] σ = X iM_writesNumber 25 [(2, 305), (1, v), (8, 0), (1, pw 10 K), (8, 0)] [] σ
  | 0, k, σ, e => by
    have ek : k = K := by omega
    subst ek
    obtain ⟨p1, p2⟩ := pwb_Number k (by omega)
    obtain ⟨p3, p4⟩ := pwb_Number (k + 1) (by omega)
    have e1 : pw 10 (k + 1) = pw 10 k * 10 := rfl
    have hdv : Int.tdiv v (pw 10 k) < 10 := by
      rw [Int.tdiv_eq_ediv_of_nonneg h2.1]
      exact Int.ediv_lt_of_lt_mul (by omega) (by rw [Int.mul_comm, ← e1]; exact h2.2)
    have hdv0 : 0 ≤ Int.tdiv v (pw 10 k) := Int.tdiv_nonneg h2.1 (by omega)
    rw [qM_writesNumber_6, if_neg (by omega), xW_id (by omega) (by omega), if_pos hdv]
  | d + 1, k, σ, e => by
    obtain ⟨p1, p2⟩ := pwb_Number k (by omega)
    obtain ⟨p3, p4⟩ := pwb_Number (k + 1) (by omega)
    obtain ⟨p5, p6⟩ := pwb_Number (K + 1) (by omega)
    have e1 : pw 10 (k + 1) = pw 10 k * 10 := rfl
    have hm : pw 10 (k + 1) ≤ pw 10 K := pwm_Number (k + 1) K (by omega) (by omega)
    have hv : pw 10 k * 10 ≤ v := by
      rcases h1 with h | h
      · omega
      · omega
    have hdv : 10 ≤ Int.tdiv v (pw 10 k) := by
      rw [Int.tdiv_eq_ediv_of_nonneg h2.1]
      exact Int.le_ediv_of_mul_le (by omega) (by rw [Int.mul_comm]; exact hv)
    have hdv2 : Int.tdiv v (pw 10 k) ≤ v := Int.tdiv_le_self _ h2.1
    have ih := M_wNumber_6 hK h1 h2 d (k + 1) σ (by omega)
    rw [qM_writesNumber_6, if_neg (by omega), xW_id (by omega) (by omega), if_neg (by omega), ← e1, xW_id (by omega) (by omega)]
    exact ih
/-- a blank where a word or a number stands ahead, then the digits -/
theorem M_wNumber {l : List Nat} (h : wo σ.1 l) {v : Int} {K : Nat} (hK : K < 9) (h1 : K = 0 ∨ pw 10 K ≤ v) (h2 : 0 ≤ v ∧ v < pw 10 (K + 1)) (hl : l.length + K + 2 ≤ 1400) (hd : lld ((if lld l = true then l ++ [32] else l) ++ dgs 10 48 v (K + 1)) = true) : ∃ τ, X iM_writesNumber 0 [(2, 305), (1, v), (8, 0), (9, 0), (9, 0)] [] σ = some ((9, 0), τ) ∧ wo τ.1 ((if lld l = true then l ++ [32] else l) ++ dgs 10 48 v (K + 1)) ∧ wfr1 σ τ := by
  obtain ⟨p5, p6⟩ := pwb_Number (K + 1) (by omega)
  have hv : 0 ≤ v ∧ v < 1000000000 := by omega
  have fin : ∀ (υ : xS) (l' : List Nat), wo2 υ.1 l' → υ.1 305 93 = 1 → l'.length + K + 1 ≤ 1400 → lld (l' ++ dgs 10 48 v (K + 1)) = true → ∃ τ, X iM_writesNumber 6 [(2, 305), (1, v), (8, 0), (1, 1), (8, 0)] [] υ = some ((9, 0), τ) ∧ wo τ.1 (l' ++ dgs 10 48 v (K + 1)) ∧ wfr1 υ τ := fun υ l' w1 w2 w3 w4 => by
    have e6 := M_wNumber_6 hK h1 h2 K 0 υ (by omega)
    obtain ⟨τ, k1, k2, k3, k4⟩ := M_wNumber_25 hv K υ l' hK w1 (by omega)
    refine ⟨τ, ?_, ⟨k2, by rw [k4, w2, w4]; rfl⟩, k3⟩
    have : pw 10 0 = 1 := rfl
    rw [this] at e6
    rw [e6, k1]
  by_cases hq : lld l = true
  · rw [if_pos hq] at hd ⊢
    have h93 : σ.1 305 93 = 1 := by rw [h.2, if_pos hq]
    have e1 : xw ((l.length : Int) + 1) = ((l.length + 1 : Nat) : Int) := by rw [xw_id (by omega) (by omega)]; omega
    have ew := wo2_put h.1 32
    obtain ⟨τ, k1, k2, k3⟩ := fin (xs (xs (xs (xs σ 370 l.length 32) 305 92 ((l.length + 1 : Nat) : Int)) 305 93 0) 305 93 1) (l ++ [32]) (wo2_93 (wo2_93 ew 0) 1) (by rw [xs_at, xup_eq]) (by rw [List.length_append]; show l.length + 1 + K + 1 ≤ 1400; omega) hd
    refine ⟨τ, ?_, k2, wfr1_tr (wfr1_tr (wfr1_tr (wfr1_tr (wfr1_s (Or.inl rfl) _) (wfr1_s (Or.inr ⟨rfl, Or.inl rfl⟩) _)) (wfr1_s (Or.inr ⟨rfl, Or.inr rfl⟩) _)) (wfr1_s (Or.inr ⟨rfl, Or.inr rfl⟩) _)) k3⟩
    rw [qM_writesNumber_0, h93, if_neg (show ¬ xna 4 1 = 0 by decide), h.1.1, if_pos (xin_of (by omega) (by omega)), e1, Int.toNat_natCast]
    exact k1
  · rw [if_neg hq] at hd ⊢
    have h93 : σ.1 305 93 = 0 := by rw [h.2, if_neg hq]
    obtain ⟨τ, k1, k2, k3⟩ := fin (xs σ 305 93 1) l (wo2_93 h.1 1) (by rw [xs_at, xup_eq]) (by omega) hd
    refine ⟨τ, ?_, k2, wfr1_tr (wfr1_s (Or.inr ⟨rfl, Or.inr rfl⟩) _) k3⟩
    rw [qM_writesNumber_0, h93, if_pos (show xna 4 0 = 0 from rfl)]
    exact k1
end MWR

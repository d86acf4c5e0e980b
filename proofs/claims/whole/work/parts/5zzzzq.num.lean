/-! numbers and words for a StringBuilder -/
section NUM
variable {σ0 σ τ υ : xS} {l : List Nat}
theorem xw_ng {V : Nat} (h : V < 2000000000) : xw (-(V : Int)) = -(V : Int) := xw_id (by omega) (by omega)
theorem xw_nn {V : Nat} (h : V < 2000000000) : xw (-(-(V : Int))) = (V : Int) := by rw [Int.neg_neg, xw_id (by omega) (by omega)]
theorem xw_m1 {p : Nat} (h : 1 ≤ p ∧ p < 100000) : xw ((p : Int) + -1) = ((p - 1 : Nat) : Int) := by rw [xw_id (by omega) (by omega)]; omega
theorem xw_P {p : Nat} (h : 1 ≤ p ∧ p < 100000) : xw ((p : Int) - 1) = ((p - 1 : Nat) : Int) := by rw [xw_id (by omega) (by omega)]; omega
theorem xw_PL {a b : Nat} (h : a + b < 100000) : xw ((a : Int) + (b : Int)) = ((a + b : Nat) : Int) := by rw [xw_id (by omega) (by omega)]; omega
theorem dgt {i : Nat} (hi : i < 100) : xag xE1 σ 140 i = ((48 + i % 10 : Nat) : Int) ∧ xag xE1 σ 141 i = ((48 + i / 10 : Nat) : Int) := by
  have h : ∀ i : Nat, i < 100 → xct xE1 140 i = some ((48 + i % 10 : Nat) : Int) ∧ xct xE1 141 i = some ((48 + i / 10 : Nat) : Int) := by decide +kernel
  obtain ⟨h1, h2⟩ := h i hi
  constructor
  · show (match xct xE1 140 i with
      | some v => v
      | none => xg σ 140 i) = _
    rw [h1]
  · show (match xct xE1 141 i with
      | some v => v
      | none => xg σ 141 i) = _
    rw [h2]
theorem jsz_9 {V : Nat} (h : 100000000 ≤ V ∧ V ≤ 999999999) : X iJI_stringSize 16 [(0, -(V : Int)), (0, 0), (0, -1000000000), (0, 9)] [] σ = some ((0, (d10 (V : Int) : Int)), σ) := by
  have e : d10 (V : Int) = 9 := by unfold d10; rw [if_neg (by omega), if_neg (by omega), if_neg (by omega), if_neg (by omega), if_neg (by omega), if_neg (by omega), if_neg (by omega), if_neg (by omega)]
  rw [qJI_stringSize_16, if_pos (show (9 : Int) < 10 by decide), if_pos (by omega), e]; rfl
theorem jsz_8 {V : Nat} (h : 10000000 ≤ V ∧ V ≤ 999999999) : X iJI_stringSize 16 [(0, -(V : Int)), (0, 0), (0, -100000000), (0, 8)] [] σ = some ((0, (d10 (V : Int) : Int)), σ) := by
  by_cases q : V < 100000000
  · have e : d10 (V : Int) = 8 := by unfold d10; rw [if_neg (by omega), if_neg (by omega), if_neg (by omega), if_neg (by omega), if_neg (by omega), if_neg (by omega), if_neg (by omega), if_pos (by omega)]
    rw [qJI_stringSize_16, if_pos (show (8 : Int) < 10 by decide), if_pos (by omega), e]; rfl
  · rw [qJI_stringSize_16, if_pos (show (8 : Int) < 10 by decide), if_neg (by omega)]
    exact jsz_9 ⟨by omega, by omega⟩
theorem jsz_7 {V : Nat} (h : 1000000 ≤ V ∧ V ≤ 999999999) : X iJI_stringSize 16 [(0, -(V : Int)), (0, 0), (0, -10000000), (0, 7)] [] σ = some ((0, (d10 (V : Int) : Int)), σ) := by
  by_cases q : V < 10000000
  · have e : d10 (V : Int) = 7 := by unfold d10; rw [if_neg (by omega), if_neg (by omega), if_neg (by omega), if_neg (by omega), if_neg (by omega), if_neg (by omega), if_pos (by omega)]
    rw [qJI_stringSize_16, if_pos (show (7 : Int) < 10 by decide), if_pos (by omega), e]; rfl
  · rw [qJI_stringSize_16, if_pos (show (7 : Int) < 10 by decide), if_neg (by omega)]
    exact jsz_8 ⟨by omega, by omega⟩
theorem jsz_6 {V : Nat} (h : 100000 ≤ V ∧ V ≤ 999999999) : X iJI_stringSize 16 [(0, -(V : Int)), (0, 0), (0, -1000000), (0, 6)] [] σ = some ((0, (d10 (V : Int) : Int)), σ) := by
  by_cases q : V < 1000000
  · have e : d10 (V : Int) = 6 := by unfold d10; rw [if_neg (by omega), if_neg (by omega), if_neg (by omega), if_neg (by omega), if_neg (by omega), if_pos (by omega)]
    rw [qJI_stringSize_16, if_pos (show (6 : Int) < 10 by decide), if_pos (by omega), e]; rfl
  · rw [qJI_stringSize_16, if_pos (show (6 : Int) < 10 by decide), if_neg (by omega)]
    exact jsz_7 ⟨by omega, by omega⟩
theorem jsz_5 {V : Nat} (h : 10000 ≤ V ∧ V ≤ 999999999) : X iJI_stringSize 16 [(0, -(V : Int)), (0, 0), (0, -100000), (0, 5)] [] σ = some ((0, (d10 (V : Int) : Int)), σ) := by
  by_cases q : V < 100000
  · have e : d10 (V : Int) = 5 := by unfold d10; rw [if_neg (by omega), if_neg (by omega), if_neg (by omega), if_neg (by omega), if_pos (by omega)]
    rw [qJI_stringSize_16, if_pos (show (5 : Int) < 10 by decide), if_pos (by omega), e]; rfl
  · rw [qJI_stringSize_16, if_pos (show (5 : Int) < 10 by decide), if_neg (by omega)]
    exact jsz_6 ⟨by omega, by omega⟩
theorem jsz_4 {V : Nat} (h : 1000 ≤ V ∧ V ≤ 999999999) : X iJI_stringSize 16 [(0, -(V : Int)), (0, 0), (0, -10000), (0, 4)] [] σ = some ((0, (d10 (V : Int) : Int)), σ) := by
  by_cases q : V < 10000
  · have e : d10 (V : Int) = 4 := by unfold d10; rw [if_neg (by omega), if_neg (by omega), if_neg (by omega), if_pos (by omega)]
    rw [qJI_stringSize_16, if_pos (show (4 : Int) < 10 by decide), if_pos (by omega), e]; rfl
  · rw [qJI_stringSize_16, if_pos (show (4 : Int) < 10 by decide), if_neg (by omega)]
    exact jsz_5 ⟨by omega, by omega⟩
theorem jsz_3 {V : Nat} (h : 100 ≤ V ∧ V ≤ 999999999) : X iJI_stringSize 16 [(0, -(V : Int)), (0, 0), (0, -1000), (0, 3)] [] σ = some ((0, (d10 (V : Int) : Int)), σ) := by
  by_cases q : V < 1000
  · have e : d10 (V : Int) = 3 := by unfold d10; rw [if_neg (by omega), if_neg (by omega), if_pos (by omega)]
    rw [qJI_stringSize_16, if_pos (show (3 : Int) < 10 by decide), if_pos (by omega), e]; rfl
  · rw [qJI_stringSize_16, if_pos (show (3 : Int) < 10 by decide), if_neg (by omega)]
    exact jsz_4 ⟨by omega, by omega⟩
theorem jsz_2 {V : Nat} (h : 10 ≤ V ∧ V ≤ 999999999) : X iJI_stringSize 16 [(0, -(V : Int)), (0, 0), (0, -100), (0, 2)] [] σ = some ((0, (d10 (V : Int) : Int)), σ) := by
  by_cases q : V < 100
  · have e : d10 (V : Int) = 2 := by unfold d10; rw [if_neg (by omega), if_pos (by omega)]
    rw [qJI_stringSize_16, if_pos (show (2 : Int) < 10 by decide), if_pos (by omega), e]; rfl
  · rw [qJI_stringSize_16, if_pos (show (2 : Int) < 10 by decide), if_neg (by omega)]
    exact jsz_3 ⟨by omega, by omega⟩
theorem jsz_1 {V : Nat} (h : V ≤ 999999999) : X iJI_stringSize 16 [(0, -(V : Int)), (0, 0), (0, -10), (0, 1)] [] σ = some ((0, (d10 (V : Int) : Int)), σ) := by
  by_cases q : V < 10
  · have e : d10 (V : Int) = 1 := by unfold d10; rw [if_pos (by omega)]
    rw [qJI_stringSize_16, if_pos (show (1 : Int) < 10 by decide), if_pos (by omega), e]; rfl
  · rw [qJI_stringSize_16, if_pos (show (1 : Int) < 10 by decide), if_neg (by omega)]
    exact jsz_2 ⟨by omega, by omega⟩
theorem C_size {V : Nat} (h : V ≤ 999999999) : X iJI_stringSize 0 [(0, (V : Int)), (9, 0), (9, 0), (9, 0)] [] σ = some ((0, (d10 (V : Int) : Int)), σ) := by
  rw [qJI_stringSize_0, if_neg (by omega), xw_ng (by omega)]
  exact jsz_1 h
theorem d10_100 {V : Nat} (h : 100 ≤ V ∧ V ≤ 999999999) : d10 (V : Int) = d10 ((V / 100 : Nat) : Int) + 2 := by
  unfold d10
  rcases (show (100 ≤ V ∧ V < 1000) ∨ (1000 ≤ V ∧ V < 10000) ∨ (10000 ≤ V ∧ V < 100000) ∨ (100000 ≤ V ∧ V < 1000000) ∨ (1000000 ≤ V ∧ V < 10000000) ∨ (10000000 ≤ V ∧ V < 100000000) ∨ (100000000 ≤ V ∧ V < 1000000000) by omega) with q | q | q | q | q | q | q
  · rw [if_neg (show ¬ (V : Int) < 10 by omega), if_neg (show ¬ (V : Int) < 100 by omega), if_pos (show (V : Int) < 1000 by omega), if_pos (show ((V / 100 : Nat) : Int) < 10 by omega)]
  · rw [if_neg (show ¬ (V : Int) < 10 by omega), if_neg (show ¬ (V : Int) < 100 by omega), if_neg (show ¬ (V : Int) < 1000 by omega), if_pos (show (V : Int) < 10000 by omega), if_neg (show ¬ ((V / 100 : Nat) : Int) < 10 by omega), if_pos (show ((V / 100 : Nat) : Int) < 100 by omega)]
  · rw [if_neg (show ¬ (V : Int) < 10 by omega), if_neg (show ¬ (V : Int) < 100 by omega), if_neg (show ¬ (V : Int) < 1000 by omega), if_neg (show ¬ (V : Int) < 10000 by omega), if_pos (show (V : Int) < 100000 by omega), if_neg (show ¬ ((V / 100 : Nat) : Int) < 10 by omega), if_neg (show ¬ ((V / 100 : Nat) : Int) < 100 by omega), if_pos (show ((V / 100 : Nat) : Int) < 1000 by omega)]
  · rw [if_neg (show ¬ (V : Int) < 10 by omega), if_neg (show ¬ (V : Int) < 100 by omega), if_neg (show ¬ (V : Int) < 1000 by omega), if_neg (show ¬ (V : Int) < 10000 by omega), if_neg (show ¬ (V : Int) < 100000 by omega), if_pos (show (V : Int) < 1000000 by omega), if_neg (show ¬ ((V / 100 : Nat) : Int) < 10 by omega), if_neg (show ¬ ((V / 100 : Nat) : Int) < 100 by omega), if_neg (show ¬ ((V / 100 : Nat) : Int) < 1000 by omega), if_pos (show ((V / 100 : Nat) : Int) < 10000 by omega)]
  · rw [if_neg (show ¬ (V : Int) < 10 by omega), if_neg (show ¬ (V : Int) < 100 by omega), if_neg (show ¬ (V : Int) < 1000 by omega), if_neg (show ¬ (V : Int) < 10000 by omega), if_neg (show ¬ (V : Int) < 100000 by omega), if_neg (show ¬ (V : Int) < 1000000 by omega), if_pos (show (V : Int) < 10000000 by omega), if_neg (show ¬ ((V / 100 : Nat) : Int) < 10 by omega), if_neg (show ¬ ((V / 100 : Nat) : Int) < 100 by omega), if_neg (show ¬ ((V / 100 : Nat) : Int) < 1000 by omega), if_neg (show ¬ ((V / 100 : Nat) : Int) < 10000 by omega), if_pos (show ((V / 100 : Nat) : Int) < 100000 by omega)]
  · rw [if_neg (show ¬ (V : Int) < 10 by omega), if_neg (show ¬ (V : Int) < 100 by omega), if_neg (show ¬ (V : Int) < 1000 by omega), if_neg (show ¬ (V : Int) < 10000 by omega), if_neg (show ¬ (V : Int) < 100000 by omega), if_neg (show ¬ (V : Int) < 1000000 by omega), if_neg (show ¬ (V : Int) < 10000000 by omega), if_pos (show (V : Int) < 100000000 by omega), if_neg (show ¬ ((V / 100 : Nat) : Int) < 10 by omega), if_neg (show ¬ ((V / 100 : Nat) : Int) < 100 by omega), if_neg (show ¬ ((V / 100 : Nat) : Int) < 1000 by omega), if_neg (show ¬ ((V / 100 : Nat) : Int) < 10000 by omega), if_neg (show ¬ ((V / 100 : Nat) : Int) < 100000 by omega), if_pos (show ((V / 100 : Nat) : Int) < 1000000 by omega)]
  · rw [if_neg (show ¬ (V : Int) < 10 by omega), if_neg (show ¬ (V : Int) < 100 by omega), if_neg (show ¬ (V : Int) < 1000 by omega), if_neg (show ¬ (V : Int) < 10000 by omega), if_neg (show ¬ (V : Int) < 100000 by omega), if_neg (show ¬ (V : Int) < 1000000 by omega), if_neg (show ¬ (V : Int) < 10000000 by omega), if_neg (show ¬ (V : Int) < 100000000 by omega), if_neg (show ¬ ((V / 100 : Nat) : Int) < 10 by omega), if_neg (show ¬ ((V / 100 : Nat) : Int) < 100 by omega), if_neg (show ¬ ((V / 100 : Nat) : Int) < 1000 by omega), if_neg (show ¬ ((V / 100 : Nat) : Int) < 10000 by omega), if_neg (show ¬ ((V / 100 : Nat) : Int) < 100000 by omega), if_neg (show ¬ ((V / 100 : Nat) : Int) < 1000000 by omega), if_pos (show ((V / 100 : Nat) : Int) < 10000000 by omega)]
theorem pwd {V : Nat} : ∀ k : Nat, k ≤ 6 → Int.tdiv (V : Int) (pw 10 (k + 2)) = Int.tdiv ((V / 100 : Nat) : Int) (pw 10 k)
  | 0, _ => by
    show Int.tdiv (V : Int) 100 = Int.tdiv ((V / 100 : Nat) : Int) 1
    rw [Int.tdiv_eq_ediv_of_nonneg (by omega), Int.tdiv_eq_ediv_of_nonneg (by omega)]; omega
  | 1, _ => by
    show Int.tdiv (V : Int) 1000 = Int.tdiv ((V / 100 : Nat) : Int) 10
    rw [Int.tdiv_eq_ediv_of_nonneg (by omega), Int.tdiv_eq_ediv_of_nonneg (by omega)]; omega
  | 2, _ => by
    show Int.tdiv (V : Int) 10000 = Int.tdiv ((V / 100 : Nat) : Int) 100
    rw [Int.tdiv_eq_ediv_of_nonneg (by omega), Int.tdiv_eq_ediv_of_nonneg (by omega)]; omega
  | 3, _ => by
    show Int.tdiv (V : Int) 100000 = Int.tdiv ((V / 100 : Nat) : Int) 1000
    rw [Int.tdiv_eq_ediv_of_nonneg (by omega), Int.tdiv_eq_ediv_of_nonneg (by omega)]; omega
  | 4, _ => by
    show Int.tdiv (V : Int) 1000000 = Int.tdiv ((V / 100 : Nat) : Int) 10000
    rw [Int.tdiv_eq_ediv_of_nonneg (by omega), Int.tdiv_eq_ediv_of_nonneg (by omega)]; omega
  | 5, _ => by
    show Int.tdiv (V : Int) 10000000 = Int.tdiv ((V / 100 : Nat) : Int) 100000
    rw [Int.tdiv_eq_ediv_of_nonneg (by omega), Int.tdiv_eq_ediv_of_nonneg (by omega)]; omega
  | 6, _ => by
    show Int.tdiv (V : Int) 100000000 = Int.tdiv ((V / 100 : Nat) : Int) 1000000
    rw [Int.tdiv_eq_ediv_of_nonneg (by omega), Int.tdiv_eq_ediv_of_nonneg (by omega)]; omega
  | k + 7, h => absurd h (by omega)
theorem dgs_100 {V : Nat} : ∀ k : Nat, k ≤ 7 → dgs 10 48 (V : Int) (k + 2) = dgs 10 48 ((V / 100 : Nat) : Int) k ++ [48 + V % 100 / 10, 48 + V % 10]
  | 0, _ => by
    show [(Int.tmod (Int.tdiv (V : Int) 10) 10 + 48).toNat, (Int.tmod (Int.tdiv (V : Int) 1) 10 + 48).toNat] = [48 + V % 100 / 10, 48 + V % 10]
    rw [Int.tdiv_eq_ediv_of_nonneg (by omega), Int.tdiv_eq_ediv_of_nonneg (by omega), Int.tmod_eq_emod_of_nonneg (by omega), Int.tmod_eq_emod_of_nonneg (by omega)]
    have e1 : ((V : Int) / 10 % 10 + 48).toNat = 48 + V % 100 / 10 := by omega
    have e2 : ((V : Int) / 1 % 10 + 48).toNat = 48 + V % 10 := by omega
    rw [e1, e2]
  | k + 1, h => by
    have ih := dgs_100 (V := V) k (by omega)
    show (Int.tmod (Int.tdiv (V : Int) (pw 10 (k + 2))) 10 + 48).toNat :: dgs 10 48 (V : Int) (k + 2) = (Int.tmod (Int.tdiv ((V / 100 : Nat) : Int) (pw 10 k)) 10 + 48).toNat :: dgs 10 48 ((V / 100 : Nat) : Int) k ++ _
    rw [pwd k (by omega), ih]; rfl
theorem dec_100 {V : Nat} (h : 100 ≤ V ∧ V ≤ 999999999) : dec (V : Int) = dec ((V / 100 : Nat) : Int) ++ [48 + V % 100 / 10, 48 + V % 10] := by
  unfold dec
  have b := d10_l9 (V : Int)
  have e := d10_100 h
  rw [e]
  exact dgs_100 _ (by omega)
theorem dec_1 {V : Nat} (h : V < 10) : dec (V : Int) = [48 + V % 10] := by
  have e : d10 (V : Int) = 1 := by unfold d10; rw [if_pos (by omega)]
  unfold dec
  rw [e]
  show [(Int.tmod (Int.tdiv (V : Int) 1) 10 + 48).toNat] = _
  rw [Int.tdiv_eq_ediv_of_nonneg (by omega), Int.tmod_eq_emod_of_nonneg (by omega)]
  have e1 : ((V : Int) / 1 % 10 + 48).toNat = 48 + V % 10 := by omega
  rw [e1]
theorem dec_2 {V : Nat} (h : 10 ≤ V ∧ V < 100) : dec (V : Int) = [48 + V / 10, 48 + V % 10] := by
  have e : d10 (V : Int) = 2 := by unfold d10; rw [if_neg (by omega), if_pos (by omega)]
  unfold dec
  rw [e]
  show [(Int.tmod (Int.tdiv (V : Int) 10) 10 + 48).toNat, (Int.tmod (Int.tdiv (V : Int) 1) 10 + 48).toNat] = _
  rw [Int.tdiv_eq_ediv_of_nonneg (by omega), Int.tdiv_eq_ediv_of_nonneg (by omega), Int.tmod_eq_emod_of_nonneg (by omega), Int.tmod_eq_emod_of_nonneg (by omega)]
  have e1 : ((V : Int) / 10 % 10 + 48).toNat = 48 + V / 10 := by omega
  have e2 : ((V : Int) / 1 % 10 + 48).toNat = 48 + V % 10 := by omega
  rw [e1, e2]
/-- the letters w stand in cell d behind q, the rest as before -/
def gcs (σ τ : xS) (d q : Nat) (w : List Nat) : Prop := τ.2 = σ.2 ∧ (∀ x, x ≠ d → τ.1 x = σ.1 x) ∧ ∀ j, τ.1 d j = if q ≤ j ∧ j < q + w.length then ((w.getD (j - q) 0 : Nat) : Int) else σ.1 d j
theorem gcs_put {d q c : Nat} {w : List Nat} (h : gcs (xs σ d (q + w.length) (c : Int)) τ d q w) : gcs σ τ d q (w ++ [c]) := by
  obtain ⟨h1, h2, h3⟩ := h
  refine ⟨h1, fun x hx => (h2 x hx).trans (xs_ne hx), fun j => ?_⟩
  have el : (w ++ [c]).length = w.length + 1 := List.length_append
  rw [h3 j, el, getD_app]
  by_cases e : j = q + w.length
  · rw [if_neg (by omega), if_pos (by omega), if_neg (by omega), xs_at, e, xup_eq, show q + w.length - q - w.length = 0 by omega]; rfl
  · rw [xs_at, xup_ne e]
    by_cases g : q ≤ j ∧ j < q + w.length
    · rw [if_pos g, if_pos (by omega), if_pos (by omega)]
    · rw [if_neg g, if_neg (by omega)]
theorem C_gch {d cap : Nat} (hd : 392 ≤ d) (hcap : cap ≤ 50000) : ∀ (fu V : Nat) (σ : xS) (q : Nat) (w1 w3 w4 : xAV), V < fu → V ≤ 999999999 → xnth σ.2.1 (d - 392) = some (102, cap) → q + d10 (V : Int) ≤ cap → ∃ τ, X iJI_getChars 22 [(0, -(V : Int)), w1, (2, (d : Int)), w3, w4, (0, ((q + d10 (V : Int) : Nat) : Int)), (0, 0)] [] σ = some ((0, (q : Int)), τ) ∧ gcs σ τ d q (dec (V : Int))
  | 0, V, _, _, _, _, _, h, _, _, _ => absurd h (Nat.not_lt_zero _)
  | fu + 1, V, σ, q, w1, w3, w4, hfu, hV, ht, hq => by
    have b := d10_l9 (V : Int)
    by_cases c1 : V < 10
    · have e : d10 (V : Int) = 1 := by unfold d10; rw [if_pos (by omega)]
      rw [e] at hq ⊢
      have ex := (dgt (σ := σ) (i := V) (by omega)).1
      refine ⟨xs σ d q ((48 + V % 10 : Nat) : Int), ?_, ?_⟩
      · rw [qJI_getChars_22, if_pos (by omega), xw_nn (by omega), if_pos (xin_of (by omega) (by omega)), xarr_new (t := 2) hd ht, xob_some, xw_m1 (by omega), if_pos (xin_of (by omega) (by omega)), xwr_new hd, xob_some, if_neg (by omega), if_pos rfl, Int.toNat_natCast, Int.toNat_natCast, ex, xna2_c _ (by omega), xna2_c _ (by omega), Nat.add_sub_cancel]
      · rw [dec_1 c1]
        exact gcs_put (w := []) ⟨rfl, fun _ _ => rfl, fun j => by rw [if_neg (fun z => by have : ([] : List Nat).length = 0 := rfl; omega)]; rfl⟩
    by_cases c2 : V < 100
    · have e : d10 (V : Int) = 2 := by unfold d10; rw [if_neg (by omega), if_pos (by omega)]
      rw [e] at hq ⊢
      have ex := (dgt (σ := σ) (i := V) (by omega)).1
      have ey := (dgt (σ := xs σ d (q + 2 - 1) ((48 + V % 10 : Nat) : Int)) (i := V) (by omega)).2
      refine ⟨xs (xs σ d (q + 2 - 1) ((48 + V % 10 : Nat) : Int)) d q ((48 + V / 10 : Nat) : Int), ?_, ?_⟩
      · rw [qJI_getChars_22, if_pos (by omega), xw_nn (by omega), if_pos (xin_of (by omega) (by omega)), xarr_new (t := 2) hd ht, xob_some, xw_m1 (by omega), if_pos (xin_of (by omega) (by omega)), xwr_new hd, xob_some, if_pos (by omega), if_pos (xin_of (by omega) (by omega)), Int.toNat_natCast, Int.toNat_natCast, ex, xna2_c _ (by omega), xna2_c _ (by omega), xarr_new (t := 2) (σ := xs σ d (q + 2 - 1) ((48 + V % 10 : Nat) : Int)) hd ht, xob_some, xw_m1 (by omega), if_pos (xin_of (by omega) (by omega)), xwr_new hd, xob_some, if_pos rfl, Int.toNat_natCast, ey, xna2_c _ (by omega), xna2_c _ (by omega), show q + 2 - 1 - 1 = q by omega]
      · rw [dec_2 ⟨by omega, c2⟩]
        refine gcs_put (w := [48 + V / 10]) ?_
        exact gcs_put (w := []) ⟨rfl, fun _ _ => rfl, fun j => by rw [if_neg (fun z => by have : ([] : List Nat).length = 0 := rfl; omega)]; rfl⟩
    · have h100 : 100 ≤ V ∧ V ≤ 999999999 := ⟨by omega, hV⟩
      have e := d10_100 h100
      have er : xw (xw (xw (Int.tdiv (-(V : Int)) 100) * 100) - -(V : Int)) = ((V % 100 : Nat) : Int) ∧ xw (Int.tdiv (-(V : Int)) 100) = -((V / 100 : Nat) : Int) := by
        have e0 : Int.tdiv (-(V : Int)) 100 = -((V / 100 : Nat) : Int) := by rw [Int.neg_tdiv, Int.tdiv_eq_ediv_of_nonneg (by omega)]; omega
        rw [e0, xw_ng (by omega)]
        refine ⟨?_, rfl⟩
        rw [xw_id (x := -((V / 100 : Nat) : Int) * 100) (by omega) (by omega), xw_id (by omega) (by omega)]
        omega
      obtain ⟨er, eq⟩ := er
      rw [e] at hq ⊢
      have ex := (dgt (σ := σ) (i := V % 100) (by clear er eq; omega)).1
      generalize hP : q + (d10 ((V / 100 : Nat) : Int) + 2) = P at hq ⊢
      have ey := (dgt (σ := xs σ d (P - 1) ((48 + V % 100 % 10 : Nat) : Int)) (i := V % 100) (by clear er eq; omega)).2
      obtain ⟨τ, k1, k2⟩ := C_gch hd hcap fu (V / 100) (xs (xs σ d (P - 1) ((48 + V % 100 % 10 : Nat) : Int)) d (P - 1 - 1) ((48 + V % 100 / 10 : Nat) : Int)) q w1 (0, -((V / 100 : Nat) : Int)) (0, ((V % 100 : Nat) : Int)) (by clear er eq; omega) (by clear er eq; omega) ht (by clear er eq; omega)
      have hP2 : q + d10 ((V / 100 : Nat) : Int) = P - 1 - 1 := by clear er eq; omega
      rw [hP2] at k1
      refine ⟨τ, ?_, ?_⟩
      · rw [qJI_getChars_22, er, eq, if_neg (by clear er eq; omega), if_pos (xin_of (by clear er eq; omega) (by clear er eq; omega)), xarr_new (t := 2) hd ht, xob_some, xw_m1 (by clear er eq; omega), if_pos (xin_of (by clear er eq; omega) (by clear er eq; omega)), xwr_new hd, xob_some, if_pos (xin_of (by clear er eq; omega) (by clear er eq; omega)), Int.toNat_natCast, Int.toNat_natCast, ex, xna2_c _ (by clear er eq; omega), xna2_c _ (by clear er eq; omega), xarr_new (t := 2) (σ := xs σ d (P - 1) ((48 + V % 100 % 10 : Nat) : Int)) hd ht, xob_some, xw_m1 (by clear er eq; omega), if_pos (xin_of (by clear er eq; omega) (by clear er eq; omega)), xwr_new hd, xob_some, Int.toNat_natCast, ey, xna2_c _ (by clear er eq; omega), xna2_c _ (by clear er eq; omega)]
        exact k1
      · clear er eq
        have hlen : (dec ((V / 100 : Nat) : Int)).length = d10 ((V / 100 : Nat) : Int) := dec_len
        rw [dec_100 h100, show [48 + V % 100 / 10, 48 + V % 10] = [48 + V % 100 / 10] ++ [48 + V % 10] from rfl, ← List.append_assoc]
        refine gcs_put ?_
        rw [List.length_append, hlen, show q + (d10 ((V / 100 : Nat) : Int) + [48 + V % 100 / 10].length) = P - 1 by show q + (_ + 1) = _; omega]
        refine gcs_put ?_
        rw [hlen, hP2]
        rw [show V % 100 % 10 = V % 10 by omega] at k2
        exact k2
/-- a number more -/
theorem C_int {V : Nat} (h : bs σ0 σ l) (hV : V ≤ 999999999) (hl : l.length + 9 ≤ 1400) : ∃ τ, X iJB_append2 0 [(2, ((nn σ0 : Nat) : Int)), (0, (V : Int))] [] σ = some ((2, ((nn σ0 : Nat) : Int)), τ) ∧ bs σ0 τ (l ++ dec (V : Int)) ∧ xdp τ = xdp σ := by
  obtain ⟨v, cap, h⟩ := h
  have b := d10_l9 (V : Int)
  obtain ⟨σ1, v', cap', r1, r2, r3, r4⟩ := C_room (n := l.length + d10 (V : Int)) h (by omega)
  obtain ⟨⟨⟨h1, h2⟩, ⟨h3, h4, h5⟩, _, _⟩, _⟩ := h
  obtain ⟨⟨⟨k1, k2⟩, ⟨k3, k4, k5⟩, ⟨k6, k7⟩, ⟨k8, k9⟩, k10⟩, hb, hv, hk, hcap, hsl, hX, hold⟩ := r2
  have i1 := xisO_new h1 h2
  have i2 := xisO_new k1 k2
  obtain ⟨τ, g1, g2, g3, g4⟩ := C_gch k6 k9 (V + 1) V σ1 l.length (0, ((l.length + d10 (V : Int) : Nat) : Int)) (9, 0) (9, 0) (Nat.lt_succ_self V) hV k7 r3
  have el : (l ++ dec (V : Int)).length = l.length + d10 (V : Int) := by rw [List.length_append, dec_len]
  have ua : xnth τ.2.1 (nn σ0 - 392) = some (1, 4) := by rw [g2]; exact k2
  have i3 : xisO xE1 τ ((nn σ0 : Nat) : Int) 1 = true := xisO_new k1 ua
  have z2 : xna 2 0 = 0 := rfl
  refine ⟨xs τ (nn σ0) 3 ((l.length + d10 (V : Int) : Nat) : Int), ?_, ⟨v', cap', ⟨⟨k1, ua⟩, ⟨?_, ?_, ?_⟩, ⟨k6, by show xnth τ.2.1 _ = _; rw [g2]; exact k7⟩, ⟨by omega, k9⟩, fun i hi => ?_⟩, fun d hd => ?_, hv, ?_, hcap, ?_, ?_, fun y hy => ?_⟩, ?_⟩
  · rw [qJB_append2_0, i1, cnd_t, qJA_append2_0, xfld_new 3 h1 h2, xob_some, h5, C_size hV, Option.bind_some, qJA_append2_10, i1, cnd_t, xw_PL (by omega), r1, Option.bind_some, qJA_append2_17, i2, cnd_t, xfld_new 1 k1 k2, xob_some, k4, z2, if_pos rfl, xfld_new 0 k1 k2, xob_some, k3, qJI_getChars_0, if_neg (by omega), xw_ng (by omega), g1, Option.bind_some, qJA_append2_33, i3, cnd_t, xwr_new k1, xob_some, Option.bind_some, qJB_append2_5]
  · rw [xs_at, xup_ne (by decide), g3 _ (by omega)]; exact k3
  · rw [xs_at, xup_ne (by decide), g3 _ (by omega)]; exact k4
  · rw [xs_at, xup_eq, el]
  · rw [el] at hi
    rw [xs_ne (by omega), g4, dec_len, getD_app]
    by_cases q : i < l.length
    · rw [if_neg (by omega), if_pos q]; exact k10 i q
    · rw [if_pos (by omega), if_neg q]
  · rcases List.mem_append.mp hd with q | q
    · exact hb d q
    · have := dgs_ld (v := (V : Int)) (by omega) (d10 (V : Int)) b d q
      have : ∀ c : Nat, isld c = true → c < 128 := fun c hc => by
        unfold isld at hc
        rw [Bool.or_eq_true, Bool.and_eq_true, Bool.and_eq_true] at hc
        rcases hc with z | z
        · have := Nat.le_of_ble_eq_true z.2; omega
        · have := Nat.le_of_ble_eq_true z.2; omega
      exact this d (by assumption)
  · show ∃ (k : Nat) (L : List (Nat × Nat)), τ.2.1 = _ ∧ _
    rw [g2]; exact hk
  · show τ.2.2.1 ≤ _
    rw [g2]; exact hsl
  · show τ.2.2.2.2 = _
    rw [g2]; exact hX
  · rw [xs_ne (by omega), g3 y (by omega)]; exact hold y hy
  · show τ.2.2.2.1 = _
    rw [g2]; exact r4
theorem C_charAt {i : Nat} (h : bs σ0 σ l) (hi : i < l.length) : X iJB_charAt 0 [(2, ((nn σ0 : Nat) : Int)), (0, (i : Int))] [] σ = some ((0, ((l.getD i 0 : Nat) : Int)), σ) := by
  obtain ⟨v, cap, ⟨⟨h1, h2⟩, ⟨h3, h4, h5⟩, ⟨h6, h7⟩, ⟨h8, h9⟩, h10⟩, hb, hv, hk, hcap, hsl, hX, hold⟩ := h
  have hc := getD_P _ _ hb hi
  have z2 : xna 2 0 = 0 := rfl
  have em : xmm 1 (l.length : Int) (cap : Int) = (l.length : Int) := by rw [xmm1, if_neg (by omega)]
  have ec : xna 3 (xiand (xna 2 ((l.getD i 0 : Nat) : Int)) 255) = ((l.getD i 0 : Nat) : Int) := by
    rw [xna2_c _ hc, and255]
    show ((l.getD i 0 : Nat) : Int) % 256 % 65536 = _
    omega
  have ec3 : xna 3 ((l.getD i 0 : Nat) : Int) = ((l.getD i 0 : Nat) : Int) := by
    show ((l.getD i 0 : Nat) : Int) % 65536 = _
    omega
  rw [qJB_charAt_0, xisO_new h1 h2, cnd_t, qJA_charAt_0, xfld_new 1 h1 h2, xob_some, xfld_new 0 h1 h2, xob_some, xfld_new 3 h1 h2, xob_some, h3, xlen_new (t := 2) h6 h7 (by decide), xob_some, h4, h5, z2, xshr_0 (by omega), em, if_neg (by omega), if_pos (by omega), if_pos rfl, xarr_new (t := 2) h6 h7, xob_some, if_pos (xin_of (by omega) (by omega)), xag_new h6, Int.toNat_natCast, h10 i hi, ec, ec3, if_pos rfl, Option.bind_some, qJB_charAt_5, ec3, if_pos rfl]
theorem lld_getD : ∀ l : List Nat, l ≠ [] → lld l = isld (l.getD (l.length - 1) 0)
  | [], h => absurd rfl h
  | [_], _ => rfl
  | _ :: d :: l, _ => lld_getD (d :: l) (by intro e; cases e)
/-- a blank where the last is a letter or a digit -/
theorem C_part (h : bs σ0 σ l) (hl : l.length < 1400) : ∃ τ, X iNode_partFromWord 0 [(2, ((nn σ0 : Nat) : Int)), (9, 0)] [] σ = some ((9, 0), τ) ∧ bs σ0 τ (if lld l = true then l ++ [32] else l) ∧ xdp τ = xdp σ := by
  have hB := bs_b h
  have h' := h
  obtain ⟨v, cap, ⟨⟨h1, h2⟩, ⟨h3, h4, h5⟩, _, _⟩, _⟩ := h'
  by_cases e : l = []
  · subst e
    have h5 : σ.1 (nn σ0) 3 = 0 := h5
    refine ⟨σ, ?_, h, rfl⟩
    rw [qNode_partFromWord_0, hB, cnd_t, cnd_t, xfld_new 3 h1 h2, xob_some, h5, if_neg (by decide)]
  · have hp : 0 < l.length := List.length_pos_iff.mpr e
    have hg := C_charAt h (i := l.length - 1) (by omega)
    have hL := lld_getD l e
    generalize l.getD (l.length - 1) 0 = c at hg hL
    have q0 : X iNode_partFromWord 0 [(2, ((nn σ0 : Nat) : Int)), (9, 0)] [] σ = X iNode_partFromWord 16 [(2, ((nn σ0 : Nat) : Int)), (0, (l.length : Int))] [(0, (c : Int))] σ := by
      rw [qNode_partFromWord_0, hB, cnd_t, cnd_t, xfld_new 3 h1 h2, xob_some, h5, if_pos (by omega), cnd_t, xw_P (by omega), hg, Option.bind_some]
    obtain ⟨τ, a1, a2, a3⟩ := C_chr (c := 32) h (by decide) hl
    have a1 : X iJB_append1 0 [(2, ((nn σ0 : Nat) : Int)), (0, 32)] [] σ = some ((2, ((nn σ0 : Nat) : Int)), τ) := a1
    by_cases k1 : 97 ≤ c ∧ c ≤ 122
    · have : lld l = true := by rw [hL, isld_let c k1.1 k1.2]
      rw [if_pos this]
      refine ⟨τ, ?_, a2, a3⟩
      rw [q0, qNode_partFromWord_16, if_neg (by omega), if_neg (by omega), hB, cnd_t, a1, Option.bind_some, qNode_partFromWord_41]
    have q1 : X iNode_partFromWord 0 [(2, ((nn σ0 : Nat) : Int)), (9, 0)] [] σ = X iNode_partFromWord 29 [(2, ((nn σ0 : Nat) : Int)), (0, (l.length : Int))] [(0, (c : Int))] σ := by
      rw [q0, qNode_partFromWord_16]
      by_cases k2 : (c : Int) < 97
      · rw [if_pos k2, hB, cnd_t, xw_P (by omega), hg, Option.bind_some]
      · rw [if_neg k2, if_pos (by omega), hB, cnd_t, xw_P (by omega), hg, Option.bind_some]
    by_cases k3 : 48 ≤ c ∧ c ≤ 57
    · have : lld l = true := by rw [hL, isld_dig c k3.1 k3.2]
      rw [if_pos this]
      refine ⟨τ, ?_, a2, a3⟩
      rw [q1, qNode_partFromWord_29, if_neg (by omega), if_neg (by omega), hB, cnd_t, a1, Option.bind_some, qNode_partFromWord_41]
    · have : ¬ lld l = true := by
        rw [hL]
        unfold isld
        rw [Bool.or_eq_true, Bool.and_eq_true, Bool.and_eq_true]
        rintro (z | z)
        · exact k1 ⟨Nat.le_of_ble_eq_true z.1, Nat.le_of_ble_eq_true z.2⟩
        · exact k3 ⟨Nat.le_of_ble_eq_true z.1, Nat.le_of_ble_eq_true z.2⟩
      rw [if_neg this]
      refine ⟨σ, ?_, h, rfl⟩
      rw [q1, qNode_partFromWord_29]
      by_cases k4 : (c : Int) < 48
      · rw [if_pos k4]
      · rw [if_neg k4, if_pos (by omega)]
theorem part_len (l : List Nat) : (if lld l = true then l ++ [32] else l).length ≤ l.length + 1 := by
  by_cases h : lld l = true
  · rw [if_pos h, List.length_append]; exact Nat.le_refl _
  · rw [if_neg h]; omega
/-- a word more, a number more -/
theorem C_wW {x : Int} {w : List Nat} (h : bs σ0 σ l) (hx : strx σ0 x w) (hl : l.length ≤ 1390) : ∃ τ, X iNode_writeWord 0 [(2, x), (2, ((nn σ0 : Nat) : Int))] [] σ = some ((9, 0), τ) ∧ bs σ0 τ (wW l w) ∧ xdp τ = xdp σ := by
  obtain ⟨τ1, a1, a2, a3⟩ := C_part h (by omega)
  have pl := part_len l
  have w8 := hx.2.1
  obtain ⟨τ2, b1, b2, b3⟩ := C_str a2 hx (by omega)
  refine ⟨τ2, ?_, b2, b3.trans a3⟩
  rw [qNode_writeWord_0, a1, Option.bind_some, qNode_writeWord_4, bs_b a2, cnd_t, b1, Option.bind_some, qNode_writeWord_9]
theorem C_wN {v : Int} (h : bs σ0 σ l) (hv : 0 ≤ v ∧ v ≤ 999999999) (hl : l.length ≤ 1390) : ∃ τ, X iNode_writeNumber 0 [(0, v), (2, ((nn σ0 : Nat) : Int))] [] σ = some ((9, 0), τ) ∧ bs σ0 τ (wW l (dec v)) ∧ xdp τ = xdp σ := by
  obtain ⟨V, hV⟩ : ∃ V : Nat, v = (V : Int) := ⟨v.toNat, by omega⟩
  subst hV
  obtain ⟨τ1, a1, a2, a3⟩ := C_part h (by omega)
  have pl := part_len l
  obtain ⟨τ2, b1, b2, b3⟩ := C_int (V := V) a2 (by omega) (by omega)
  refine ⟨τ2, ?_, b2, b3.trans a3⟩
  rw [qNode_writeNumber_0, a1, Option.bind_some, qNode_writeNumber_4, bs_b a2, cnd_t, b1, Option.bind_some, qNode_writeNumber_9]
end NUM

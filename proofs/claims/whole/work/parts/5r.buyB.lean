/-! buying: how much it can come to -/
theorem by_lc {P C K x n l : Int} (hP : 1 ≤ P ∧ P ≤ 20) (hC : 0 ≤ C ∧ C ≤ 1000) (hK : 0 ≤ K ∧ K ≤ 100) (hx : 0 ≤ x ∧ x ≤ 50) (hn : 0 ≤ n ∧ n ≤ 5) (hl : l ≤ 200) : (0 ≤ P * x ∧ P * x ≤ 1000) ∧ (0 ≤ C * n ∧ C * n ≤ 5000) ∧ (0 ≤ l + P * x → 0 ≤ K * (l + P * x) ∧ K * (l + P * x) ≤ 120000) := by
  have h1 : 0 ≤ P * x := Int.mul_nonneg (by omega) hx.1
  have h2 : P * x ≤ 20 * 50 := Int.mul_le_mul hP.2 hx.2 hx.1 (by decide)
  have h3 : 0 ≤ C * n := Int.mul_nonneg hC.1 hn.1
  have h4 : C * n ≤ 1000 * 5 := Int.mul_le_mul hC.2 hn.2 hn.1 (by decide)
  refine ⟨by omega, by omega, fun h => ⟨Int.mul_nonneg hK.1 h, ?_⟩⟩
  have h5 : K * (l + P * x) ≤ 100 * 1200 := Int.mul_le_mul hK.2 (by omega) h (by decide)
  omega
theorem by_gb {c : Nat → Int} {B : Int} (hB : 0 ≤ B) (bd : ∀ n : Nat, n < 6 → -1 ≤ c n ∧ c n ≤ B) : (-1 ≤ (by_g c 6).1 ∧ (by_g c 6).1 ≤ B) ∧ (by_g c 6).2 ≤ 5 := by
  have g : ∀ k : Nat, k ≤ 6 → (-1 ≤ (by_g c k).1 ∧ (by_g c k).1 ≤ B) ∧ (by_g c k).2 ≤ 5 := by
    intro k
    induction k with
    | zero =>
      intro _
      show (-1 ≤ (-1 : Int) ∧ (-1 : Int) ≤ B) ∧ 0 ≤ 5
      omega
    | succ k ihk =>
      intro hk
      have i1 := ihk (by omega)
      have i2 := bd k (by omega)
      show (-1 ≤ (if c k < 0 then by_g c k else if (by_g c k).1 < 0 then (c k, k) else if c k < (by_g c k).1 then (c k, k) else by_g c k).1 ∧ (if c k < 0 then by_g c k else if (by_g c k).1 < 0 then (c k, k) else if c k < (by_g c k).1 then (c k, k) else by_g c k).1 ≤ B) ∧ (if c k < 0 then by_g c k else if (by_g c k).1 < 0 then (c k, k) else if c k < (by_g c k).1 then (c k, k) else by_g c k).2 ≤ 5
      by_cases c1 : c k < 0
      · rw [if_pos c1]; exact i1
      · rw [if_neg c1]
        by_cases c2 : (by_g c k).1 < 0
        · rw [if_pos c2]; exact ⟨i2, by show k ≤ 5; omega⟩
        · rw [if_neg c2]
          by_cases c3 : c k < (by_g c k).1
          · rw [if_pos c3]; exact ⟨i2, by show k ≤ 5; omega⟩
          · rw [if_neg c3]; exact i1
  exact g 6 (Nat.le_refl 6)
theorem by_vb {fl : Nat → Int} {P C K : Int} {d : Nat} (hP : 1 ≤ P ∧ P ≤ 20) (hC : 0 ≤ C ∧ C ≤ 1000) (hK : 0 ≤ K ∧ K ≤ 100) (hf : ∀ i, fl i ≤ 200) : ∀ (u b : Nat), b + 5 * u ≤ 50 → (-1 ≤ (by_v fl P C K d u b).1 ∧ (by_v fl P C K d u b).1 ≤ 125000 * u) ∧ (by_v fl P C K d u b).2 ≤ 5
  | 0, _, _ => ⟨⟨show (-1 : Int) ≤ 0 by decide, Int.le_refl 0⟩, Nat.zero_le 5⟩
  | u + 1, b, hb => by
    have bd : ∀ n : Nat, n < 6 → -1 ≤ (if fl (d - (u + 1)) + P * ((b + n : Nat) : Int) < 0 then -1 else if (by_v fl P C K d u (b + n)).1 < 0 then -1 else (by_v fl P C K d u (b + n)).1 + C * (n : Int) + K * (fl (d - (u + 1)) + P * ((b + n : Nat) : Int))) ∧ (if fl (d - (u + 1)) + P * ((b + n : Nat) : Int) < 0 then -1 else if (by_v fl P C K d u (b + n)).1 < 0 then -1 else (by_v fl P C K d u (b + n)).1 + C * (n : Int) + K * (fl (d - (u + 1)) + P * ((b + n : Nat) : Int))) ≤ 125000 * ((u + 1 : Nat) : Int) := by
      intro n hn
      have ih := by_vb (d := d) hP hC hK hf u (b + n) (by omega)
      obtain ⟨l1, l2, l3⟩ := by_lc (x := ((b + n : Nat) : Int)) (n := (n : Int)) hP hC hK (by omega) (by omega) (hf (d - (u + 1)))
      generalize by_v fl P C K d u (b + n) = v at *
      generalize P * ((b + n : Nat) : Int) = px at *
      generalize C * (n : Int) = cn at *
      by_cases c1 : fl (d - (u + 1)) + px < 0
      · rw [if_pos c1]
        omega
      · rw [if_neg c1]
        have l4 := l3 (by omega)
        generalize K * (fl (d - (u + 1)) + px) = kl at *
        by_cases c2 : v.1 < 0
        · rw [if_pos c2]
          omega
        · rw [if_neg c2]
          omega
    exact by_gb (by omega) bd

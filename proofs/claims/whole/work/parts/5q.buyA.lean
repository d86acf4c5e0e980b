/-! buying: the rows of the class's two grids; the fewest coins -/
section BUYA
variable {σ : xS}
theorem by_row {a : Nat} (ha : a < 11) : xag xE1 σ 274 a = ((275 + a : Nat) : Int) ∧ xarr xE1 σ ((275 + a : Nat) : Int) 0 = some 51 ∧ xlen xE1 σ ((275 + a : Nat) : Int) = some 51 ∧ (∀ k v, xwr xE1 σ ((275 + a : Nat) : Int) k v = some (xs σ (275 + a) k v)) ∧ ∀ k, xag xE1 σ ((275 + a : Nat) : Int) k = σ.1 (275 + a) k := by
  match a, ha with
  | 0, _ => exact ⟨rfl, rfl, rfl, fun _ _ => rfl, fun _ => rfl⟩
  | 1, _ => exact ⟨rfl, rfl, rfl, fun _ _ => rfl, fun _ => rfl⟩
  | 2, _ => exact ⟨rfl, rfl, rfl, fun _ _ => rfl, fun _ => rfl⟩
  | 3, _ => exact ⟨rfl, rfl, rfl, fun _ _ => rfl, fun _ => rfl⟩
  | 4, _ => exact ⟨rfl, rfl, rfl, fun _ _ => rfl, fun _ => rfl⟩
  | 5, _ => exact ⟨rfl, rfl, rfl, fun _ _ => rfl, fun _ => rfl⟩
  | 6, _ => exact ⟨rfl, rfl, rfl, fun _ _ => rfl, fun _ => rfl⟩
  | 7, _ => exact ⟨rfl, rfl, rfl, fun _ _ => rfl, fun _ => rfl⟩
  | 8, _ => exact ⟨rfl, rfl, rfl, fun _ _ => rfl, fun _ => rfl⟩
  | 9, _ => exact ⟨rfl, rfl, rfl, fun _ _ => rfl, fun _ => rfl⟩
  | 10, _ => exact ⟨rfl, rfl, rfl, fun _ _ => rfl, fun _ => rfl⟩
  | n + 11, h => omega
theorem by_lot {a : Nat} (ha : a < 10) : xag xE1 σ 286 a = ((287 + a : Nat) : Int) ∧ xarr xE1 σ ((287 + a : Nat) : Int) 0 = some 51 ∧ (∀ k v, xwr xE1 σ ((287 + a : Nat) : Int) k v = some (xs σ (287 + a) k v)) ∧ ∀ k, xag xE1 σ ((287 + a : Nat) : Int) k = σ.1 (287 + a) k := by
  match a, ha with
  | 0, _ => exact ⟨rfl, rfl, fun _ _ => rfl, fun _ => rfl⟩
  | 1, _ => exact ⟨rfl, rfl, fun _ _ => rfl, fun _ => rfl⟩
  | 2, _ => exact ⟨rfl, rfl, fun _ _ => rfl, fun _ => rfl⟩
  | 3, _ => exact ⟨rfl, rfl, fun _ _ => rfl, fun _ => rfl⟩
  | 4, _ => exact ⟨rfl, rfl, fun _ _ => rfl, fun _ => rfl⟩
  | 5, _ => exact ⟨rfl, rfl, fun _ _ => rfl, fun _ => rfl⟩
  | 6, _ => exact ⟨rfl, rfl, fun _ _ => rfl, fun _ => rfl⟩
  | 7, _ => exact ⟨rfl, rfl, fun _ _ => rfl, fun _ => rfl⟩
  | 8, _ => exact ⟨rfl, rfl, fun _ _ => rfl, fun _ => rfl⟩
  | 9, _ => exact ⟨rfl, rfl, fun _ _ => rfl, fun _ => rfl⟩
  | n + 10, h => omega
end BUYA
/-- the first of the least below k; -1 is 'cannot be' -/
def by_g (c : Nat → Int) : Nat → Int × Nat
  | 0 => (-1, 0)
  | k + 1 => if c k < 0 then by_g c k else if (by_g c k).1 < 0 then (c k, k) else if c k < (by_g c k).1 then (c k, k) else by_g c k
theorem by_g_in {c : Nat → Int} : ∀ {k : Nat}, (by_g c k).1 < 0 ∧ (∀ n, n < k → c n < 0) ∨ (0 ≤ (by_g c k).1 ∧ (by_g c k).2 < k ∧ c (by_g c k).2 = (by_g c k).1 ∧ (∀ n, n < k → 0 ≤ c n → (by_g c k).1 ≤ c n) ∧ ∀ n, n < (by_g c k).2 → c n ≠ (by_g c k).1)
  | 0 => Or.inl ⟨show (-1 : Int) < 0 by decide, fun n h => absurd h (Nat.not_lt_zero n)⟩
  | k + 1 => by
    have ih := by_g_in (c := c) (k := k)
    show (if c k < 0 then by_g c k else if (by_g c k).1 < 0 then (c k, k) else if c k < (by_g c k).1 then (c k, k) else by_g c k).1 < 0 ∧ _ ∨ _
    have key : ∀ r : Int × Nat, r = (if c k < 0 then by_g c k else if (by_g c k).1 < 0 then (c k, k) else if c k < (by_g c k).1 then (c k, k) else by_g c k) → (r.1 < 0 ∧ (∀ n, n < k + 1 → c n < 0) ∨ (0 ≤ r.1 ∧ r.2 < k + 1 ∧ c r.2 = r.1 ∧ (∀ n, n < k + 1 → 0 ≤ c n → r.1 ≤ c n) ∧ ∀ n, n < r.2 → c n ≠ r.1)) := by
      intro r hr
      have step : ∀ n, n < k + 1 → n = k ∨ n < k := fun n h => by omega
      by_cases c1 : c k < 0
      · rw [if_pos c1] at hr
        rw [hr]
        rcases ih with ⟨a1, a2⟩ | ⟨a1, a2, a3, a4, a5⟩
        · refine Or.inl ⟨a1, fun n hn => ?_⟩
          rcases step n hn with e | e
          · rw [e]; exact c1
          · exact a2 n e
        · refine Or.inr ⟨a1, by omega, a3, fun n hn h0 => ?_, a5⟩
          rcases step n hn with e | e
          · rw [e] at h0; omega
          · exact a4 n e h0
      · rw [if_neg c1] at hr
        rcases ih with ⟨a1, a2⟩ | ⟨a1, a2, a3, a4, a5⟩
        · rw [if_pos a1] at hr
          rw [hr]
          refine Or.inr ⟨by show 0 ≤ c k; omega, Nat.lt_succ_self k, rfl, fun n hn h0 => ?_, fun n hn => ?_⟩
          · rcases step n hn with e | e
            · rw [e]; exact Int.le_refl _
            · have := a2 n e; omega
          · have := a2 n hn
            show c n ≠ c k
            omega
        · rw [if_neg (by omega)] at hr
          by_cases c3 : c k < (by_g c k).1
          · rw [if_pos c3] at hr
            rw [hr]
            refine Or.inr ⟨by show 0 ≤ c k; omega, Nat.lt_succ_self k, rfl, fun n hn h0 => ?_, fun n hn => ?_⟩
            · rcases step n hn with e | e
              · rw [e]; exact Int.le_refl _
              · have := a4 n e h0
                show c k ≤ c n
                omega
            · show c n ≠ c k
              intro e
              have := a4 n hn (by omega)
              omega
          · rw [if_neg c3] at hr
            rw [hr]
            refine Or.inr ⟨a1, by omega, a3, fun n hn h0 => ?_, a5⟩
            rcases step n hn with e | e
            · rw [e]; omega
            · exact a4 n e h0
    exact key _ rfl
/-- the fewest coins from a day on, u days left of d, so many lots bought ahead of it; and the lots for them -/
def by_v (fl : Nat → Int) (P C K : Int) (d : Nat) : Nat → Nat → Int × Nat
  | 0, _ => (0, 0)
  | u + 1, b => by_g (fun n => if fl (d - (u + 1)) + P * ((b + n : Nat) : Int) < 0 then -1 else if (by_v fl P C K d u (b + n)).1 < 0 then -1 else (by_v fl P C K d u (b + n)).1 + C * (n : Int) + K * (fl (d - (u + 1)) + P * ((b + n : Nat) : Int))) 6

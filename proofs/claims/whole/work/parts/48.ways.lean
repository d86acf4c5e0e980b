/-! loads: in how many ways a weight comes about -/
def ws (f : Nat → Nat) (g t : Nat) : Nat → Nat
  | 0 => 0
  | n + 1 => ws f g t n + if n * g ≤ t then f (t - n * g) else 0
def wy (g h : Nat → Nat) (but : Int) : Nat → Nat → Nat
  | 0, t => if t = 0 then 1 else 0
  | i + 1, t => if (i : Int) = but then wy g h but i t else ws (wy g h but i) (g i) t (h i + 1)
/-- f from a on, so many -/
def tw (f : Nat → Nat) (a : Nat) : Nat → Nat
  | 0 => 0
  | n + 1 => tw f a n + f (a + n)
def pr (h : Nat → Nat) (but : Int) : Nat → Nat
  | 0 => 1
  | i + 1 => if (i : Int) = but then pr h but i else pr h but i * (h i + 1)
def sh (h : Nat → Nat) : Nat → Nat
  | 0 => 0
  | i + 1 => sh h i + h i
theorem tw_mono {f : Nat → Nat} {a n : Nat} : ∀ {k : Nat}, tw f a n ≤ tw f a (n + k)
  | 0 => Nat.le_refl _
  | k + 1 => Nat.le_trans (tw_mono (k := k)) (Nat.le_add_right _ _)
theorem tw_le {f : Nat → Nat} {a n m : Nat} (h : n ≤ m) : tw f a n ≤ tw f a m := by
  obtain ⟨k, rfl⟩ : ∃ k, m = n + k := ⟨m - n, by omega⟩
  exact tw_mono
theorem tw_add {f : Nat → Nat} {a n : Nat} : ∀ {k : Nat}, tw f a (n + k) = tw f a n + tw f (a + n) k
  | 0 => rfl
  | k + 1 => by
    show tw f a (n + k) + f (a + (n + k)) = tw f a n + (tw f (a + n) k + f (a + n + k))
    rw [tw_add (k := k), Nat.add_assoc, Nat.add_assoc]
theorem tw_part {f : Nat → Nat} {a n : Nat} : tw f a n ≤ tw f 0 (a + n) := by
  rw [tw_add (a := 0) (n := a) (k := n), Nat.zero_add]
  exact Nat.le_add_left _ _
theorem tw_one {f : Nat → Nat} {t n : Nat} (h : t < n) : f t ≤ tw f 0 n := by
  refine Nat.le_trans ?_ (tw_le (n := t + 1) h)
  show f t ≤ tw f 0 t + f (0 + t)
  rw [Nat.zero_add]
  exact Nat.le_add_left _ _
theorem tw_shift {f : Nat → Nat} {d : Nat} : ∀ {n : Nat}, tw (fun t => if d ≤ t then f (t - d) else 0) 0 n ≤ tw f 0 (n - d)
  | 0 => Nat.zero_le _
  | n + 1 => by
    have ih := tw_shift (f := f) (d := d) (n := n)
    show tw (fun t => if d ≤ t then f (t - d) else 0) 0 n + (if d ≤ 0 + n then f (0 + n - d) else 0) ≤ tw f 0 (n + 1 - d)
    rw [Nat.zero_add]
    by_cases h : d ≤ n
    · rw [if_pos h, show n + 1 - d = (n - d) + 1 by omega]
      show _ ≤ tw f 0 (n - d) + f (0 + (n - d))
      rw [Nat.zero_add]
      omega
    · rw [if_neg h, show n + 1 - d = n - d by omega]
      omega
theorem tw_plus {f f' : Nat → Nat} {a : Nat} : ∀ {n : Nat}, tw (fun t => f t + f' t) a n = tw f a n + tw f' a n
  | 0 => rfl
  | n + 1 => by
    show tw (fun t => f t + f' t) a n + (f (a + n) + f' (a + n)) = _
    rw [tw_plus (n := n)]
    show _ = tw f a n + f (a + n) + (tw f' a n + f' (a + n))
    omega
theorem tw_zero {a : Nat} : ∀ {n : Nat}, tw (fun _ => 0) a n = 0
  | 0 => rfl
  | n + 1 => by
    show tw (fun _ => 0) a n + 0 = 0
    rw [tw_zero (n := n)]
theorem tw_ws {f : Nat → Nat} {g n : Nat} : ∀ {k : Nat}, tw (fun t => ws f g t k) 0 n ≤ k * tw f 0 n
  | 0 => by
    rw [Nat.zero_mul]
    exact Nat.le_of_eq tw_zero
  | k + 1 => by
    have ih := tw_ws (f := f) (g := g) (n := n) (k := k)
    have h2 := tw_shift (f := f) (d := k * g) (n := n)
    have h3 := tw_le (f := f) (a := 0) (n := n - k * g) (m := n) (Nat.sub_le _ _)
    show tw (fun t => ws f g t k + if k * g ≤ t then f (t - k * g) else 0) 0 n ≤ (k + 1) * tw f 0 n
    rw [tw_plus, Nat.succ_mul]
    omega
theorem tw_wy {g h : Nat → Nat} {but : Int} {n : Nat} : ∀ {i : Nat}, tw (wy g h but i) 0 n ≤ pr h but i
  | 0 => by
    show tw (wy g h but 0) 0 n ≤ 1
    cases n with
    | zero => exact Nat.zero_le _
    | succ n =>
      have : ∀ k, tw (wy g h but 0) 0 (k + 1) = 1 := by
        intro k
        induction k with
        | zero => rfl
        | succ k ih =>
          show tw (wy g h but 0) 0 (k + 1) + (if 0 + (k + 1) = 0 then 1 else 0) = 1
          rw [ih, if_neg (by omega)]
      rw [this]
      exact Nat.le_refl _
  | i + 1 => by
    have ih := tw_wy (g := g) (h := h) (but := but) (n := n) (i := i)
    by_cases e : (i : Int) = but
    · have e1 : wy g h but (i + 1) = wy g h but i := funext fun t => if_pos e
      rw [e1, show pr h but (i + 1) = pr h but i from if_pos e]
      exact ih
    · have e1 : wy g h but (i + 1) = fun t => ws (wy g h but i) (g i) t (h i + 1) := funext fun t => if_neg e
      rw [e1, show pr h but (i + 1) = pr h but i * (h i + 1) from if_neg e]
      refine Nat.le_trans tw_ws ?_
      rw [Nat.mul_comm]
      exact Nat.mul_le_mul_right _ ih
theorem p18 : ∀ x : Nat, x ≤ 150 → (x + 1) ^ 18 ≤ 2 ^ (x + 60) := by decide +kernel
theorem pr_18 {h : Nat → Nat} {but : Int} : ∀ {i : Nat}, (∀ s, s < i → h s ≤ 150) → pr h but i ^ 18 ≤ 2 ^ (sh h i + 60 * i)
  | 0, _ => by
    show 1 ^ 18 ≤ 2 ^ 0
    decide
  | i + 1, hh => by
    have ih := pr_18 (h := h) (but := but) (i := i) fun s hs => hh s (Nat.lt_succ_of_lt hs)
    have e0 : 2 ^ (sh h (i + 1) + 60 * (i + 1)) = 2 ^ (sh h i + 60 * i) * 2 ^ (h i + 60) := by
      rw [← Nat.pow_add]
      congr 1
      show sh h i + h i + 60 * (i + 1) = _
      omega
    rw [e0]
    by_cases e : (i : Int) = but
    · rw [show pr h but (i + 1) = pr h but i from if_pos e]
      exact Nat.le_trans ih (Nat.le_mul_of_pos_right _ (Nat.pow_pos (by decide)))
    · rw [show pr h but (i + 1) = pr h but i * (h i + 1) from if_neg e, Nat.mul_pow]
      exact Nat.mul_le_mul ih (p18 _ (hh i (Nat.lt_succ_self i)))
theorem pr_lt {h : Nat → Nat} {but : Int} {i : Nat} (hi : i ≤ 6) (hh : ∀ s, s < i → h s ≤ 150) (hs : sh h i ≤ 150) : pr h but i < 2147483648 := by
  have h1 := pr_18 (but := but) hh
  have h2 : 2 ^ (sh h i + 60 * i) ≤ 2 ^ 510 := Nat.pow_le_pow_right (by decide) (by omega)
  by_cases hp : pr h but i < 2147483648
  · exact hp
  · exfalso
    have h3 : 2147483648 ^ 18 ≤ pr h but i ^ 18 := Nat.pow_le_pow_left (by omega) 18
    exact absurd (Nat.le_trans h3 (Nat.le_trans h1 h2)) (by decide +kernel)
theorem ws_end {f : Nat → Nat} {g t c : Nat} (h : t < c * g) : ∀ {k : Nat}, ws f g t (c + k) = ws f g t c
  | 0 => rfl
  | k + 1 => by
    show ws f g t (c + k) + (if (c + k) * g ≤ t then f (t - (c + k) * g) else 0) = ws f g t c
    have : c * g ≤ (c + k) * g := Nat.mul_le_mul_right g (Nat.le_add_right c k)
    rw [if_neg (by omega), ws_end h (k := k)]
    rfl
/-- what is heavier than all together has no way -/
def hv (g h : Nat → Nat) (but : Int) : Nat → Nat
  | 0 => 0
  | i + 1 => if (i : Int) = but then hv g h but i else hv g h but i + h i * g i
theorem ws_zero {f : Nat → Nat} {g t : Nat} : ∀ {n : Nat}, (∀ c, c < n → c * g ≤ t → f (t - c * g) = 0) → ws f g t n = 0
  | 0, _ => rfl
  | n + 1, h => by
    show ws f g t n + (if n * g ≤ t then f (t - n * g) else 0) = 0
    rw [ws_zero fun c hc => h c (Nat.lt_succ_of_lt hc), Nat.zero_add]
    by_cases e : n * g ≤ t
    · rw [if_pos e, h n (Nat.lt_succ_self n) e]
    · rw [if_neg e]
theorem wy_hv {g h : Nat → Nat} {but : Int} : ∀ {i t : Nat}, hv g h but i < t → wy g h but i t = 0
  | 0, t, ht => if_neg (by have : 0 < t := ht; omega)
  | i + 1, t, ht => by
    by_cases e : (i : Int) = but
    · rw [show wy g h but (i + 1) t = wy g h but i t from if_pos e]
      rw [show hv g h but (i + 1) = hv g h but i from if_pos e] at ht
      exact wy_hv ht
    · rw [show wy g h but (i + 1) t = ws (wy g h but i) (g i) t (h i + 1) from if_neg e]
      rw [show hv g h but (i + 1) = hv g h but i + h i * g i from if_neg e] at ht
      refine ws_zero fun c hc hct => wy_hv ?_
      have : c * g i ≤ h i * g i := Nat.mul_le_mul_right _ (Nat.le_of_lt_succ hc)
      omega
/-- held to a million -/
def sa (n : Nat) : Int := if 1000000 < n then 1000000 else (n : Int)
theorem sa_le (n : Nat) : 0 ≤ sa n ∧ sa n ≤ 1000000 := by
  unfold sa
  split <;> omega
theorem sa_add (a b : Nat) : (if (1000000 : Int) < sa a + sa b then 1000000 else sa a + sa b) = sa (a + b) := by
  unfold sa
  by_cases h1 : 1000000 < a
  · rw [if_pos h1, if_pos (show 1000000 < a + b by omega)]
    by_cases h2 : 1000000 < b
    · rw [if_pos h2]; decide
    · rw [if_neg h2]
      split <;> omega
  · rw [if_neg h1]
    by_cases h2 : 1000000 < b
    · rw [if_pos h2, if_pos (show 1000000 < a + b by omega)]
      split <;> omega
    · rw [if_neg h2]
      by_cases h3 : 1000000 < a + b
      · rw [if_pos h3, if_pos (by omega)]
      · rw [if_neg h3, if_neg (by omega)]
        omega
theorem sa_pos {n : Nat} : 0 < sa n ↔ 0 < n := by
  unfold sa
  split <;> omega

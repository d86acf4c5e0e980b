/-! THE PURE SIDE: words for memory, numbers, lists -/
theorem xw_id {x : Int} (h1 : -2147483648 ≤ x) (h2 : x < 2147483648) : xw x = x := by unfold xw; omega
theorem xW_id {x : Int} (h1 : -9223372036854775808 ≤ x) (h2 : x < 9223372036854775808) : xW x = x := by unfold xW; omega
theorem xw_lo (x : Int) : -2147483648 ≤ xw x := by unfold xw; omega
theorem xw_hi (x : Int) : xw x < 2147483648 := by unfold xw; omega
/-- an array with a place changed -/
def xup (f : Nat → Int) (k : Nat) (v : Int) : Nat → Int := fun j => if j = k then v else f j
theorem xup_eq {f : Nat → Int} {k : Nat} {v : Int} : xup f k v k = v := if_pos rfl
theorem xup_ne {f : Nat → Int} {k j : Nat} {v : Int} (h : j ≠ k) : xup f k v j = f j := if_neg h
theorem xup_at (f : Nat → Int) (k : Nat) (v : Int) (j : Nat) : xup f k v j = if j = k then v else f j := rfl
theorem beq_ff {a b : Nat} (h : a ≠ b) : Nat.beq a b = false := by
  cases hb : Nat.beq a b with
  | false => rfl
  | true => exact absurd (Nat.eq_of_beq_eq_true hb) h
theorem beq_tt (a : Nat) : Nat.beq a a = true := Nat.beq_refl a
theorem xs_at (σ : xS) (a k : Nat) (v : Int) : (xs σ a k v).1 a = xup (σ.1 a) k v := by
  funext j
  show cond (Nat.beq a a && Nat.beq j k) v (σ.1 a j) = if j = k then v else σ.1 a j
  rw [beq_tt, Bool.true_and]
  by_cases h : j = k
  · rw [if_pos h, h, beq_tt]; rfl
  · rw [if_neg h, beq_ff h]; rfl
theorem xs_ne {σ : xS} {a k : Nat} {v : Int} {b : Nat} (h : b ≠ a) : (xs σ a k v).1 b = σ.1 b := by
  funext j
  show cond (Nat.beq b a && Nat.beq j k) v (σ.1 b j) = σ.1 b j
  rw [beq_ff h]; rfl
theorem xs_1 (σ : xS) (a k : Nat) (v : Int) (b : Nat) : (xs σ a k v).1 b = if b = a then xup (σ.1 a) k v else σ.1 b := by
  by_cases h : b = a
  · subst h; rw [if_pos rfl, xs_at]
  · rw [if_neg h, xs_ne h]
theorem xs_2 (σ : xS) (a k : Nat) (v : Int) : (xs σ a k v).2 = σ.2 := rfl
theorem xg_1 (σ : xS) (a k : Nat) : xg σ a k = σ.1 a k := Eq.trans rfl (Eq.refl _)
theorem xin_of {i : Int} {n : Nat} (h1 : 0 ≤ i) (h2 : i < (n : Int)) : xin i n := ⟨h1, h2⟩
theorem xpair {σ τ : xS} (h1 : σ.1 = τ.1) (h2 : σ.2 = τ.2) : σ = τ := by
  obtain ⟨a, b⟩ := σ
  obtain ⟨c, d⟩ := τ
  cases h1; cases h2; rfl
/-- what is only reckoned with: cells and slots that no later call looks at ahead of writing them -/
def tmS (a k : Nat) : Bool :=
  cond (xmem [207, 208, 214, 215, 254, 255, 256, 257, 265, 266, 267, 268, 269, 270, 271, 273, 275, 276, 277, 278, 279, 280, 281, 282, 283, 284, 285, 287, 288, 289, 290, 291, 292, 293, 294, 295, 296, 297, 299, 300, 301, 302, 303, 324, 338, 339, 340, 358, 359, 360, 361, 362, 363, 364, 365, 366, 367, 368, 370, 371, 372, 373, 374, 381, 382, 383, 384, 385, 386, 387, 388, 389, 390, 391] a) true
  (cond (Nat.beq a 305) (xmem [25, 68, 69, 70, 71, 72, 73, 74, 75, 76, 82, 83, 92, 93, 98, 116, 117, 118, 119] k)
  (cond (Nat.beq a 201) (Nat.beq k 8)
  (cond (Nat.beq a 209) (xmem [7, 8] k)
  (cond (Nat.beq a 258) (xmem [10, 18, 19] k) false))))
def tmp (σ : xS) (a k : Nat) : Bool := tmS a k || (Nat.ble 392 a && (match xnth σ.2.1 (a - 392) with
  | some q => Nat.beq q.1 101
  | none => false))
/-- nothing else has changed -/
def ag (σ σ' : xS) : Prop := σ'.2 = σ.2 ∧ ∀ a k, tmp σ a k = false → σ'.1 a k = σ.1 a k
theorem ag_rf (σ : xS) : ag σ σ := ⟨rfl, fun _ _ _ => rfl⟩
theorem tmp_2 {σ σ' : xS} (h : σ'.2 = σ.2) (a k : Nat) : tmp σ' a k = tmp σ a k := by unfold tmp; rw [h]
theorem ag_tr {a b c : xS} (h : ag a b) (g : ag b c) : ag a c :=
  ⟨g.1.trans h.1, fun x k hx => by rw [g.2 x k (by rw [tmp_2 h.1]; exact hx), h.2 x k hx]⟩
theorem ag_s {σ : xS} {a k : Nat} {v : Int} (h : tmp σ a k = true) : ag σ (xs σ a k v) := by
  refine ⟨rfl, fun x j hx => ?_⟩
  rw [xs_1]
  by_cases e : x = a
  · subst e
    rw [if_pos rfl, xup_at]
    by_cases ej : j = k
    · subst ej
      rw [h] at hx
      cases hx
    · rw [if_neg ej]
  · rw [if_neg e]
theorem ag_sS {σ : xS} {a k : Nat} {v : Int} (h : tmS a k = true) : ag σ (xs σ a k v) := ag_s (by unfold tmp; rw [h]; rfl)
theorem ag.at {σ σ' : xS} (h : ag σ σ') {a : Nat} (ha : ∀ k, tmp σ a k = false) : σ'.1 a = σ.1 a := funext fun k => h.2 a k (ha k)
theorem ag.sl {σ σ' : xS} (h : ag σ σ') {a k : Nat} (ha : tmp σ a k = false) : σ'.1 a k = σ.1 a k := h.2 a k ha

/-! a new node -/
section NEWN
variable {σ τ : xS} {k : Int}
theorem xnth_app {α : Type} {x : α} : ∀ {l : List α}, xnth (l ++ [x]) l.length = some x
  | [] => rfl
  | _ :: l => xnth_app (l := l)
theorem xnth_ap {α : Type} {x y : α} : ∀ {l : List α} {i : Nat}, xnth l i = some y → xnth (l ++ [x]) i = some y
  | [], _, h => absurd h (by intro h; cases h)
  | _ :: _, 0, h => h
  | _ :: l, i + 1, h => xnth_ap (l := l) (i := i) h
theorem xnth_lt {α : Type} {y : α} : ∀ {l : List α} {i : Nat}, xnth l i = some y → i < l.length
  | [], _, h => absurd h (by intro h; cases h)
  | _ :: _, 0, _ => Nat.succ_pos _
  | _ :: l, i + 1, h => Nat.succ_lt_succ (xnth_lt (l := l) (i := i) h)
/-- where it comes to lie -/
noncomputable def nn (σ : xS) : Nat := xnew xE1 σ
theorem nn_eq : nn σ = 392 + σ.2.1.length := rfl
theorem nn_ge : 392 ≤ nn σ := by rw [nn_eq]; omega
noncomputable def nnd (σ : xS) (k : Int) : xS := xs (xs (xs (xal xE1 σ 7 8) (nn σ) 1 (-1)) (nn σ) 4 108) (nn σ) 0 k
theorem nnd_2 : (nnd σ k).2 = (σ.2.1 ++ [(7, 8)], σ.2.2.1 + 8, σ.2.2.2) := rfl
theorem nnd_ty : xnth (σ.2.1 ++ [(7, 8)]) (nn σ - 392) = some (7, 8) := by
  rw [nn_eq, Nat.add_sub_cancel_left]
  exact xnth_app
theorem nnd_nd : nd (nnd σ k).2.1 (nn σ) := ⟨nn_ge, nnd_ty⟩
theorem nnd_o {b : Nat} (h : nd σ.2.1 b) : nd (nnd σ k).2.1 b ∧ b < nn σ := by
  refine ⟨⟨h.1, xnth_ap h.2⟩, ?_⟩
  have := xnth_lt h.2
  have := h.1
  rw [nn_eq]
  omega
theorem nnd_m {a : Nat} (h : a ≠ nn σ) : (nnd σ k).1 a = σ.1 a := by
  unfold nnd
  rw [xs_ne h, xs_ne h, xs_ne h]
  funext j
  show cond (Nat.beq a (xnew xE1 σ)) 0 (σ.1 a j) = _
  rw [show Nat.beq a (xnew xE1 σ) = false from beq_ff h]
  rfl
theorem nnd_v (q : Nat) : (nnd σ k).1 (nn σ) q = if q = 0 then k else if q = 4 then 108 else if q = 1 then -1 else 0 := by
  unfold nnd
  rw [xs_at, xup_at, xs_at, xup_at, xs_at, xup_at]
  have : (xal xE1 σ 7 8).1 (nn σ) q = 0 := by
    show cond (Nat.beq (nn σ) (xnew xE1 σ)) 0 (σ.1 (nn σ) q) = 0
    rw [show nn σ = xnew xE1 σ from rfl, beq_tt]
    rfl
  rw [this]
theorem nn_run {G : xS → Option (xAV × xS)} (k : Int) : (bif xisO xE1 (xal xE1 σ 7 8) ((xnew xE1 σ : Nat) : Int) 7 then (bif Nat.beq ((xnew xE1 σ : Nat) : Int).toNat 0 then none
    else bif xisO xE1 (xal xE1 σ 7 8) ((xnew xE1 σ : Nat) : Int) 7 then (xob (xwr xE1 (xal xE1 σ 7 8) ((xnew xE1 σ : Nat) : Int) 1 (-1)) none fun s1 => bif xisO xE1 s1 ((xnew xE1 σ : Nat) : Int) 7 then (xob (xwr xE1 s1 ((xnew xE1 σ : Nat) : Int) 4 108) none fun s2 => bif xisO xE1 s2 ((xnew xE1 σ : Nat) : Int) 7 then (xob (xwr xE1 s2 ((xnew xE1 σ : Nat) : Int) 0 k) none fun s3 => G s3) else none) else none) else none) else none) = G (nnd σ k) := by
  have g : 392 ≤ xnew xE1 σ := nn_ge
  have i1 : ∀ τ : xS, τ.2 = (xal xE1 σ 7 8).2 → xisO xE1 τ ((xnew xE1 σ : Nat) : Int) 7 = true := fun τ h => xisO_new (n := 8) g (by rw [h]; exact nnd_ty)
  rw [i1 _ rfl, cnd_t, Int.toNat_natCast, beq_ff (by omega), cnd_f, cnd_t, xwr_new g, xob_some, i1 (xs (xal xE1 σ 7 8) (xnew xE1 σ) 1 (-1)) rfl, cnd_t, xwr_new g, xob_some, i1 (xs (xs (xal xE1 σ 7 8) (xnew xE1 σ) 1 (-1)) (xnew xE1 σ) 4 108) rfl, cnd_t, xwr_new g, xob_some]
  rfl
end NEWN

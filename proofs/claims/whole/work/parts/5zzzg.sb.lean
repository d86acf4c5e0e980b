/-! a StringBuilder of small letters -/
section SBD
variable {σ τ υ : xS}
theorem xshr_0 {x : Int} (h : 0 ≤ x ∧ x < 2147483648) : xshr x 0 = x := by
  show (Int32.ofInt x >>> (0 : Int32)).toInt = x
  rw [Int32.shiftRight_zero, Int32.toInt_ofInt_of_le (by omega) (by omega)]
theorem xna2_c : ∀ c : Nat, c < 128 → xna 2 (c : Int) = (c : Int) := by decide
/-- a StringBuilder's letters -/
def sbd (m : Nat → Nat → Int) (t : List (Nat × Nat)) (a v cap : Nat) (l : List Nat) : Prop := (392 ≤ a ∧ xnth t (a - 392) = some (1, 4)) ∧ (m a 0 = (v : Int) ∧ m a 1 = 0 ∧ m a 3 = (l.length : Int)) ∧ (392 ≤ v ∧ xnth t (v - 392) = some (102, cap)) ∧ (l.length ≤ cap ∧ cap ≤ 50000) ∧ ∀ i, i < l.length → m v i = ((l.getD i 0 : Nat) : Int)
theorem sbd_ne {m : Nat → Nat → Int} {t : List (Nat × Nat)} {a v cap : Nat} {l : List Nat} (h : sbd m t a v cap l) : v ≠ a := fun e => by
  have := h.2.2.1.2
  rw [e, h.1.2] at this
  injection this with q
  injection q with q _
  exact absurd q (by decide)
theorem sb_room {a v cap : Nat} {l : List Nat} (h : sbd σ.1 σ.2.1 a v cap l) {k : Nat} (hk : k ≤ cap) : X iJA_ensureCapacityInternal 0 [(2, (a : Int)), (0, (k : Int)), (9, 0)] [] σ = some ((9, 0), σ) := by
  obtain ⟨⟨h1, h2⟩, ⟨h3, h4, h5⟩, ⟨h6, h7⟩, ⟨h8, h9⟩, h10⟩ := h
  rw [qJA_ensureCapacityInternal_0, xfld_new 0 h1 h2, xob_some, h3, xlen_new (t := 2) h6 h7 (by decide), xob_some, xfld_new 1 h1 h2, xob_some, h4, show xna 2 0 = 0 from rfl, xshr_0 (by omega), xw_id (by omega) (by omega), if_neg (by omega)]
theorem getD_snoc {c : Nat} : ∀ (l : List Nat) (i : Nat), i < l.length + 1 → (l ++ [c]).getD i 0 = if i = l.length then c else l.getD i 0
  | [], i, h => by
    have e : i = 0 := by
      have : i < 0 + 1 := h
      omega
    rw [e]; rfl
  | d :: l, 0, h => by rw [if_neg (by show ¬ 0 = l.length + 1; omega)]; rfl
  | d :: l, i + 1, h => by
    have ih := getD_snoc (c := c) l i (by have : i + 1 < l.length + 1 + 1 := h; omega)
    show (l ++ [c]).getD i 0 = _
    rw [ih]
    by_cases e : i = l.length
    · rw [if_pos e, if_pos (by show i + 1 = l.length + 1; omega)]
    · rw [if_neg e, if_neg (by show ¬ i + 1 = l.length + 1; omega)]; rfl
theorem sb_put {a v cap : Nat} {l : List Nat} (h : sbd σ.1 σ.2.1 a v cap l) {c : Nat} (hl : l.length < cap) : sbd (xs (xs σ a 3 ((l.length + 1 : Nat) : Int)) v l.length (c : Int)).1 σ.2.1 a v cap (l ++ [c]) := by
  have hne := sbd_ne h
  obtain ⟨⟨h1, h2⟩, ⟨h3, h4, h5⟩, ⟨h6, h7⟩, ⟨h8, h9⟩, h10⟩ := h
  have el : (l ++ [c]).length = l.length + 1 := List.length_append
  refine ⟨⟨h1, h2⟩, ⟨?_, ?_, ?_⟩, ⟨h6, h7⟩, ⟨by omega, h9⟩, fun i hi => ?_⟩
  · rw [xs_ne (Ne.symm hne), xs_at, xup_ne (by decide)]; exact h3
  · rw [xs_ne (Ne.symm hne), xs_at, xup_ne (by decide)]; exact h4
  · rw [xs_ne (Ne.symm hne), xs_at, xup_eq, el]
  · rw [el] at hi
    rw [xs_at, xup_at, xs_ne hne, getD_snoc l i hi]
    by_cases e : i = l.length
    · rw [if_pos e, if_pos e]
    · rw [if_neg e, if_neg e]; exact h10 i (by omega)
/-- a letter more, where there is room -/
theorem sb_app {a v cap : Nat} {l : List Nat} (h : sbd σ.1 σ.2.1 a v cap l) {c : Nat} (hc : c < 128) (hl : l.length < cap) : X iJB_append1 0 [(2, (a : Int)), (0, (c : Int))] [] σ = some ((2, (a : Int)), xs (xs σ a 3 ((l.length + 1 : Nat) : Int)) v l.length (c : Int)) := by
  have hr := sb_room h (k := l.length + 1) (by omega)
  have hne := sbd_ne h
  obtain ⟨⟨h1, h2⟩, ⟨h3, h4, h5⟩, ⟨h6, h7⟩, ⟨h8, h9⟩, h10⟩ := h
  have i1 := xisO_new h1 h2
  have ew : xw ((l.length : Int) + 1) = ((l.length + 1 : Nat) : Int) := by rw [xw_id (by omega) (by omega)]; omega
  rw [qJB_append1_0, i1, cnd_t, qJA_append1_0, xfld_new 3 h1 h2, xob_some, i1, cnd_t, h5, ew, hr, Option.bind_some, qJA_append1_10, i1, cnd_t, xfld_new 1 h1 h2, xob_some, h4, if_pos (show xna 2 0 = 0 from rfl), if_neg (by omega), xfld_new 0 h1 h2, xob_some, xfld_new 3 h1 h2, xob_some, cnd_t, h5, ew, xwr_new h1, xob_some, h3, xarr_new (t := 2) h6 (σ := xs σ a 3 ((l.length + 1 : Nat) : Int)) h7, xob_some, if_pos (xin_of (by omega) (by omega)), xwr_new h6, xob_some, Option.bind_some, qJB_append1_5, xna2_c c hc, xna2_c c hc, Int.toNat_natCast]
end SBD

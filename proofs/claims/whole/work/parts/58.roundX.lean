/-! the lorry's round: the class's search -/
section ROUNDX
variable {σ : xS}
def hb (τ : xS) (b : (Int × Int) × List Nat) : Prop := τ.1 209 7 = b.1.1 ∧ τ.1 209 8 = b.1.2 ∧ b.2.length ≤ 8 ∧ ∀ i, i < b.2.length → τ.1 215 i = ((b.2.getD i 0 : Nat) : Int)
def oh (τ : xS) (p : List Nat) : Prop := ∀ i, i < p.length → τ.1 214 i = ((p.getD i 0 : Nat) : Int)
/-- the class's houses as the reference's, nothing else changed -/
def hf (σ τ : xS) : Prop := (∀ a, a ≠ 214 → a ≠ 215 → a ≠ 209 → τ.1 a = σ.1 a) ∧ ∀ k, k ≠ 7 → k ≠ 8 → τ.1 209 k = σ.1 209 k
theorem hf_tr {a b c : xS} (h : hf a b) (g : hf b c) : hf a c := ⟨fun x h1 h2 h3 => (g.1 x h1 h2 h3).trans (h.1 x h1 h2 h3), fun k h1 h2 => (g.2 k h1 h2).trans (h.2 k h1 h2)⟩
def hcx (m : Nat → Nat → Int) (a : Int) : Int := if a = -1 then 0 else m 312 a.toNat
def hcy (m : Nat → Nat → Int) (a : Int) : Int := if a = -1 then 0 else m 313 a.toNat
theorem H_apart (hH : ho_J σ.1) {τ : xS} (hτ : hf σ τ) {a b : Int} (ha : a = -1 ∨ (0 ≤ a ∧ a < σ.1 305 11)) (hb : b = -1 ∨ (0 ≤ b ∧ b < σ.1 305 11)) :
    X iHouses_minutesApart 0 [(2, 209), (0, a), (0, b), (9, 0), (9, 0)] [] τ = some ((0, ab (hcx σ.1 a - hcx σ.1 b) + ab (hcy σ.1 a - hcy σ.1 b)), τ) := by
  have h11 := hH.2.1
  have e1 : τ.1 211 = σ.1 312 := (hτ.1 211 (by decide) (by decide) (by decide)).trans hH.1.2.1
  have e2 : τ.1 212 = σ.1 313 := (hτ.1 212 (by decide) (by decide) (by decide)).trans hH.1.2.2.1
  have fin : ∀ (x1 x2 y1 y2 : Int), 0 ≤ x1 ∧ x1 ≤ 99 → 0 ≤ x2 ∧ x2 ≤ 99 → 0 ≤ y1 ∧ y1 ≤ 99 → 0 ≤ y2 ∧ y2 ≤ 99 → ∀ w, X iHouses_minutesApart 62 [(2, 209), (0, a), (0, b), (0, xw (x1 - x2)), w] [(0, y2), (0, y1)] τ = some ((0, ab (x1 - x2) + ab (y1 - y2)), τ) := by
    intro x1 x2 y1 y2 h1 h2 h3 h4 w
    have a1 := ab_le (x := x1 - x2) (n := 99) (by omega)
    have a2 := ab_le (x := y1 - y2) (n := 99) (by omega)
    rw [qHouses_minutesApart_62, xw_id (x := x1 - x2) (by omega) (by omega), xw_id (x := y1 - y2) (by omega) (by omega), xab_ab (by omega), xab_ab (by omega), xw_id (by omega) (by omega)]
  rw [qHouses_minutesApart_0, e1, e2]
  rcases ha with rfl | ha
  · have ax : hcx σ.1 (-1) = 0 := rfl
    have ay : hcy σ.1 (-1) = 0 := rfl
    rw [if_pos rfl]
    rcases hb with rfl | hb
    · rw [if_pos rfl, if_pos rfl, qHouses_minutesApart_47, if_pos rfl, ax, ay]
      exact fin 0 0 0 0 (by decide) (by decide) (by decide) (by decide) (9, 0)
    · have hr := hH.2.2 b.toNat (by omega)
      have hx : xin b 8 := ⟨hb.1, by omega⟩
      have bx : hcx σ.1 b = σ.1 312 b.toNat := if_neg (by omega)
      have by_ : hcy σ.1 b = σ.1 313 b.toNat := if_neg (by omega)
      rw [if_neg (by omega), if_pos hx, if_pos rfl, qHouses_minutesApart_47, if_neg (by omega), if_pos hx, e2, ax, ay, bx, by_]
      exact fin 0 (σ.1 312 b.toNat) 0 (σ.1 313 b.toNat) (by decide) hr.2.1 (by decide) hr.2.2.1 (9, 0)
  · have hra := hH.2.2 a.toNat (by omega)
    have hxa : xin a 8 := ⟨ha.1, by omega⟩
    have ax : hcx σ.1 a = σ.1 312 a.toNat := if_neg (by omega)
    have ay : hcy σ.1 a = σ.1 313 a.toNat := if_neg (by omega)
    rw [if_neg (by omega), if_pos hxa]
    rcases hb with rfl | hb
    · have bx : hcx σ.1 (-1) = 0 := rfl
      have by_ : hcy σ.1 (-1) = 0 := rfl
      rw [if_pos rfl, if_neg (by omega), if_pos hxa, qHouses_minutesApart_47, if_pos rfl, ax, ay, bx, by_]
      exact fin (σ.1 312 a.toNat) 0 (σ.1 313 a.toNat) 0 hra.2.1 (by decide) hra.2.2.1 (by decide) (9, 0)
    · have hr := hH.2.2 b.toNat (by omega)
      have hx : xin b 8 := ⟨hb.1, by omega⟩
      have bx : hcx σ.1 b = σ.1 312 b.toNat := if_neg (by omega)
      have by_ : hcy σ.1 b = σ.1 313 b.toNat := if_neg (by omega)
      rw [if_neg (by omega), if_pos hx, if_neg (by omega), if_pos hxa, qHouses_minutesApart_47, if_neg (by omega), if_pos hx, e2, ax, ay, bx, by_]
      exact fin (σ.1 312 a.toNat) (σ.1 312 b.toNat) (σ.1 313 a.toNat) (σ.1 313 b.toNat) hra.2.1 hr.2.1 hra.2.2.1 hr.2.2.1 (9, 0)
/-- where the lorry is -/
theorem ro_pos {m : Nat → Nat → Int} {t0 : Int} {p : List Nat} {h : Nat} : (ro_p m t0 (p ++ [h])).2 = (m 312 h, m 313 h) := by rw [ro_snoc]; rfl
theorem xcopy_215 (τ : xS) (n i : Nat) : (xcopy xE1 τ 214 0 215 0 n).1 215 i = if i < n then τ.1 214 i else τ.1 215 i := by
  show cond (Nat.beq 215 215 && (Nat.ble 0 i && Nat.ble (i + 1) (0 + n))) (xag xE1 τ ((214 : Nat) : Int) (0 + (i - 0))) (τ.1 215 i) = _
  have e1 : xag xE1 τ ((214 : Nat) : Int) (0 + (i - 0)) = τ.1 214 (0 + (i - 0)) := rfl
  rw [e1, show 0 + (i - 0) = i by omega, show 0 + n = n by omega, beq_tt, Bool.true_and]
  by_cases h : i < n
  · rw [if_pos h, show Nat.ble 0 i = true from Nat.ble_eq_true_of_le (Nat.zero_le i), show Nat.ble (i + 1) n = true from Nat.ble_eq_true_of_le h]
    rfl
  · rw [if_neg h]
    cases hb : Nat.ble (i + 1) n with
    | true => exact absurd (Nat.le_of_ble_eq_true hb) (by omega)
    | false => rw [Bool.and_false]; rfl
theorem xcopy_ne {τ : xS} {n a : Nat} (h : a ≠ 215) : (xcopy xE1 τ 214 0 215 0 n).1 a = τ.1 a := by
  funext j
  show cond (Nat.beq a 215 && _) _ (τ.1 a j) = τ.1 a j
  rw [beq_ff h]
  rfl
theorem H_goBack (hH : ho_J σ.1) {t0 : Int} (ht0 : 0 ≤ t0 ∧ t0 ≤ 1440) {p : List Nat} (hp : ∀ x ∈ p, (x : Int) < σ.1 305 11) (hp8 : p.length ≤ 8) {τ : xS} (hτ : hf σ τ) (ho : oh τ p) {b : (Int × Int) × List Nat} (hbt : hb τ b) :
    ∃ τ', X iHouses_goBack 0 [(2, 209), (0, (p.length : Int)), (0, t0), (0, (ro_p σ.1 t0 p).1.1), (0, (ro_p σ.1 t0 p).1.2), (9, 0)] [] τ = some ((9, 0), τ') ∧ τ'.2 = τ.2 ∧ hf σ τ' ∧ oh τ' p ∧ hb τ' (if btr (ro_f σ.1 t0 p) b.1 then (ro_f σ.1 t0 p, p) else b) := by
  obtain ⟨i1, i2, i3, i4⟩ := ro_le hH (t0 := t0) hp
  have key : X iHouses_goBack 0 [(2, 209), (0, (p.length : Int)), (0, t0), (0, (ro_p σ.1 t0 p).1.1), (0, (ro_p σ.1 t0 p).1.2), (9, 0)] [] τ = X iHouses_goBack 24 [(2, 209), (0, (p.length : Int)), (0, t0), (0, (ro_p σ.1 t0 p).1.1), (0, (ro_p σ.1 t0 p).1.2), (9, 0)] [(0, (ro_p σ.1 t0 p).2.1 + (ro_p σ.1 t0 p).2.2), (0, (ro_p σ.1 t0 p).1.1 - t0)] τ := by
    rw [qHouses_goBack_0, xw_id (x := (ro_p σ.1 t0 p).1.1 - t0) (by omega) (by omega)]
    rcases List.eq_nil_or_concat p with rfl | ⟨q, h, rfl⟩
    · rw [if_pos (show ((([] : List Nat).length : Nat) : Int) = 0 from rfl), H_apart hH hτ (Or.inl rfl) (Or.inl rfl)]
      simp only [Option.bind_some]
      rfl
    · rw [List.concat_eq_append] at *
      have hh := hp h (by simp)
      have hr := hH.2.2 h (by omega)
      have hl : (q ++ [h]).length = q.length + 1 := by simp
      have oq : τ.1 214 q.length = (h : Int) := by
        rw [ho q.length (by omega), getD_app, if_neg (by omega), Nat.sub_self]
        rfl
      rw [if_neg (by omega), xw_id (x := ((q ++ [h]).length : Int) - 1) (by omega) (by omega), if_pos (xin_of (by omega) (by omega)), show (((q ++ [h]).length : Int) - 1).toNat = q.length by omega, oq, H_apart hH hτ (Or.inr ⟨by omega, hh⟩) (Or.inl rfl)]
      simp only [Option.bind_some]
      rw [show hcx σ.1 (h : Int) = σ.1 312 h from if_neg (by omega), show hcy σ.1 (h : Int) = σ.1 313 h from if_neg (by omega), show hcx σ.1 (-1) = 0 from rfl, show hcy σ.1 (-1) = 0 from rfl, ro_pos]
      have e1 : ab (σ.1 312 h - 0) = σ.1 312 h := by unfold ab; rw [if_pos (by omega)]; omega
      have e2 : ab (σ.1 313 h - 0) = σ.1 313 h := by unfold ab; rw [if_pos (by omega)]; omega
      rw [e1, e2]
  rw [key, qHouses_goBack_24, hbt.1, hbt.2.1]
  have em : xw ((ro_p σ.1 t0 p).1.1 - t0 + ((ro_p σ.1 t0 p).2.1 + (ro_p σ.1 t0 p).2.2)) = (ro_f σ.1 t0 p).2 := by
    rw [xw_id (by omega) (by omega)]
    show _ = (ro_p σ.1 t0 p).1.1 + ((ro_p σ.1 t0 p).2.1 + (ro_p σ.1 t0 p).2.2) - t0
    omega
  rw [em]
  clear em key
  have hcp : ((0 ≤ (0 : Int) ∧ 0 ≤ (0 : Int)) ∧ 0 ≤ (p.length : Int)) ∧ (0 + (p.length : Int) ≤ (8 : Int) ∧ 0 + (p.length : Int) ≤ (8 : Int)) := by omega
  have good : X iHouses_goBack 24 [(2, 209), (0, (p.length : Int)), (0, t0), (0, (ro_p σ.1 t0 p).1.1), (0, (ro_p σ.1 t0 p).1.2), (9, 0)] [(0, (ro_p σ.1 t0 p).2.1 + (ro_p σ.1 t0 p).2.2), (0, (ro_p σ.1 t0 p).1.1 - t0)] τ = X iHouses_goBack 24 [(2, 209), (0, (p.length : Int)), (0, t0), (0, (ro_p σ.1 t0 p).1.1), (0, (ro_p σ.1 t0 p).1.2), (9, 0)] [(0, (ro_p σ.1 t0 p).2.1 + (ro_p σ.1 t0 p).2.2), (0, (ro_p σ.1 t0 p).1.1 - t0)] τ := rfl
  clear good
  have take : hf σ (xcopy xE1 (xs (xs τ 209 7 (ro_p σ.1 t0 p).1.2) 209 8 (ro_f σ.1 t0 p).2) 214 0 215 0 (p.length : Int).toNat) ∧ oh (xcopy xE1 (xs (xs τ 209 7 (ro_p σ.1 t0 p).1.2) 209 8 (ro_f σ.1 t0 p).2) 214 0 215 0 (p.length : Int).toNat) p ∧ hb (xcopy xE1 (xs (xs τ 209 7 (ro_p σ.1 t0 p).1.2) 209 8 (ro_f σ.1 t0 p).2) 214 0 215 0 (p.length : Int).toNat) (ro_f σ.1 t0 p, p) := by
    rw [Int.toNat_natCast]
    refine ⟨⟨fun a h1 h2 h3 => ?_, fun k h1 h2 => ?_⟩, fun i hi => ?_, ?_, ?_, hp8, fun i hi => ?_⟩
    · rw [xcopy_ne h2, xs_ne h3, xs_ne h3, hτ.1 a h1 h2 h3]
    · rw [xcopy_ne (by decide), xs_at, xs_at, xup_ne h2, xup_ne h1, hτ.2 k h1 h2]
    · rw [xcopy_ne (by decide), xs_ne (by decide), xs_ne (by decide)]
      exact ho i hi
    · rw [xcopy_ne (by decide), xs_at, xs_at, xup_ne (by decide), xup_eq]
      rfl
    · rw [xcopy_ne (by decide), xs_at, xup_eq]
    · rw [xcopy_215, if_pos hi, xs_ne (by decide), xs_ne (by decide)]
      exact ho i hi
  by_cases c1 : (ro_p σ.1 t0 p).1.2 < b.1.1
  · rw [if_pos c1, if_pos hcp, if_pos (show btr (ro_f σ.1 t0 p) b.1 from Or.inl c1)]
    exact ⟨_, rfl, rfl, take.1, take.2.1, take.2.2⟩
  · rw [if_neg c1]
    by_cases c2 : (ro_p σ.1 t0 p).1.2 = b.1.1
    · rw [if_pos c2]
      by_cases c3 : (ro_f σ.1 t0 p).2 < b.1.2
      · rw [if_pos c3, if_pos hcp, if_pos (show btr (ro_f σ.1 t0 p) b.1 from Or.inr ⟨c2, c3⟩)]
        exact ⟨_, rfl, rfl, take.1, take.2.1, take.2.2⟩
      · rw [if_neg c3, if_neg (show ¬ btr (ro_f σ.1 t0 p) b.1 from fun q => q.elim c1 fun q => c3 q.2)]
        exact ⟨τ, rfl, rfl, hτ, ho, hbt⟩
    · rw [if_neg c2, if_neg (show ¬ btr (ro_f σ.1 t0 p) b.1 from fun q => q.elim c1 fun q => c2 q.1)]
      exact ⟨τ, rfl, rfl, hτ, ho, hbt⟩
end ROUNDX

/-! the night: the class's plan -/
theorem fill_265 (x : Int) (τ : xS) : X iJR_fill1 0 [(2, 265), (0, x), (9, 0), (9, 0)] [] τ = some ((9, 0), xs (xs (xs τ 265 0 x) 265 1 x) 265 2 x) := by
  have s : ∀ (τ : xS) (k : Nat), k < 3 → X iJR_fill1 5 [(2, 265), (0, x), (0, (k : Int)), (0, 3)] [] τ = X iJR_fill1 5 [(2, 265), (0, x), (0, ((k + 1 : Nat) : Int)), (0, 3)] [] (xs τ 265 k x) := by
    intro τ k hk
    have e1 : ((k + 1 : Nat) : Int) = (k : Int) + 1 := rfl
    rw [e1, qJR_fill1_5, if_pos (by omega), show xarr xE1 τ 265 0 = some 3 from rfl, xob_some, if_pos (xin_of (by omega) (by omega)), Int.toNat_natCast, show xwr xE1 τ 265 k x = some (xs τ 265 k x) from rfl, xob_some, xw_s (by omega)]
  rw [qJR_fill1_0, show xlen xE1 τ 265 = some 3 from rfl, xob_some]
  show X iJR_fill1 5 [(2, 265), (0, x), (0, ((0 : Nat) : Int)), (0, 3)] [] τ = _
  rw [s τ 0 (by decide), s _ 1 (by decide), s _ 2 (by decide), qJR_fill1_5, if_neg (by decide)]
theorem fill_266 (x : Int) (τ : xS) : X iJR_fill1 0 [(2, 266), (0, x), (9, 0), (9, 0)] [] τ = some ((9, 0), xs (xs (xs τ 266 0 x) 266 1 x) 266 2 x) := by
  have s : ∀ (τ : xS) (k : Nat), k < 3 → X iJR_fill1 5 [(2, 266), (0, x), (0, (k : Int)), (0, 3)] [] τ = X iJR_fill1 5 [(2, 266), (0, x), (0, ((k + 1 : Nat) : Int)), (0, 3)] [] (xs τ 266 k x) := by
    intro τ k hk
    have e1 : ((k + 1 : Nat) : Int) = (k : Int) + 1 := rfl
    rw [e1, qJR_fill1_5, if_pos (by omega), show xarr xE1 τ 266 0 = some 3 from rfl, xob_some, if_pos (xin_of (by omega) (by omega)), Int.toNat_natCast, show xwr xE1 τ 266 k x = some (xs τ 266 k x) from rfl, xob_some, xw_s (by omega)]
  rw [qJR_fill1_0, show xlen xE1 τ 266 = some 3 from rfl, xob_some]
  show X iJR_fill1 5 [(2, 266), (0, x), (0, ((0 : Nat) : Int)), (0, 3)] [] τ = _
  rw [s τ 0 (by decide), s _ 1 (by decide), s _ 2 (by decide), qJR_fill1_5, if_neg (by decide)]
theorem fill_267 (x : Int) (τ : xS) : X iJR_fill1 0 [(2, 267), (0, x), (9, 0), (9, 0)] [] τ = some ((9, 0), xs (xs (xs τ 267 0 x) 267 1 x) 267 2 x) := by
  have s : ∀ (τ : xS) (k : Nat), k < 3 → X iJR_fill1 5 [(2, 267), (0, x), (0, (k : Int)), (0, 3)] [] τ = X iJR_fill1 5 [(2, 267), (0, x), (0, ((k + 1 : Nat) : Int)), (0, 3)] [] (xs τ 267 k x) := by
    intro τ k hk
    have e1 : ((k + 1 : Nat) : Int) = (k : Int) + 1 := rfl
    rw [e1, qJR_fill1_5, if_pos (by omega), show xarr xE1 τ 267 0 = some 3 from rfl, xob_some, if_pos (xin_of (by omega) (by omega)), Int.toNat_natCast, show xwr xE1 τ 267 k x = some (xs τ 267 k x) from rfl, xob_some, xw_s (by omega)]
  rw [qJR_fill1_0, show xlen xE1 τ 267 = some 3 from rfl, xob_some]
  show X iJR_fill1 5 [(2, 267), (0, x), (0, ((0 : Nat) : Int)), (0, 3)] [] τ = _
  rw [s τ 0 (by decide), s _ 1 (by decide), s _ 2 (by decide), qJR_fill1_5, if_neg (by decide)]
theorem xup3 {f : Nat → Int} {x : Int} {w : Nat} (hw : w < 3) : xup (xup (xup f 0 x) 1 x) 2 x w = x := by
  rw [xup_at, xup_at, xup_at]
  by_cases e2 : w = 2
  · rw [if_pos e2]
  · rw [if_neg e2]
    by_cases e1 : w = 1
    · rw [if_pos e1]
    · rw [if_neg e1, if_pos (by omega)]
section NIGHTP
variable {σ : xS}
/-- the best of all orders of the night -/
def ng_K (m : Nat → Nat → Int) (mx : Int → Int → Bool) : (Int × Int) × List Nat := bst (fun q => (ng_p m mx q).2.1) b0 (ps (m 305 107).toNat (List.range (m 305 107).toNat))
theorem C_plan (hP : pJ σ.1) (h1 : 1 ≤ σ.1 305 102) (hdp : 14 ≤ xdp σ) {mx : Int → Int → Bool} {mi : Int} (hm : ∀ a b : Int, 0 ≤ a ∧ a ≤ 3 → 0 ≤ b ∧ b ≤ 3 → (xiand (xshr mi (4 * a + b)) 1 = 0 ↔ mx a b = false)) :
    ∃ τ', X iNight_plan 0 [(2, 258), (0, mi)] [] σ = some ((9, 0), τ') ∧ ag σ τ' ∧ nb σ.1 mx τ' (ng_K σ.1 mx) := by
  have h107 := hP.2.2.2.2.2.2.1.2.2.2.2.1
  obtain ⟨n, hn⟩ : ∃ n : Nat, σ.1 305 107 = n := ⟨(σ.1 305 107).toNat, by omega⟩
  have en : (σ.1 305 107).toNat = n := by omega
  have hz : ∀ h : Nat, h < 7 → bz 0 h := by decide
  have hA : nA σ mx (xs (xs (xs (xs (xs (xs (xs (xs (xs (xs (xs (xs σ 258 10 mi) 258 18 1000000000) 258 19 1000000000) 265 0 0) 265 1 0) 265 2 0) 266 0 (-1)) 266 1 (-1)) 266 2 (-1)) 267 0 0) 267 1 0) 267 2 0) [] b0 := by
    refine ⟨⟨fun a a1 a2 => ?_, fun k k1 k2 k3 => ?_⟩, ⟨fun w hw => ⟨?_, ?_, ?_⟩, fun x y hx hy => ?_⟩, fun i hi => absurd hi (Nat.not_lt_zero i), fun j hj => absurd hj List.not_mem_nil, ?_, ?_, fun i hi => absurd hi (Nat.not_lt_zero i), fun j hj => absurd hj List.not_mem_nil⟩
    · rw [xs_ne (by omega), xs_ne (by omega), xs_ne (by omega), xs_ne (by omega), xs_ne (by omega), xs_ne (by omega), xs_ne (by omega), xs_ne (by omega), xs_ne (by omega), xs_ne a2, xs_ne a2, xs_ne a2]
    · rw [xs_ne (by decide), xs_ne (by decide), xs_ne (by decide), xs_ne (by decide), xs_ne (by decide), xs_ne (by decide), xs_ne (by decide), xs_ne (by decide), xs_ne (by decide), xs_at, xs_at, xs_at, xup_ne k2, xup_ne k1, xup_ne k3]
    · rw [xs_ne (by decide), xs_ne (by decide), xs_ne (by decide), xs_ne (by decide), xs_ne (by decide), xs_ne (by decide), xs_at, xs_at, xs_at, xup3 hw]
      rfl
    · rw [xs_ne (by decide), xs_ne (by decide), xs_ne (by decide), xs_at, xs_at, xs_at, xup3 hw]
      rfl
    · rw [xs_at, xs_at, xs_at, xup3 hw]
      rfl
    · rw [xs_ne (by decide), xs_ne (by decide), xs_ne (by decide), xs_ne (by decide), xs_ne (by decide), xs_ne (by decide), xs_ne (by decide), xs_ne (by decide), xs_ne (by decide), xs_at, xs_at, xs_at, xup_ne (by decide), xup_ne (by decide), xup_eq]
      exact hm x y hx hy
    · rw [xs_ne (by decide), xs_ne (by decide), xs_ne (by decide), xs_ne (by decide), xs_ne (by decide), xs_ne (by decide), xs_ne (by decide), xs_ne (by decide), xs_ne (by decide), xs_at, xs_at, xs_at, xup_ne (by decide), xup_eq]
      rfl
    · rw [xs_ne (by decide), xs_ne (by decide), xs_ne (by decide), xs_ne (by decide), xs_ne (by decide), xs_ne (by decide), xs_ne (by decide), xs_ne (by decide), xs_ne (by decide), xs_at, xup_eq]
      rfl
  obtain ⟨τ', q1, q2, q3⟩ := C_search hP h1 (mx := mx) hn n (List.range n) [] 0 _ b0 List.length_range asc_range (fun x hx => List.mem_range.mp hx) (Nat.zero_add n) (fun x _ h => absurd h List.not_mem_nil) ⟨by decide, fun h hh => ⟨fun _ => List.mem_range.mpr hh, fun _ => hz h (by omega)⟩⟩ hA (by show 2 * n ≤ xdp σ; omega)
  have q1 : X iNight_search 0 [(2, 258), (0, 0), (0, 0), (0, 0), (0, 0), (9, 0), (9, 0)] [] _ = some ((9, 0), τ') := q1
  have q2 : τ'.2 = σ.2 := q2
  have hK : ng_K σ.1 mx = bst (fun q => (ng_p σ.1 mx q).2.1) b0 ((ps n (List.range n)).map ([] ++ ·)) := by
    unfold ng_K
    rw [en]
    congr 1
    exact (List.map_id _).symm
  rw [hK]
  refine ⟨τ', ?_, ?_, q3.2.2.2.2⟩
  · rw [qNight_plan_0, fill_265]
    simp only [Option.bind_some]
    rw [qNight_plan_25, fill_266]
    simp only [Option.bind_some]
    rw [qNight_plan_33, fill_267]
    simp only [Option.bind_some]
    rw [qNight_plan_41, q1]
    simp only [Option.bind_some]
    rw [qNight_plan_49]
  · have := nf_ag q3.1
    rw [q2] at this
    exact this
end NIGHTP

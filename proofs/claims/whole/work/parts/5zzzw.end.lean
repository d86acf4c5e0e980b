/-! where the reference ends reading; what stands behind a text that was read -/
section FIN
variable {B : Nat → Int} {n C : Nat} {A : Nat → Nat → Int} {F M S : Nat} {cs : Nat → Nat} {σ0 σ τ υ : xS} {e : Int} {j c c0 k q x cz : Nat} {f : Nat → Nat → Int}
theorem M_end (h : tq B n A F S σ.1 (-1) j c f) (h1 : t_c B n j = 1) (hx : σ.1 305 49 = (x : Int)) (h8 : x < 8) (w : xAV) (v2 : Int) : X iM_terms 69 [(2, 305), w, (0, v2)] [] σ = some ((0, (x : Int)), xs (xs (xs (xs σ 341 x (F : Int)) 342 x ((S - F : Nat) : Int)) 343 x (σ.1 305 0)) 305 49 ((x + 1 : Nat) : Int)) := by
  have hS := h.2.2.2.2.2.2
  have e1 : xw (σ.1 305 57 - σ.1 305 76) = ((S - F : Nat) : Int) := by
    rw [h.2.2.2.2.1, h.2.2.2.2.2.1, xw_id (by omega) (by omega)]; omega
  have e2 : xw ((x : Int) + 1) = ((x + 1 : Nat) : Int) := xw_t (by omega)
  have e3 : xw (((x + 1 : Nat) : Int) - 1) = (x : Int) := by rw [xw_id (by omega) (by omega)]; omega
  have hi : xin (x : Int) 8 := xin_of (by omega) (by omega)
  rw [qM_terms_69, if_pos ((tk_0 h.1.2).mpr h1), if_pos (tq_0 h), hx, if_pos hi, if_pos hi, if_pos hi, e1, e2, e3, h.2.2.2.2.1, Int.toNat_natCast]
theorem M_badend (h : tz B n F S σ.1 e) (w : xAV) (v2 : Int) : X iM_terms 69 [(2, 305), w, (0, v2)] [] σ = some ((0, -1), xs (xs σ 305 57 (F : Int)) 305 64 v2) := by
  have hn := tz_ne h
  rw [qM_terms_69, h.2.2.1]
  by_cases h7 : σ.1 305 71 = 0
  · rw [if_pos h7, if_neg hn]
  · rw [if_neg h7, if_neg hn, if_neg hn]
/-- what a text that was read leaves -/
theorem lps_end (h : lps B n C σ0 σ A f F M j c cz cs k q) (hn : n ≤ 400) : (σ.1 297 14 = -1 ∧ σ.1 297 11 = cn cs M 0 ∧ σ.1 297 13 = (lkc (A 0) F M : Int)) ∧ gy σ0 σ k q ∧ (k ≤ 400 + 4 * M ∧ q ≤ 3200 + 40 * M ∧ c ≤ cz + 400 ∧ tws A f F M ≤ 1200) ∧ ∀ i, i < M → nd σ.2.1 (cs i) ∧ σ.1 (cs i) 7 = cn cs M (i + 1) ∧ A 5 (F + i) ≤ c ∧ ∃ ah, stN A f σ.1 σ.2.1 F (F + i) (cs i) ah := by
  obtain ⟨⟨h1, h2, h3⟩, h4, h5, ⟨b1, b2, b3, b4, b5⟩, h8, h9⟩ := h
  have jC := h1.2.1.1
  have C4 := h1.1.2.1.1
  have hp : ptk B n j ≤ n := ptk_le j
  refine ⟨⟨h1.2.2.2, h2.1, h3⟩, h5, ⟨by omega, by omega, by omega, by omega⟩, fun i hi => ?_⟩
  obtain ⟨o1, o2, ah, o3, _⟩ := h8 i hi
  obtain ⟨d1, d2, _⟩ := h2.2 i hi
  exact ⟨d1, d2, o2, ah, o3⟩
end FIN

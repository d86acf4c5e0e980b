/-! where both begin to read -/
section STA
variable {B : Nat → Int} {n C : Nat} {A : Nat → Nat → Int} {F M S : Nat} {cs : Nat → Nat} {σ0 σ τ υ : xS} {j c c0 k q : Nat} {f : Nat → Nat → Int}
theorem C_start (hn : n ≤ 400) (hB : ∀ i, i < n → σ.1 304 i % 65536 = B i ∧ 0 ≤ B i ∧ B i ≤ 255) : ∃ σ' C, X iReader_readAll1 0 [(2, 297), (2, 304), (0, (n : Int)), (9, 0), (9, 0)] [] σ = X iReader_readAll1 31 [(2, 297), (2, 304), (0, (n : Int)), (0, 0), (9, 0)] [] σ' ∧ rst σ'.1 B n C 0 0 ∧ (σ'.1 297 11 = 0 ∧ σ'.1 297 12 = 0 ∧ σ'.1 297 13 = 0) ∧ σ'.2 = σ.2 ∧ ∀ a, a ≠ 297 → ¬ (299 ≤ a ∧ a ≤ 303) → σ'.1 a = σ.1 a := by
  have e1 : xmm 1 (n : Int) (xmm 1 ((400 : Nat) : Int) 400) = (n : Int) := by
    have h1 : xmm 1 ((400 : Nat) : Int) 400 = 400 := rfl
    rw [h1]
    show (if (400 : Int) < (n : Int) then (400 : Int) else (n : Int)) = _
    rw [if_neg (by omega)]
  have hR : rdr (xs (xs σ 297 0 304) 297 1 (n : Int)).1 B n := by
    refine ⟨?_, ?_, hn, fun i hi => ?_⟩
    · rw [xs_at, xup_ne (by decide), xs_at, xup_eq]
    · rw [xs_at, xup_eq]
    · rw [xs_ne (by decide), xs_ne (by decide)]; exact hB i hi
  obtain ⟨τ, C, s1, s2, s3⟩ := C_scanAll hR
  have hR2 := rdr_rfm hR s2
  obtain ⟨t1, t2, t3, t4, t5⟩ := s3.2.2 0 (Nat.zero_le _)
  have xc : xna 3 (τ.1 301 0) = t_c B n 0 := by rw [t3]; exact xna3_c hR2
  have xc2 : xna 3 (xna 3 (τ.1 301 0)) = xna 3 (τ.1 301 0) := by rw [xc]; exact xna3_c hR2
  have e7 : ∀ i, i ≠ 7 → i ≠ 8 → i ≠ 9 → i ≠ 10 → i ≠ 11 → i ≠ 12 → i ≠ 13 → i ≠ 14 → (xs (xs (xs (xs (xs (xs (xs (xs τ 297 7 0) 297 8 (xna 3 (τ.1 301 0))) 297 9 (τ.1 303 0)) 297 10 0) 297 11 0) 297 12 0) 297 13 0) 297 14 (-1)).1 297 i = τ.1 297 i := fun i h7 h8 h9 h10 h11 h12 h13 h14 => by
    rw [xs_at, xup_ne h14, xs_at, xup_ne h13, xs_at, xup_ne h12, xs_at, xup_ne h11, xs_at, xup_ne h10, xs_at, xup_ne h9, xs_at, xup_ne h8, xs_at, xup_ne h7]
  have eo : ∀ a, a ≠ 297 → (xs (xs (xs (xs (xs (xs (xs (xs τ 297 7 0) 297 8 (xna 3 (τ.1 301 0))) 297 9 (τ.1 303 0)) 297 10 0) 297 11 0) 297 12 0) 297 13 0) 297 14 (-1)).1 a = τ.1 a := fun a ha => by
    rw [xs_ne ha, xs_ne ha, xs_ne ha, xs_ne ha, xs_ne ha, xs_ne ha, xs_ne ha, xs_ne ha]
  refine ⟨xs (xs (xs (xs (xs (xs (xs (xs τ 297 7 0) 297 8 (xna 3 (τ.1 301 0))) 297 9 (τ.1 303 0)) 297 10 0) 297 11 0) 297 12 0) 297 13 0) 297 14 (-1), C, ?_, ⟨⟨?_, s3.1, s3.2.1, fun i hi => ?_⟩, ⟨Nat.zero_le _, ?_, ?_, ?_⟩, ⟨?_, by decide, by decide⟩, ?_⟩, ⟨?_, ?_, ?_⟩, ?_, fun a ha hb => ?_⟩
  · have hl : xlen xE1 (xs σ 297 0 304) 304 = some 400 := rfl
    rw [qReader_readAll1_0, hl, xob_some, e1, s1, Option.bind_some, qReader_readAll1_25, qReader_begin_0, if_pos xc2, Option.bind_some, qReader_readAll1_29]
    rfl
  · unfold rdr
    rw [e7 0 (by decide) (by decide) (by decide) (by decide) (by decide) (by decide) (by decide) (by decide), e7 1 (by decide) (by decide) (by decide) (by decide) (by decide) (by decide) (by decide) (by decide), eo 304 (by decide)]
    exact hR2
  · unfold tka
    rw [eo 299 (by decide), eo 300 (by decide), eo 301 (by decide), eo 302 (by decide), eo 303 (by decide)]
    exact s3.2.2 i hi
  · rw [xs_at, xup_ne (by decide), xs_at, xup_ne (by decide), xs_at, xup_ne (by decide), xs_at, xup_ne (by decide), xs_at, xup_ne (by decide), xs_at, xup_ne (by decide), xs_at, xup_ne (by decide), xs_at, xup_eq]; rfl
  · rw [xs_at, xup_ne (by decide), xs_at, xup_ne (by decide), xs_at, xup_ne (by decide), xs_at, xup_ne (by decide), xs_at, xup_ne (by decide), xs_at, xup_ne (by decide), xs_at, xup_eq]; exact xc
  · rw [xs_at, xup_ne (by decide), xs_at, xup_ne (by decide), xs_at, xup_ne (by decide), xs_at, xup_ne (by decide), xs_at, xup_ne (by decide), xs_at, xup_eq]; exact t5
  · rw [xs_at, xup_ne (by decide), xs_at, xup_ne (by decide), xs_at, xup_ne (by decide), xs_at, xup_ne (by decide), xs_at, xup_eq]
  · rw [xs_at, xup_eq]
  · rw [xs_at, xup_ne (by decide), xs_at, xup_ne (by decide), xs_at, xup_ne (by decide), xs_at, xup_eq]
  · rw [xs_at, xup_ne (by decide), xs_at, xup_ne (by decide), xs_at, xup_eq]
  · rw [xs_at, xup_ne (by decide), xs_at, xup_eq]
  · exact s2.1
  · rw [eo a ha, s2.2 a hb, xs_ne ha, xs_ne ha]
theorem lps_0 (hr : rst σ.1 B n C 0 0) (h : σ.1 297 11 = 0 ∧ σ.1 297 12 = 0 ∧ σ.1 297 13 = 0) (A f : Nat → Nat → Int) (F c : Nat) (cs : Nat → Nat) : lps B n C σ σ A f F 0 0 c c cs 0 0 :=
  ⟨⟨hr, ⟨by rw [h.1, cn_ge (by omega)], fun i hi => absurd hi (Nat.not_lt_zero i)⟩, h.2.2⟩, ⟨fun _ => h.2.1, fun x hx => absurd hx (by omega)⟩, ⟨⟨[], (List.append_nil _).symm, Nat.le_refl _⟩, Nat.le_refl _, rfl, fun _ _ _ => rfl, fun _ _ _ _ _ => rfl⟩, ⟨by omega, by omega, by omega, by omega, Nat.zero_le _⟩, fun i hi => absurd hi (Nat.not_lt_zero i), fun i hi => absurd hi (Nat.not_lt_zero i)⟩
/-- the reference's first token -/
theorem M_start (hn : n ≤ 400) (hB : ∀ i, i < n → B i = τ.1 357 i % 256) (hB2 : ∀ i, 0 ≤ B i ∧ B i ≤ 255) (h66 : (n : Int) ≤ τ.1 305 66) (h49 : τ.1 305 49 ≠ 8) (h57 : τ.1 305 57 = (F : Int)) (hF : F ≤ 199) (h64 : τ.1 305 64 = (c : Int)) : ∃ τ', X iM_terms 0 [(2, 305), (0, (n : Int)), (9, 0)] [] τ = X iM_terms 69 [(2, 305), (0, (n : Int)), (0, (c : Int))] [] τ' ∧ tq B n (fun q => τ.1 (344 + q)) F F τ'.1 (-1) 0 c (fun q => τ.1 (351 + q)) ∧ τ'.2 = τ.2 ∧ (∀ a, a ≠ 305 → τ'.1 a = τ.1 a) ∧ (∀ k, ¬ (66 ≤ k ∧ k ≤ 76) → τ'.1 305 k = τ.1 305 k) ∧ τ'.1 305 66 = 0 := by
  generalize hσ : (xs (xs (xs (xs (xs (xs τ 305 68 (n : Int)) 305 66 0) 305 69 0) 305 67 (-1)) 305 74 0) 305 76 (τ.1 305 57)) = σ
  have eo : ∀ a, a ≠ 305 → σ.1 a = τ.1 a := fun a ha => by rw [← hσ, xs_ne ha, xs_ne ha, xs_ne ha, xs_ne ha, xs_ne ha, xs_ne ha]
  have es : ∀ k, ¬ (66 ≤ k ∧ k ≤ 76) → σ.1 305 k = τ.1 305 k := fun k hk => by rw [← hσ, xs_at, xup_ne (by omega), xs_at, xup_ne (by omega), xs_at, xup_ne (by omega), xs_at, xup_ne (by omega), xs_at, xup_ne (by omega), xs_at, xup_ne (by omega)]
  have e68 : σ.1 305 68 = (n : Int) := by rw [← hσ, xs_at, xup_ne (by decide), xs_at, xup_ne (by decide), xs_at, xup_ne (by decide), xs_at, xup_ne (by decide), xs_at, xup_ne (by decide), xs_at, xup_eq]
  have e69 : σ.1 305 69 = 0 := by rw [← hσ, xs_at, xup_ne (by decide), xs_at, xup_ne (by decide), xs_at, xup_ne (by decide), xs_at, xup_eq]
  have e67 : σ.1 305 67 = -1 := by rw [← hσ, xs_at, xup_ne (by decide), xs_at, xup_ne (by decide), xs_at, xup_eq]
  have e66 : σ.1 305 66 = 0 := by rw [← hσ, xs_at, xup_ne (by decide), xs_at, xup_ne (by decide), xs_at, xup_ne (by decide), xs_at, xup_ne (by decide), xs_at, xup_eq]
  have e74 : σ.1 305 74 = 0 := by rw [← hσ, xs_at, xup_ne (by decide), xs_at, xup_eq]
  have e76 : σ.1 305 76 = (F : Int) := by rw [← hσ, xs_at, xup_eq]; exact h57
  have e2 : σ.2 = τ.2 := by rw [← hσ]; rfl
  have hT : tpB σ.1 B n := ⟨hn, e68, fun i hi => by rw [eo 357 (by decide)]; exact hB i hi, hB2⟩
  obtain ⟨τ', k1, k2, k3⟩ := M_next hT (9, 0) (j := 0) (by rw [e69]; rfl)
  have ht (k : Nat) (hk : ¬ pnx k) : τ'.1 305 k = σ.1 305 k := k2.2.2 k hk
  refine ⟨τ', ?_, ⟨⟨tpB_slt (by decide) k2 hT, k3⟩, Or.inl ⟨rfl, by rw [ht _ (by decide)]; exact e74, by rw [ht _ (by decide)]; exact e67⟩, ⟨by rw [ht _ (by decide), es 64 (by omega)]; exact h64, fun q hq => by rw [k2.2.1 _ (by omega), eo _ (by omega)]⟩, fun q hq => by rw [k2.2.1 _ (by omega), eo _ (by omega)], by rw [ht _ (by decide)]; exact e76, by rw [ht _ (by decide), es 57 (by omega)]; exact h57, Nat.le_refl _, hF⟩, k2.1.trans e2, fun a ha => by rw [k2.2.1 a ha, eo a ha], fun k hk => by rw [ht k (by omega), es k hk], by rw [ht _ (by decide)]; exact e66⟩
  rw [qM_terms_0, if_neg (by omega), if_neg (by omega), if_neg h49, hσ, k1, Option.bind_some, h64]
end STA

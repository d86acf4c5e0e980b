/-! buying: the class chooses, from its start -/
section BUYD
variable {σ : xS}
theorem by_tm {dy b : Nat} (hd : dy < 10) : tmS (275 + dy) b = true := by
  have : dy = 0 ∨ dy = 1 ∨ dy = 2 ∨ dy = 3 ∨ dy = 4 ∨ dy = 5 ∨ dy = 6 ∨ dy = 7 ∨ dy = 8 ∨ dy = 9 := by omega
  rcases this with rfl | rfl | rfl | rfl | rfl | rfl | rfl | rfl | rfl | rfl <;> rfl
theorem C_choose {P C K t : Int} {dy b : Nat} (hd : dy < 10) (hb : b + 5 ≤ 50) (hP : 1 ≤ P ∧ P ≤ 20) (hC : 0 ≤ C ∧ C ≤ 1000) (hK : 0 ≤ K ∧ K ≤ 100) (ht : -1000000 ≤ t ∧ t ≤ 1200) {later : Nat → Int} (hl : ∀ n, n < 6 → -1 ≤ later n ∧ later n ≤ 2000000) {τ : xS} (hτ : ag σ τ) (h0 : τ.1 272 0 = P) (h1 : τ.1 272 1 = C) (h2 : τ.1 272 2 = K) (hL : ∀ n, n < 6 → τ.1 (275 + (dy + 1)) (b + n) = by_e (later n)) :
    ∃ τ', X iSupply_choose 0 [(2, 272), (0, (dy : Int)), (0, (b : Int)), (0, t), (9, 0), (9, 0), (9, 0)] [] τ = some ((9, 0), τ') ∧ ag σ τ' ∧ (∀ a i, ¬ (a = 275 + dy ∧ i = b) → ¬ (a = 287 + dy ∧ i = b) → τ'.1 a i = τ.1 a i) ∧ τ'.1 (275 + dy) b = by_e (by_g (fun n => by_c1 P C K t (later n) n) 6).1 ∧ (0 ≤ (by_g (fun n => by_c1 P C K t (later n) n) 6).1 → τ'.1 (287 + dy) b = ((by_g (fun n => by_c1 P C K t (later n) n) 6).2 : Int)) := by
  obtain ⟨s1, s2, s3, s4, s5⟩ := by_row (σ := τ) (a := dy) (by omega)
  rw [qSupply_choose_0, if_pos (xin_of (by omega) (by omega)), Int.toNat_natCast, s1, s2, xob_some, if_pos (xin_of (by omega) (by omega)), Int.toNat_natCast, s4, xob_some]
  obtain ⟨τ', q1, q2, q3, q4⟩ := C_choose_13 (σ := σ) hd hb hP hC hK ht hl 6 0 (9, 0) (9, 0) (xs τ (275 + dy) b 1000000000) (by omega) (ag_tr hτ (ag_sS (by_tm hd))) (by rw [xs_ne (by omega)]; exact h0) (by rw [xs_ne (by omega)]; exact h1) (by rw [xs_ne (by omega)]; exact h2) (fun n hn => by rw [xs_ne (by omega)]; exact hL n hn) (by rw [xs_at, xup_eq]; rfl) (fun h => absurd h (by show ¬ 0 ≤ (-1 : Int); decide))
  refine ⟨τ', q1, q2, fun a i a1 a2 => ?_, q4⟩
  rw [q3 a i a1 a2]
  by_cases z2 : a = 275 + dy
  · subst z2
    rw [xs_at, xup_ne (fun z3 => a1 ⟨rfl, z3⟩)]
  · rw [xs_ne z2]
end BUYD

/-! words in the class -/
section WRD
variable {σ τ υ : xS} {B : Nat → Int} {n C : Nat} {o : Int} {j : Nat}
theorem t_let2 (h : t_c B n j = 2) : t_s B n j < n ∧ 1 ≤ t_e B n j - t_s B n j ∧ ∀ i, i < t_e B n j - t_s B n j → 97 ≤ B (t_s B n j + i) ∧ B (t_s B n j + i) ≤ 122 := by
  have hn : t_s B n j < n := by
    by_cases q : t_s B n j < n
    · exact q
    · have : t_c B n j = 1 := by
        show (if t_s B n j < n then _ else (1 : Int)) = 1
        rw [if_neg q]
      rw [this] at h
      exact absurd h (by decide)
  have e := t_c_of hn
  rw [h] at e
  have e2 : kq (B (t_s B n j)) = 2 := by
    by_cases q : kq (B (t_s B n j)) = 3 ∧ 9 < t_e B n j - t_s B n j
    · rw [if_pos q] at e; exact absurd e (by decide)
    · rw [if_neg q] at e; exact e.symm
  obtain ⟨g1, g2, g3, g4⟩ := t_s_le (B := B) (n := n) j
  have := g4 hn
  exact ⟨hn, by omega, fun i hi => (t_let hn (kq_2.mp e2)).2 _ (by omega) (by omega)⟩
theorem t_k_cases : (t_k B n j = 0 ∧ ∀ q, q < 32 → ¬ tW B n j (kcd q)) ∨ ∃ q, q < 32 ∧ t_k B n j = ((2 + q : Nat) : Int) ∧ tW B n j (kcd q) := by
  unfold t_k
  by_cases c : t_c B n j = 2
  · rw [if_pos c]
    obtain ⟨h1, h2, h3⟩ := t_let2 c
    rcases kwf_0 h3 h2 with ⟨q, k1, k2, k3⟩ | ⟨k1, k2⟩
    · exact Or.inr ⟨q, k1, k2, c, k3⟩
    · exact Or.inl ⟨k1, fun q hq z => k2 q hq z.2⟩
  · rw [if_neg c]
    exact Or.inl ⟨rfl, fun q _ z => c z.1⟩
theorem t_k_iff {q : Nat} (hq : q < 32) : t_k B n j = ((2 + q : Nat) : Int) ↔ tW B n j (kcd q) := by
  rcases t_k_cases (B := B) (n := n) (j := j) with ⟨h1, h2⟩ | ⟨k, h1, h2, h3⟩
  · rw [h1]
    exact ⟨fun z => by omega, fun z => absurd z (h2 q hq)⟩
  · rw [h2]
    refine ⟨fun z => ?_, fun z => ?_⟩
    · have : k = q := by omega
      rw [← this]; exact h3
    · rw [kcd_inj k h1 q hq (h3.2.symm.trans z.2)]
theorem xcm_q : ∀ q : Nat, q < 38 → xcm ((2 + q : Nat) : Int) = true := by decide
theorem xcm_tk : xcm (t_k B n j) = true := by
  rcases t_k_cases (B := B) (n := n) (j := j) with ⟨h1, _⟩ | ⟨k, h1, h2, _⟩
  · rw [h1]; rfl
  · rw [h2]; exact xcm_q k (by omega)
theorem C_passWord (h : rst σ.1 B n C o j) {q : Nat} (hq : q < 32) : (tW B n j (kcd q) → ∃ τ, X iReader_passWord 0 [(2, 297), (2, ((2 + q : Nat) : Int))] [] σ = some ((0, 1), τ) ∧ rst τ.1 B n C o (j + 1) ∧ rf σ τ) ∧ (¬ tW B n j (kcd q) → ∃ τ, X iReader_passWord 0 [(2, 297), (2, ((2 + q : Nat) : Int))] [] σ = some ((0, 0), τ) ∧ rf σ τ ∧ rft τ.1 B n j) := by
  obtain ⟨f1, f2, f3, f4⟩ := rst_f h
  have e1 : σ.1 297 9 = t_k B n j := h.2.1.2.2.2
  have e2 : (xcm (t_k B n j) && xcm ((2 + q : Nat) : Int)) = true := by rw [xcm_tk, xcm_q q (by omega)]; rfl
  refine ⟨fun z => ?_, fun z => ?_⟩
  · obtain ⟨τ, k1, k2, k3⟩ := C_step h (by rw [z.1]; decide)
    exact ⟨τ, by rw [qReader_passWord_0, if_pos h.2.2.2, e1, e2, cnd_t, if_pos ((t_k_iff hq).mpr z), k1, Option.bind_some, qReader_passWord_27], k2, k3⟩
  · exact ⟨_, by rw [qReader_passWord_0, if_pos h.2.2.2, e1, e2, cnd_t, if_neg (fun y => z ((t_k_iff hq).mp y)), if_pos h.2.2.2, if_pos f2, f1], f3, f4⟩
/-- behind a fault nothing passes -/
theorem rft_n {m : Nat → Nat → Int} {k : Nat} (h : rft m B n k) : ¬ m 297 14 = -1 := by
  unfold rft at h
  omega
theorem C_passWord_x {k : Nat} (h : rft σ.1 B n k) (a : Int) : X iReader_passWord 0 [(2, 297), (2, a)] [] σ = some ((0, 0), σ) := by
  rw [qReader_passWord_0, if_neg (rft_n h), if_neg (rft_n h)]
theorem C_pass_x {k : Nat} (h : rft σ.1 B n k) (a : Int) : X iReader_pass 0 [(2, 297), (0, a)] [] σ = some ((0, 0), σ) := by
  rw [qReader_pass_0, if_neg (rft_n h), if_neg (rft_n h)]
theorem C_passNumber_x {k : Nat} (h : rft σ.1 B n k) : X iReader_passNumber 0 [(2, 297), (9, 0)] [] σ = some ((0, -1), σ) := by
  rw [qReader_passNumber_0, if_neg (rft_n h), if_neg (rft_n h)]
theorem C_closes (h : rst σ.1 B n C o j) (ho : 1 ≤ o) (a : Int) : ∃ τ, X iReader_closes 0 [(2, 297), (2, a)] [] σ = some ((2, a), τ) ∧ rst τ.1 B n C (o - 1) j ∧ rf σ τ := by
  have h0 := h.2.2.1.2
  have hf : rf σ (xs σ 297 10 (o - 1)) := rf_s (by unfold rsm; omega) _
  refine ⟨_, ?_, ?_, hf⟩
  · rw [qReader_closes_0, if_pos h.2.2.2, h.2.2.1.1, xw_id (x := o - 1) (by omega) (by omega)]
  · obtain ⟨⟨h1, h2⟩, ⟨h3, h4, h5, h6⟩, h7, h8⟩ := h
    exact ⟨⟨rdr_rf h1 hf, rda_rf h2 hf⟩, ⟨h3, by rw [xs_at, xup_ne (by decide)]; exact h4, by rw [xs_at, xup_ne (by decide)]; exact h5, by rw [xs_at, xup_ne (by decide)]; exact h6⟩, ⟨by rw [xs_at, xup_eq], by omega, by omega⟩, by rw [xs_at, xup_ne (by decide)]; exact h8⟩
theorem C_closes_x {k : Nat} (h : rft σ.1 B n k) (a : Int) : ∃ τ, X iReader_closes 0 [(2, 297), (2, a)] [] σ = some ((2, 0), τ) ∧ rft τ.1 B n k ∧ rf σ τ := by
  refine ⟨_, by rw [qReader_closes_0, if_neg (rft_n h)], ?_, rf_s (by unfold rsm; omega) _⟩
  unfold rft
  rw [xs_at, xup_ne (by decide)]
  exact h
end WRD

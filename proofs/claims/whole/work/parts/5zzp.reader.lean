/-! the class's reader: where it stands -/
section RST
variable {σ τ υ : xS} {B : Nat → Int} {n C : Nat} {o : Int} {j : Nat}
/-- at token j, o open, no fault -/
def rst (m : Nat → Nat → Int) (B : Nat → Int) (n C : Nat) (o : Int) (j : Nat) : Prop :=
  (rdr m B n ∧ rda m B n C) ∧ (j ≤ C ∧ m 297 7 = (j : Int) ∧ m 297 8 = t_c B n j ∧ m 297 9 = t_k B n j) ∧ (m 297 10 = o ∧ 0 ≤ o ∧ o ≤ 10) ∧ m 297 14 = -1
/-- a fault at token k -/
def rft (m : Nat → Nat → Int) (B : Nat → Int) (n k : Nat) : Prop := m 297 14 = (t_s B n k : Int)
theorem t_c_r {m : Nat → Nat → Int} (hB : rdr m B n) : 0 ≤ t_c B n j ∧ t_c B n j ≤ 255 := by
  by_cases h : t_s B n j < n
  · rw [t_c_of h]
    have := kq_r (hB.2.2.2 _ h).2
    by_cases q : kq (B (t_s B n j)) = 3 ∧ 9 < t_e B n j - t_s B n j
    · rw [if_pos q]; decide
    · rw [if_neg q]; exact this
  · have : t_c B n j = 1 := by
      show (if t_s B n j < n then _ else (1 : Int)) = 1
      rw [if_neg h]
    rw [this]; decide
theorem xna3_c {m : Nat → Nat → Int} (hB : rdr m B n) : xna 3 (t_c B n j) = t_c B n j := by
  have := t_c_r (j := j) hB
  show t_c B n j % 65536 = _
  omega
/-- what a step of the reader's leaves alone -/
def rsm (k : Nat) : Prop := k = 7 ∨ k = 8 ∨ k = 9 ∨ k = 10 ∨ k = 14
def rf (σ τ : xS) : Prop := τ.2 = σ.2 ∧ (∀ a, a ≠ 297 → τ.1 a = σ.1 a) ∧ ∀ k, ¬ rsm k → τ.1 297 k = σ.1 297 k
theorem rf_rf : rf σ σ := ⟨rfl, fun _ _ => rfl, fun _ _ => rfl⟩
theorem rf_s {k : Nat} (hk : rsm k) (v : Int) : rf σ (xs σ 297 k v) := ⟨rfl, fun a ha => by rw [xs_ne ha], fun i hi => by rw [xs_at, xup_ne (fun z => hi (by rw [z]; exact hk))]⟩
theorem rf_tr (h : rf σ τ) (k : rf τ υ) : rf σ υ := ⟨k.1.trans h.1, fun a ha => (k.2.1 a ha).trans (h.2.1 a ha), fun i hi => (k.2.2 i hi).trans (h.2.2 i hi)⟩
theorem rdr_rf (hB : rdr σ.1 B n) (h : rf σ τ) : rdr τ.1 B n := by
  unfold rdr
  rw [h.2.2 0 (by unfold rsm; omega), h.2.2 1 (by unfold rsm; omega), h.2.1 304 (by decide)]
  exact hB
theorem rda_rf (hA : rda σ.1 B n C) (h : rf σ τ) : rda τ.1 B n C := by
  refine ⟨hA.1, hA.2.1, fun j hj => ?_⟩
  unfold tka
  rw [h.2.1 299 (by decide), h.2.1 300 (by decide), h.2.1 301 (by decide), h.2.1 302 (by decide), h.2.1 303 (by decide)]
  exact hA.2.2 j hj
theorem tc_lt {m : Nat → Nat → Int} (h : rst m B n C o j) (ht : t_c B n j ≠ 1) : j < C := by
  have h1 := h.2.1.1
  by_cases e : j = C
  · rw [e] at ht; exact absurd h.1.2.1.2 ht
  · omega
theorem C_step (h : rst σ.1 B n C o j) (ht : t_c B n j ≠ 1) : ∃ τ, X iReader_step 0 [(2, 297)] [] σ = some ((9, 0), τ) ∧ rst τ.1 B n C o (j + 1) ∧ rf σ τ := by
  have hl := tc_lt h ht
  obtain ⟨⟨h1, h2⟩, ⟨h3, h4, h5, h6⟩, h7, h8⟩ := h
  have hC := h2.1.1
  obtain ⟨k1, k2, k3, k4, k5⟩ := h2.2.2 (j + 1) (by omega)
  have e3 := xna3_c (j := j + 1) h1
  have hx : xin ((j + 1 : Nat) : Int) 401 := xin_of (by omega) (by omega)
  have hf : rf σ (xs (xs (xs σ 297 7 ((j + 1 : Nat) : Int)) 297 8 (t_c B n (j + 1))) 297 9 (t_k B n (j + 1))) := rf_tr (rf_tr (rf_s (by unfold rsm; omega) _) (rf_s (by unfold rsm; omega) _)) (rf_s (by unfold rsm; omega) _)
  refine ⟨_, ?_, ⟨⟨rdr_rf h1 hf, rda_rf h2 hf⟩, ⟨by omega, ?_, ?_, ?_⟩, ?_, ?_⟩, hf⟩
  · rw [qReader_step_0, h5, xna3_c h1, if_neg ht, h4, xw_t (by omega), if_pos hx, Int.toNat_natCast, k3, e3, if_pos e3, if_pos hx, k5]
  · rw [xs_at, xup_ne (by decide), xs_at, xup_ne (by decide), xs_at, xup_eq]
  · rw [xs_at, xup_ne (by decide), xs_at, xup_eq]
  · rw [xs_at, xup_eq]
  · rw [xs_at, xup_ne (by decide), xs_at, xup_ne (by decide), xs_at, xup_ne (by decide)]; exact h7
  · rw [xs_at, xup_ne (by decide), xs_at, xup_ne (by decide), xs_at, xup_ne (by decide)]; exact h8
/-- where it fails -/
theorem rst_f (h : rst σ.1 B n C o j) : σ.1 299 (σ.1 297 7).toNat = (t_s B n j : Int) ∧ xin (σ.1 297 7) 401 ∧ rf σ (xs σ 297 14 (t_s B n j : Int)) ∧ rft (xs σ 297 14 (t_s B n j : Int)).1 B n j := by
  obtain ⟨⟨h1, h2⟩, ⟨h3, h4, h5, h6⟩, h7, h8⟩ := h
  have hC := h2.1.1
  rw [h4, Int.toNat_natCast]
  exact ⟨(h2.2.2 j h3).1, xin_of (by omega) (by omega), rf_s (by unfold rsm; omega) _, by unfold rft; rw [xs_at, xup_eq]⟩
theorem C_fail (h : rst σ.1 B n C o j) : ∃ τ, X iReader_fail 0 [(2, 297)] [] σ = some ((2, 0), τ) ∧ rf σ τ ∧ rft τ.1 B n j := by
  obtain ⟨f1, f2, f3, f4⟩ := rst_f h
  exact ⟨_, by rw [qReader_fail_0, if_pos h.2.2.2, if_pos f2, f1], f3, f4⟩
theorem C_pass (h : rst σ.1 B n C o j) {w : Int} (hw : w ≠ 1) : (t_c B n j = w → ∃ τ, X iReader_pass 0 [(2, 297), (0, w)] [] σ = some ((0, 1), τ) ∧ rst τ.1 B n C o (j + 1) ∧ rf σ τ) ∧ (t_c B n j ≠ w → ∃ τ, X iReader_pass 0 [(2, 297), (0, w)] [] σ = some ((0, 0), τ) ∧ rf σ τ ∧ rft τ.1 B n j) := by
  obtain ⟨f1, f2, f3, f4⟩ := rst_f h
  have e1 : xna 3 (σ.1 297 8) = t_c B n j := by rw [h.2.1.2.2.1]; exact xna3_c h.1.1
  refine ⟨fun q => ?_, fun q => ?_⟩
  · obtain ⟨τ, k1, k2, k3⟩ := C_step h (by rw [q]; exact hw)
    exact ⟨τ, by rw [qReader_pass_0, if_pos h.2.2.2, e1, if_pos q, k1, Option.bind_some, qReader_pass_27], k2, k3⟩
  · exact ⟨_, by rw [qReader_pass_0, if_pos h.2.2.2, e1, if_neg q, if_pos h.2.2.2, if_pos f2, f1], f3, f4⟩
theorem C_passNumber (h : rst σ.1 B n C o j) : (t_c B n j = 3 → ∃ τ, X iReader_passNumber 0 [(2, 297), (9, 0)] [] σ = some ((0, t_n B n j), τ) ∧ rst τ.1 B n C o (j + 1) ∧ rf σ τ) ∧ (t_c B n j ≠ 3 → ∃ τ, X iReader_passNumber 0 [(2, 297), (9, 0)] [] σ = some ((0, -1), τ) ∧ rf σ τ ∧ rft τ.1 B n j) := by
  obtain ⟨f1, f2, f3, f4⟩ := rst_f h
  have e1 : xna 3 (σ.1 297 8) = t_c B n j := by rw [h.2.1.2.2.1]; exact xna3_c h.1.1
  refine ⟨fun q => ?_, fun q => ?_⟩
  · obtain ⟨τ, k1, k2, k3⟩ := C_step h (by rw [q]; decide)
    have e2 := (h.1.2.2.2 j h.2.1.1).2.2.2.1 q
    exact ⟨τ, by rw [qReader_passNumber_0, if_pos h.2.2.2, e1, if_pos q, if_pos f2, k1, Option.bind_some, h.2.1.2.1, Int.toNat_natCast, e2, qReader_passNumber_37], k2, k3⟩
  · exact ⟨_, by rw [qReader_passNumber_0, if_pos h.2.2.2, e1, if_neg q, if_pos h.2.2.2, if_pos f2, f1], f3, f4⟩
theorem C_opens (h : rst σ.1 B n C o j) (ht : t_c B n j ≠ 1) : (o < 10 → ∃ τ, X iReader_opens 0 [(2, 297)] [] σ = some ((0, 1), τ) ∧ rst τ.1 B n C (o + 1) (j + 1) ∧ rf σ τ) ∧ (o = 10 → ∃ τ, X iReader_opens 0 [(2, 297)] [] σ = some ((0, 0), τ) ∧ rf σ τ ∧ rft τ.1 B n j) := by
  obtain ⟨f1, f2, f3, f4⟩ := rst_f h
  have h0 := h.2.2.1.2
  refine ⟨fun q => ?_, fun q => ?_⟩
  · have hf : rf σ (xs σ 297 10 (o + 1)) := rf_s (by unfold rsm; omega) _
    have h' : rst (xs σ 297 10 (o + 1)).1 B n C (o + 1) j := by
      obtain ⟨⟨h1, h2⟩, ⟨h3, h4, h5, h6⟩, h7, h8⟩ := h
      exact ⟨⟨rdr_rf h1 hf, rda_rf h2 hf⟩, ⟨h3, by rw [xs_at, xup_ne (by decide)]; exact h4, by rw [xs_at, xup_ne (by decide)]; exact h5, by rw [xs_at, xup_ne (by decide)]; exact h6⟩, ⟨by rw [xs_at, xup_eq], by omega, by omega⟩, by rw [xs_at, xup_ne (by decide)]; exact h8⟩
    obtain ⟨τ, k1, k2, k3⟩ := C_step h' ht
    refine ⟨τ, ?_, k2, rf_tr hf k3⟩
    rw [qReader_opens_0, h.2.2.1.1, if_pos q, xw_id (x := o + 1) (by omega) (by omega), k1, Option.bind_some, qReader_opens_30]
  · exact ⟨_, by rw [qReader_opens_0, h.2.2.1.1, if_neg (by omega), if_pos h.2.2.2, if_pos f2, f1], f3, f4⟩
end RST

/-! the class's scan of tokens: the sums -/
section SCAN
variable {B : Nat → Int} {n : Nat}
/-- what a byte is, in the class's words -/
noncomputable def kq (b : Int) : Int := if b = 32 ∨ b = 10 then 4 else if 97 ≤ b ∧ b ≤ 122 then 2 else if 48 ≤ b ∧ b ≤ 57 then 3 else @ite _ (sgn b) (Classical.propDecidable _) b 5
theorem kq_s {b : Int} (h : sgn b) : kq b = b ∧ b ≠ 2 ∧ b ≠ 3 ∧ b ≠ 4 := by
  unfold kq
  have h' := h
  unfold sgn at h'
  rw [if_neg (by omega), if_neg (by omega), if_neg (by omega), if_pos h]
  omega
theorem kq_4 {b : Int} : kq b = 4 ↔ b = 32 ∨ b = 10 := by
  unfold kq
  by_cases c1 : b = 32 ∨ b = 10
  · rw [if_pos c1]; exact ⟨fun _ => c1, fun _ => rfl⟩
  rw [if_neg c1]
  refine ⟨fun q => ?_, fun q => absurd q c1⟩
  by_cases c2 : 97 ≤ b ∧ b ≤ 122
  · rw [if_pos c2] at q; exact absurd q (by decide)
  rw [if_neg c2] at q
  by_cases c3 : 48 ≤ b ∧ b ≤ 57
  · rw [if_pos c3] at q; exact absurd q (by decide)
  rw [if_neg c3] at q
  by_cases c4 : sgn b
  · rw [if_pos c4] at q; exact absurd q (kq_s c4).2.2.2
  · rw [if_neg c4] at q; exact absurd q (by decide)
theorem kq_2 {b : Int} : kq b = 2 ↔ 97 ≤ b ∧ b ≤ 122 := by
  unfold kq
  by_cases c1 : b = 32 ∨ b = 10
  · rw [if_pos c1]; exact ⟨fun q => absurd q (by decide), fun q => by omega⟩
  rw [if_neg c1]
  by_cases c2 : 97 ≤ b ∧ b ≤ 122
  · rw [if_pos c2]; exact ⟨fun _ => c2, fun _ => rfl⟩
  rw [if_neg c2]
  refine ⟨fun q => ?_, fun q => absurd q c2⟩
  by_cases c3 : 48 ≤ b ∧ b ≤ 57
  · rw [if_pos c3] at q; exact absurd q (by decide)
  rw [if_neg c3] at q
  by_cases c4 : sgn b
  · rw [if_pos c4] at q; exact absurd q (kq_s c4).2.1
  · rw [if_neg c4] at q; exact absurd q (by decide)
theorem kq_3 {b : Int} : kq b = 3 ↔ 48 ≤ b ∧ b ≤ 57 := by
  unfold kq
  by_cases c1 : b = 32 ∨ b = 10
  · rw [if_pos c1]; exact ⟨fun q => absurd q (by decide), fun q => by omega⟩
  rw [if_neg c1]
  by_cases c2 : 97 ≤ b ∧ b ≤ 122
  · rw [if_pos c2]; exact ⟨fun q => absurd q (by decide), fun q => by omega⟩
  rw [if_neg c2]
  by_cases c3 : 48 ≤ b ∧ b ≤ 57
  · rw [if_pos c3]; exact ⟨fun _ => c3, fun _ => rfl⟩
  rw [if_neg c3]
  refine ⟨fun q => ?_, fun q => absurd q c3⟩
  by_cases c4 : sgn b
  · rw [if_pos c4] at q; exact absurd q (kq_s c4).2.2.1
  · rw [if_neg c4] at q; exact absurd q (by decide)
/-- what a token is made of -/
theorem t_gap (j : Nat) : ∀ i, ptk B n j ≤ i → i < t_s B n j → B i = 32 ∨ B i = 10 := (tkS_spec (B := B) (ptk_le j)).2.2.2
theorem t_nb {j : Nat} (h : t_s B n j < n) : ¬ (B (t_s B n j) = 32 ∨ B (t_s B n j) = 10) := (tkS_spec (B := B) (ptk_le j)).2.2.1 h
theorem t_e_of (j : Nat) : t_e B n j = if t_s B n j < n then (if 97 ≤ B (t_s B n j) ∧ B (t_s B n j) ≤ 122 then rnn B n 97 122 (n - t_s B n j) (t_s B n j) else if 48 ≤ B (t_s B n j) ∧ B (t_s B n j) ≤ 57 then rnn B n 48 57 (n - t_s B n j) (t_s B n j) else t_s B n j + 1) else t_s B n j := rfl
theorem t_let {j : Nat} (h : t_s B n j < n) (hl : 97 ≤ B (t_s B n j) ∧ B (t_s B n j) ≤ 122) : (t_e B n j < n → ¬ (97 ≤ B (t_e B n j) ∧ B (t_e B n j) ≤ 122)) ∧ ∀ i, t_s B n j ≤ i → i < t_e B n j → 97 ≤ B i ∧ B i ≤ 122 := by
  have e := t_e_of (B := B) (n := n) j
  rw [if_pos h, if_pos hl] at e
  rw [e]
  exact (rnn_spec (B := B) (n := n) (lo := 97) (hi := 122) _ _ (by omega)).2.2
theorem t_dig {j : Nat} (h : t_s B n j < n) (hl : 48 ≤ B (t_s B n j) ∧ B (t_s B n j) ≤ 57) : (t_e B n j < n → ¬ (48 ≤ B (t_e B n j) ∧ B (t_e B n j) ≤ 57)) ∧ ∀ i, t_s B n j ≤ i → i < t_e B n j → 48 ≤ B i ∧ B i ≤ 57 := by
  have e := t_e_of (B := B) (n := n) j
  rw [if_pos h, if_neg (by omega), if_pos hl] at e
  rw [e]
  exact (rnn_spec (B := B) (n := n) (lo := 48) (hi := 57) _ _ (by omega)).2.2
theorem t_one {j : Nat} (h : t_s B n j < n) (h1 : ¬ (97 ≤ B (t_s B n j) ∧ B (t_s B n j) ≤ 122)) (h2 : ¬ (48 ≤ B (t_s B n j) ∧ B (t_s B n j) ≤ 57)) : t_e B n j = t_s B n j + 1 := by
  have e := t_e_of (B := B) (n := n) j
  rw [if_pos h, if_neg h1, if_neg h2] at e
  exact e
/-- within a token all is alike -/
theorem t_in {j p : Nat} (h1 : t_s B n j < p) (h2 : p < t_e B n j) : kq (B p) = kq (B (t_s B n j)) ∧ (kq (B p) = 2 ∨ kq (B p) = 3) := by
  have hn : t_s B n j < n := by have := (t_s_le (B := B) (n := n) j).2.2.1; omega
  by_cases c1 : 97 ≤ B (t_s B n j) ∧ B (t_s B n j) ≤ 122
  · have := (t_let hn c1).2 p (by omega) h2
    rw [kq_2.mpr this, kq_2.mpr c1]
    exact ⟨rfl, Or.inl rfl⟩
  by_cases c2 : 48 ≤ B (t_s B n j) ∧ B (t_s B n j) ≤ 57
  · have := (t_dig hn c2).2 p (by omega) h2
    rw [kq_3.mpr this, kq_3.mpr c2]
    exact ⟨rfl, Or.inr rfl⟩
  · have := t_one hn c1 c2
    omega
/-- where it ends, another comes -/
theorem t_out {j : Nat} (h1 : t_s B n j < n) (h2 : t_e B n j < n) (h3 : kq (B (t_e B n j)) = 2 ∨ kq (B (t_e B n j)) = 3) : kq (B (t_e B n j)) ≠ kq (B (t_s B n j)) := fun q => by
  rcases h3 with h3 | h3
  · exact (t_let h1 (kq_2.mp (q.symm.trans h3))).1 h2 (kq_2.mp h3)
  · exact (t_dig h1 (kq_3.mp (q.symm.trans h3))).1 h2 (kq_3.mp h3)
/-- the scan's sum: c tokens begun before p -/
def scI (B : Nat → Int) (n : Nat) (st en tk : Nat → Int) (c p : Nat) : Prop :=
  (c ≤ p ∧ p ≤ n ∧ p ≤ t_s B n c) ∧ (∀ i, i < c → st i = (t_s B n i : Int) ∧ tk i = kq (B (t_s B n i)) ∧ t_s B n i < n) ∧ (∀ i, i + 1 < c → en i = (t_e B n i : Int)) ∧ ∀ i, i + 1 = c → t_s B n i < p ∧ en i = if t_e B n i < p then (t_e B n i : Int) else (p : Int)
variable {st en tk : Nat → Int} {c p : Nat}
theorem sc_prev (h : scI B n st en tk c p) (hp : p < n) (hk : ∀ i, i + 1 = c → t_e B n i ≤ p) : ptk B n c ≤ p := by
  cases c with
  | zero => exact Nat.zero_le _
  | succ i => exact hk i rfl
theorem sc_b (h : scI B n st en tk c p) (hp : p < n) (hk : kq (B p) = 4) : scI B n st en tk c (p + 1) := by
  obtain ⟨⟨a1, a2, a3⟩, b, d, e⟩ := h
  have ne : p ≠ t_s B n c := fun q => t_nb (B := B) (n := n) (j := c) (by omega) (by rw [← q]; exact kq_4.mp hk)
  refine ⟨⟨by omega, by omega, by omega⟩, b, d, fun i hi => ?_⟩
  obtain ⟨e1, e2⟩ := e i hi
  have : ¬ p < t_e B n i := fun q => by
    have := (t_in e1 q).2
    rw [hk] at this
    exact absurd this (by decide)
  refine ⟨by omega, ?_⟩
  rw [e2, if_pos (show t_e B n i < p + 1 by omega)]
  by_cases q : t_e B n i < p
  · rw [if_pos q]
  · rw [if_neg q]; omega
theorem sc_l (h : scI B n st en tk c p) (hp : p < n) (hk : kq (B p) = 2 ∨ kq (B p) = 3) {i : Nat} (hi : i + 1 = c) (ht : tk i = kq (B p)) (he : en i = (p : Int)) : scI B n st (xup en i ((p + 1 : Nat) : Int)) tk c (p + 1) := by
  obtain ⟨⟨a1, a2, a3⟩, b, d, e⟩ := h
  obtain ⟨e1, e2⟩ := e i hi
  obtain ⟨b1, b2, b3⟩ := b i (by omega)
  have hlt : p < t_e B n i := by
    by_cases q : t_e B n i < p
    · rw [if_pos q] at e2; omega
    · by_cases q2 : p = t_e B n i
      · exact absurd (by rw [← q2, ← ht, b2]) (t_out b3 (by omega) (by rw [← q2]; exact hk))
      · omega
  have hm := t_s_mono (B := B) (n := n) i
  rw [show i + 1 = c from hi] at hm
  refine ⟨⟨by omega, by omega, by omega⟩, b, fun k hk' => by rw [xup_ne (by omega)]; exact d k hk', fun k hk' => ?_⟩
  have : k = i := by omega
  rw [this, xup_eq]
  refine ⟨by omega, ?_⟩
  by_cases q : t_e B n i < p + 1
  · omega
  · rw [if_neg q]
theorem sc_n (h : scI B n st en tk c p) (hp : p < n) (hk : kq (B p) ≠ 4) (hn : ∀ i, i + 1 = c → kq (B p) = 2 ∨ kq (B p) = 3 → tk i = kq (B p) → en i ≠ (p : Int)) : scI B n (xup st c (p : Int)) (xup en c ((p + 1 : Nat) : Int)) (xup tk c (kq (B p))) (c + 1) (p + 1) := by
  obtain ⟨⟨a1, a2, a3⟩, b, d, e⟩ := h
  have hle : ∀ i, i + 1 = c → t_e B n i ≤ p := fun i hi => by
    obtain ⟨e1, e2⟩ := e i hi
    by_cases q : p < t_e B n i
    · obtain ⟨k1, k2⟩ := t_in e1 q
      rw [if_neg (by omega)] at e2
      exact absurd e2 (hn i hi k2 ((b i (by omega)).2.1.trans k1.symm))
    · omega
  have hp2 : ptk B n c ≤ p := sc_prev ⟨⟨a1, a2, a3⟩, b, d, e⟩ hp hle
  have es : t_s B n c = p := by
    by_cases q : p < t_s B n c
    · exact absurd (kq_4.mpr (t_gap c p hp2 q)) hk
    · omega
  obtain ⟨g1, g2, g3, g4⟩ := t_s_le (B := B) (n := n) c
  have g5 := t_s_mono (B := B) (n := n) c
  have g6 := g4 (by omega)
  refine ⟨⟨by omega, by omega, by omega⟩, fun i hi => ?_, fun i hi => ?_, fun i hi => ?_⟩
  · by_cases q : i = c
    · rw [q, xup_eq, xup_eq, es]
      exact ⟨rfl, rfl, hp⟩
    · rw [xup_ne q, xup_ne q]
      exact b i (by omega)
  · rw [xup_ne (by omega)]
    by_cases q : i + 1 = c
    · rw [(e i q).2]
      have := hle i q
      by_cases z : t_e B n i < p
      · rw [if_pos z]
      · rw [if_neg z]; omega
    · exact d i (by omega)
  · have : i = c := by omega
    rw [this, xup_eq]
    refine ⟨by omega, ?_⟩
    by_cases q : t_e B n c < p + 1
    · omega
    · rw [if_neg q]
/-- at the end -/
theorem sc_e (h : scI B n st en tk c n) : t_s B n c = n ∧ t_e B n c = n ∧ t_c B n c = 1 ∧ ∀ i, i < c → en i = (t_e B n i : Int) := by
  obtain ⟨⟨a1, a2, a3⟩, b, d, e⟩ := h
  obtain ⟨g1, g2, g3, g4⟩ := t_s_le (B := B) (n := n) c
  have es : t_s B n c = n := by omega
  refine ⟨es, by omega, ?_, fun i hi => ?_⟩
  · show (if t_s B n c < n then _ else (1 : Int)) = 1
    rw [if_neg (by omega)]
  · by_cases q : i + 1 = c
    · rw [(e i q).2]
      have := (t_s_le (B := B) (n := n) i).2.2.1
      by_cases z : t_e B n i < n
      · rw [if_pos z]
      · rw [if_neg z]; omega
    · exact d i (by omega)
theorem t_c_of {j : Nat} (h : t_s B n j < n) : t_c B n j = if kq (B (t_s B n j)) = 3 ∧ 9 < t_e B n j - t_s B n j then 5 else kq (B (t_s B n j)) := by
  have nb := t_nb h
  show tkC B n (ptk B n j) = _
  unfold tkC
  rw [show tkS B n (ptk B n j) = t_s B n j from rfl, show tkE B n (ptk B n j) = t_e B n j from rfl, if_pos h]
  by_cases c1 : 97 ≤ B (t_s B n j) ∧ B (t_s B n j) ≤ 122
  · rw [if_pos c1, kq_2.mpr c1, if_neg (fun q => absurd q.1 (by decide))]
  rw [if_neg c1]
  by_cases c2 : 48 ≤ B (t_s B n j) ∧ B (t_s B n j) ≤ 57
  · rw [if_pos c2, kq_3.mpr c2]
    by_cases c3 : t_e B n j - t_s B n j ≤ 9
    · rw [if_pos c3, if_neg (by omega)]
    · rw [if_neg c3, if_pos ⟨rfl, by omega⟩]
  · rw [if_neg c2, if_neg (show ¬ (kq (B (t_s B n j)) = 3 ∧ 9 < t_e B n j - t_s B n j) from fun q => c2 (kq_3.mp q.1))]
    unfold kq
    rw [if_neg nb, if_neg c1, if_neg c2]
end SCAN

/-! mixes, the night -/
theorem i32_bit (A : Int32) : (A &&& Int32.ofInt 1).toInt = 0 ↔ A.toBitVec.getLsbD 0 = false := by
  have e0 : (A &&& Int32.ofInt 1).toInt = 0 ↔ (A &&& Int32.ofInt 1).toBitVec = 0#32 := by
    constructor
    · intro h
      have h2 : (A &&& Int32.ofInt 1) = 0 := Int32.toInt_inj.mp h
      rw [h2]
      rfl
    · intro h
      have h2 : (A &&& Int32.ofInt 1) = 0 := Int32.toBitVec_inj.mp h
      rw [h2]
      rfl
  rw [e0, Int32.toBitVec_and, show (Int32.ofInt 1).toBitVec = 1#32 from rfl]
  constructor
  · intro h
    have := congrArg (fun z : BitVec 32 => z.getLsbD 0) h
    simpa using this
  · intro h
    apply BitVec.eq_of_getLsbD_eq
    intro i hi
    rw [BitVec.getLsbD_and, BitVec.getLsbD_one]
    by_cases c : i = 0
    · rw [c, h]; simp
    · simp [c]
theorem i32_shr (W : Int32) : ∀ k : Nat, k < 16 → (W >>> (Int32.ofInt (k : Int) &&& 31)).toBitVec.getLsbD 0 = W.toBitVec.getLsbD k := by
  intro k hk
  have e : (Int32.ofInt (k : Int) &&& 31).toBitVec.smod 32 = BitVec.ofNat 32 k := by
    have : ∀ k : Nat, k < 16 → (Int32.ofInt (k : Int) &&& 31).toBitVec.smod 32 = BitVec.ofNat 32 k := by decide +kernel
    exact this k hk
  rw [Int32.toBitVec_shiftRight, e, BitVec.sshiftRight_eq', BitVec.getLsbD_sshiftRight]
  have e2 : (BitVec.ofNat 32 k).toNat = k := by simp; omega
  rw [e2]
  simp
  intro h
  omega
theorem i32_one : ∀ p : Nat, p < 16 → (Int32.ofInt 1 <<< (Int32.ofInt (p : Int) &&& 31)).toBitVec = BitVec.twoPow 32 p := by decide +kernel
/-- a bit that isn't set -/
abbrev ibit (v k : Int) : Prop := xiand (xshr v k) 1 = 0
theorem ibit_iff (W : Int32) {k : Nat} (hk : k < 16) : ibit W.toInt (k : Int) ↔ W.toBitVec.getLsbD k = false := by
  show (Int32.ofInt (Int32.ofInt W.toInt >>> (Int32.ofInt (k : Int) &&& 31)).toInt &&& Int32.ofInt 1).toInt = 0 ↔ _
  rw [Int32.ofInt_toInt, Int32.ofInt_toInt, i32_bit, i32_shr W k hk]
theorem ibit_or (v : Int) {k p : Nat} (hk : k < 16) (hp : p < 16) : ibit (xior v (xshl 1 (p : Int))) (k : Int) ↔ ibit v (k : Int) ∧ k ≠ p := by
  have e : xior v (xshl 1 (p : Int)) = (Int32.ofInt v ||| (Int32.ofInt 1 <<< (Int32.ofInt (p : Int) &&& 31))).toInt := by
    show (Int32.ofInt v ||| Int32.ofInt (Int32.ofInt 1 <<< (Int32.ofInt (p : Int) &&& 31)).toInt).toInt = _
    rw [Int32.ofInt_toInt]
  have e2 : ibit v (k : Int) ↔ (Int32.ofInt v).toBitVec.getLsbD k = false := by
    rw [← ibit_iff _ hk]
    show (Int32.ofInt (Int32.ofInt v >>> (Int32.ofInt (k : Int) &&& 31)).toInt &&& Int32.ofInt 1).toInt = 0 ↔ (Int32.ofInt (Int32.ofInt (Int32.ofInt v).toInt >>> (Int32.ofInt (k : Int) &&& 31)).toInt &&& Int32.ofInt 1).toInt = 0
    rw [Int32.ofInt_toInt (Int32.ofInt v)]
  rw [e, ibit_iff _ hk, e2, Int32.toBitVec_or, i32_one p hp, BitVec.getLsbD_or, BitVec.getLsbD_twoPow]
  simp
  intro _
  constructor
  · intro h q; rw [q] at h; exact h (by omega) rfl
  · intro h _ q; exact h q.symm
/-- mixes, statement by statement -/
abbrev mxc (m : Nat → Nat → Int) (F j : Nat) (a b : Int) : Prop := m 344 (F + j) = 5 ∧ ((m 345 (F + j) = a ∧ m 346 (F + j) = b) ∨ (m 345 (F + j) = b ∧ m 346 (F + j) = a))
def mxI (m : Nat → Nat → Int) (F : Nat) : Nat → Int
  | 0 => 0
  | n + 1 => if m 344 (F + n) = 5 ∧ m 345 (F + n) < 4 ∧ m 346 (F + n) < 4 then xior (xior (mxI m F n) (xshl 1 (xw (xw (m 345 (F + n) * 4) + m 346 (F + n))))) (xshl 1 (xw (xw (m 346 (F + n) * 4) + m 345 (F + n)))) else mxI m F n
noncomputable def mxT (m : Nat → Nat → Int) (a b : Int) : Bool := @decide (0 ≤ te_f m (m 305 0) ∧ ∃ j, j < (m 342 (te_f m (m 305 0)).toNat).toNat ∧ mxc m (m 341 (te_f m (m 305 0)).toNat).toNat j a b) (Classical.propDecidable _)
section MIXES
variable {σ : xS} {x F M T N : Nat} {cs : Nat → Nat}
theorem mxI_bit (hB : te_B σ.1 σ.2.1 x F M T N cs) {a b : Int} (ha : 0 ≤ a ∧ a ≤ 3) (hb : 0 ≤ b ∧ b ≤ 3) : ∀ n, n ≤ M → (ibit (mxI σ.1 F n) (4 * a + b) ↔ ¬ ∃ j, j < n ∧ mxc σ.1 F j a b) := by
  have ek : 4 * a + b = (((4 * a + b).toNat : Nat) : Int) := by omega
  intro n
  induction n with
  | zero =>
    intro _
    refine ⟨fun _ ⟨j, h, _⟩ => absurd h (Nat.not_lt_zero j), fun _ => ?_⟩
    show ibit 0 (4 * a + b)
    rw [ek]
    have : ∀ k : Nat, k < 16 → ibit 0 (k : Int) := by decide +kernel
    exact this _ (by omega)
  | succ n ih =>
    intro hn
    have ih := ih (by omega)
    have hst : (∃ j, j < n + 1 ∧ mxc σ.1 F j a b) ↔ (∃ j, j < n ∧ mxc σ.1 F j a b) ∨ mxc σ.1 F n a b := by
      constructor
      · rintro ⟨j, h1, h2⟩
        by_cases e : j = n
        · rw [e] at h2; exact Or.inr h2
        · exact Or.inl ⟨j, by omega, h2⟩
      · rintro (⟨j, h1, h2⟩ | h)
        · exact ⟨j, by omega, h2⟩
        · exact ⟨n, by omega, h⟩
    rw [hst, not_or, ← ih]
    show ibit (if σ.1 344 (F + n) = 5 ∧ σ.1 345 (F + n) < 4 ∧ σ.1 346 (F + n) < 4 then _ else _) (4 * a + b) ↔ _
    by_cases c : σ.1 344 (F + n) = 5 ∧ σ.1 345 (F + n) < 4 ∧ σ.1 346 (F + n) < 4
    · have h8 := (hB.2.2.2.2.2 n (by omega)).1.2.2.2.2.2.2.2.1 (by omega)
      obtain ⟨c1, c2, c3⟩ := c
      obtain ⟨_, h8a, h8b⟩ := h8
      rw [if_pos ⟨c1, c2, c3⟩, xw_id (x := σ.1 345 (F + n) * 4) (by omega) (by omega), xw_id (x := σ.1 346 (F + n) * 4) (by omega) (by omega), xw_id (x := σ.1 345 (F + n) * 4 + σ.1 346 (F + n)) (by omega) (by omega), xw_id (x := σ.1 346 (F + n) * 4 + σ.1 345 (F + n)) (by omega) (by omega)]
      have e1 : σ.1 345 (F + n) * 4 + σ.1 346 (F + n) = (((σ.1 345 (F + n) * 4 + σ.1 346 (F + n)).toNat : Nat) : Int) := by omega
      have e2 : σ.1 346 (F + n) * 4 + σ.1 345 (F + n) = (((σ.1 346 (F + n) * 4 + σ.1 345 (F + n)).toNat : Nat) : Int) := by omega
      rw [ek, e1, e2, ibit_or _ (by omega) (by omega), ibit_or _ (by omega) (by omega)]
      constructor
      · rintro ⟨⟨g1, g2⟩, g3⟩
        refine ⟨g1, fun q => ?_⟩
        rcases q.2 with ⟨q1, q2⟩ | ⟨q1, q2⟩
        · exact g2 (by omega)
        · exact g3 (by omega)
      · rintro ⟨g1, g2⟩
        refine ⟨⟨g1, fun q => g2 ⟨c1, Or.inl ?_⟩⟩, fun q => g2 ⟨c1, Or.inr ?_⟩⟩
        · omega
        · omega
    · rw [if_neg c]
      refine ⟨fun q => ⟨q, fun z => c ⟨z.1, ?_⟩⟩, fun q => q.1⟩
      rcases z.2 with ⟨q1, q2⟩ | ⟨q1, q2⟩ <;> omega
theorem L_mix_27 (hB : te_B σ.1 σ.2.1 x F M T N cs) : ∀ (n j : Nat) (w0 w2 : xAV), j + n = M → X iLedger_mixes 27 [w0, (0, mxI σ.1 F j), w2, (2, cn cs M j)] [] σ = some ((0, mxI σ.1 F M), σ) := by
  intro n
  induction n with
  | zero =>
    intro j w0 w2 hj
    rw [qLedger_mixes_27, cn_ge (by omega), if_pos rfl, show j = M by omega]
  | succ n ih =>
    intro j w0 w2 hj
    have hn := tB_n hB (j := j) (by omega)
    have hk := tB_k hB (j := j) (by omega)
    have k := fun w0 w2 => ih (j + 1) w0 w2 (by omega)
    rw [show mxI σ.1 F (j + 1) = if σ.1 344 (F + j) = 5 ∧ σ.1 345 (F + j) < 4 ∧ σ.1 346 (F + j) < 4 then xior (xior (mxI σ.1 F j) (xshl 1 (xw (xw (σ.1 345 (F + j) * 4) + σ.1 346 (F + j))))) (xshl 1 (xw (xw (σ.1 346 (F + j) * 4) + σ.1 345 (F + j)))) else mxI σ.1 F j from rfl] at k
    rw [qLedger_mixes_27, cn_lt (by omega), if_neg (nz hn.1), nd_f hn, xob_some, tB_0 hB (by omega), xcm_k (by omega), xcm_k (by decide), show (true && true) = true from rfl, cnd_t]
    by_cases c : σ.1 344 (F + j) = 5
    · have h8 := (hB.2.2.2.2.2 j (by omega)).1.2.2.2.2.2.2.2.1 (by omega)
      rw [if_pos (by omega), nd_f hn, xob_some, h8.1.1]
      by_cases c1 : σ.1 345 (F + j) < 4
      · rw [if_pos c1, nd_f hn, xob_some, h8.1.2]
        by_cases c2 : σ.1 346 (F + j) < 4
        · rw [if_pos ⟨c, c1, c2⟩] at k
          rw [if_pos c2]
          simp only [xob_some]
          rw [nd_f hn, xob_some, tB_7 hB (by omega)]
          exact k _ _
        · rw [if_neg (fun q => c2 q.2.2)] at k
          rw [if_neg c2, nd_f hn, xob_some, tB_7 hB (by omega)]
          exact k _ _
      · rw [if_neg (fun q => c1 q.2.1)] at k
        rw [if_neg c1, nd_f hn, xob_some, tB_7 hB (by omega)]
        exact k _ _
    · rw [if_neg (fun q => c q.1)] at k
      rw [if_neg (by omega), nd_f hn, xob_some, tB_7 hB (by omega)]
      exact k _ _
theorem L_mixes (hP : pJ σ.1) (hJ : te_J σ.1 σ.2.1) : ∃ mi, X iLedger_mixes 0 [(2, 243), (9, 0), (9, 0), (9, 0)] [] σ = some ((0, mi), σ) ∧ ∀ a b : Int, 0 ≤ a ∧ a ≤ 3 → 0 ≤ b ∧ b ≤ 3 → (xiand (xshr mi (4 * a + b)) 1 = 0 ↔ mxT σ.1 a b = false) := by
  have e0 := hP.2.2.1.2.1.2.2.2.2.1
  have hf := te_f_lt hJ (σ.1 305 0)
  rw [qLedger_mixes_0, e0, C_inForce hJ, Option.bind_some, qLedger_mixes_13]
  by_cases ht : te_f σ.1 (σ.1 305 0) < 0
  · refine ⟨0, by rw [if_pos ht, if_pos rfl, qLedger_mixes_27, if_pos rfl], fun a b ha hb => ?_⟩
    have : ∀ k : Nat, k < 16 → ibit 0 (k : Int) := by decide +kernel
    have h2 := this (4 * a + b).toNat (by omega)
    rw [show (((4 * a + b).toNat : Nat) : Int) = 4 * a + b by omega] at h2
    refine ⟨fun _ => ?_, fun _ => h2⟩
    exact @decide_eq_false _ (Classical.propDecidable _) (fun q => by omega)
  · obtain ⟨_, F, M, T, N, cs, hB⟩ := hJ.2.2.2.2 _ (hf.2.2 (by omega))
    refine ⟨mxI σ.1 F M, ?_, fun a b ha hb => ?_⟩
    · rw [if_neg ht, hB.2.1, if_neg (nz hB.2.2.2.1.1.1), tB_T hB, xob_some, hB.2.2.2.2.1]
      exact L_mix_27 hB M 0 _ _ (by omega)
    · have := mxI_bit hB ha hb M (Nat.le_refl _)
      rw [show (xiand (xshr (mxI σ.1 F M) (4 * a + b)) 1 = 0) = ibit (mxI σ.1 F M) (4 * a + b) from rfl, this]
      unfold mxT
      rw [hB.1.1, hB.1.2.1, Int.toNat_natCast, Int.toNat_natCast]
      constructor
      · intro q
        exact @decide_eq_false _ (Classical.propDecidable _) (fun z => q z.2)
      · intro q z
        exact @of_decide_eq_false _ (Classical.propDecidable _) q ⟨by omega, z⟩
theorem M_mix_23 (hJ : te_J σ.1 σ.2.1) (hx8 : x < 8) (hB : te_B σ.1 σ.2.1 x F M T N cs) (a b : Int) : ∀ (n j : Nat), j + n = M → ∃ v, X iM_isMixed 23 [(2, 305), (0, a), (0, b), (0, (x : Int)), (0, ((F + j : Nat) : Int))] [] σ = some ((0, v), σ) ∧ (v = 0 ∧ (¬ ∃ j', j ≤ j' ∧ j' < M ∧ mxc σ.1 F j' a b) ∨ v = 1 ∧ ∃ j', j ≤ j' ∧ j' < M ∧ mxc σ.1 F j' a b) := by
  have hxx : xin (x : Int) 8 := ⟨by omega, by omega⟩
  obtain ⟨e1, e2, e3, e4⟩ := hB.1
  have h57 := hJ.2.2.1
  have h49 := hJ.2.1
  intro n
  induction n with
  | zero =>
    intro j hj
    refine ⟨0, ?_, Or.inl ⟨rfl, fun ⟨j', g1, g2, _⟩ => by omega⟩⟩
    rw [qM_isMixed_23, if_pos hxx, if_pos hxx]
    simp only [Int.toNat_natCast]
    rw [e1, e2, xw_id (by omega) (by omega), if_neg (by omega)]
  | succ n ih =>
    intro j hj
    have hxj : xin ((F + j : Nat) : Int) 200 := ⟨by omega, by omega⟩
    obtain ⟨v, k1, k2⟩ := ih (j + 1) (by omega)
    have yes : mxc σ.1 F j a b → ∃ j', j ≤ j' ∧ j' < M ∧ mxc σ.1 F j' a b := fun q => ⟨j, Nat.le_refl _, by omega, q⟩
    have no : ¬ mxc σ.1 F j a b → (v = 0 ∧ (¬ ∃ j', j ≤ j' ∧ j' < M ∧ mxc σ.1 F j' a b) ∨ v = 1 ∧ ∃ j', j ≤ j' ∧ j' < M ∧ mxc σ.1 F j' a b) := by
      intro q
      rcases k2 with ⟨z, k2⟩ | ⟨z, j', g1, g2⟩
      · refine Or.inl ⟨z, fun ⟨j', g1, g2, g3⟩ => ?_⟩
        by_cases e : j' = j
        · rw [e] at g3; exact q g3
        · exact k2 ⟨j', by omega, g2, g3⟩
      · exact Or.inr ⟨z, j', by omega, g2⟩
    rw [qM_isMixed_23, if_pos hxx, if_pos hxx]
    simp only [Int.toNat_natCast]
    rw [e1, e2, xw_id (x := (F : Int) + (M : Int)) (by omega) (by omega), if_pos (by omega), if_pos hxj, xw_id (x := ((F + j : Nat) : Int) + 1) (by omega) (by omega), show ((F + j : Nat) : Int) + 1 = ((F + (j + 1) : Nat) : Int) by omega]
    simp only [if_pos hxj]
    by_cases c : σ.1 344 (F + j) = 5
    · rw [if_pos c]
      by_cases d : mxc σ.1 F j a b
      · refine ⟨1, ?_, Or.inr ⟨rfl, yes d⟩⟩
        have d2 := d.2
        by_cases p1 : σ.1 345 (F + j) = a
        · rw [if_pos p1]
          by_cases p2 : σ.1 346 (F + j) = b
          · rw [if_pos p2]
          · rw [if_neg p2, if_pos (by omega), if_pos (by omega)]
        · rw [if_neg p1, if_pos (by omega), if_pos (by omega)]
      · refine ⟨v, ?_, no d⟩
        rw [← k1]
        have d2 : ¬ ((σ.1 345 (F + j) = a ∧ σ.1 346 (F + j) = b) ∨ (σ.1 345 (F + j) = b ∧ σ.1 346 (F + j) = a)) := fun q => d ⟨c, q⟩
        repeat' split
        all_goals first | rfl | (exfalso; omega)
    · rw [if_neg c]
      exact ⟨v, k1, no fun q => c q.1⟩
theorem M_isMixed (hJ : te_J σ.1 σ.2.1) (a b : Int) : X iM_isMixed 0 [(2, 305), (0, a), (0, b), (9, 0), (9, 0)] [] σ = some ((0, if mxT σ.1 a b = true then 1 else 0), σ) := by
  have hf := te_f_lt hJ (σ.1 305 0)
  rw [qM_isMixed_0, M_termsOn hJ.2.1, Option.bind_some, qM_isMixed_8]
  by_cases ht : te_f σ.1 (σ.1 305 0) < 0
  · have : mxT σ.1 a b = false := @decide_eq_false _ (Classical.propDecidable _) (fun q => by omega)
    rw [if_pos ht, this]
    rfl
  · obtain ⟨_, F, M, T, N, cs, hB⟩ := hJ.2.2.2.2 _ (hf.2.2 (by omega))
    have et : te_f σ.1 (σ.1 305 0) = (((te_f σ.1 (σ.1 305 0)).toNat : Nat) : Int) := by omega
    obtain ⟨v, q1, q2⟩ := M_mix_23 hJ (show (te_f σ.1 (σ.1 305 0)).toNat < 8 by omega) hB a b M 0 (by omega)
    rw [← et] at q1
    have q1 : X iM_isMixed 23 [(2, 305), (0, a), (0, b), (0, te_f σ.1 (σ.1 305 0)), (0, (F : Int))] [] σ = some ((0, v), σ) := q1
    rw [if_neg ht, if_pos (xin_of (by omega) (by omega)), hB.1.1, q1]
    have eT : mxT σ.1 a b = true ↔ ∃ j', 0 ≤ j' ∧ j' < M ∧ mxc σ.1 F j' a b := by
      unfold mxT
      rw [hB.1.1, hB.1.2.1, Int.toNat_natCast, Int.toNat_natCast]
      constructor
      · intro q
        obtain ⟨_, j, g⟩ := @of_decide_eq_true _ (Classical.propDecidable _) q
        exact ⟨j, Nat.zero_le _, g⟩
      · rintro ⟨j, _, g⟩
        exact @decide_eq_true _ (Classical.propDecidable _) ⟨by omega, j, g⟩
    rcases q2 with ⟨rfl, q2⟩ | ⟨rfl, q2⟩
    · rw [if_neg (fun z => q2 (eT.mp z))]
    · rw [if_pos (eT.mpr q2)]
theorem mxT_ag {τ : xS} (h : ag σ τ) (a b : Int) : mxT τ.1 a b = mxT σ.1 a b := by
  unfold mxT
  rw [h.sl (a := 305) (k := 0) rfl, te_f_ag h, (te_st_ag h).2.1 341 (by omega), (te_st_ag h).2.1 342 (by omega)]
  unfold mxc
  rw [(te_st_ag h).2.1 344 (by omega), (te_st_ag h).2.1 345 (by omega), (te_st_ag h).2.1 346 (by omega)]
/-- table 388 -/
theorem M_ng_18 (hJ : te_J σ.1 σ.2.1) (v1 : Int) {i : Nat} (hi : i < 4) (w4 : xAV) : ∀ (n j : Nat) (τ : xS), j + n = 4 → cg1 388 σ τ → (∀ a b : Nat, a < 4 → b < 4 → 4 * a + b < 4 * i + j → τ.1 388 (4 * a + b) = if mxT σ.1 a b = true then 1 else 0) → ∃ τ', X iM_night 18 [(2, 305), (0, v1), (0, (i : Int)), (0, (j : Int)), w4] [] τ = X iM_night 11 [(2, 305), (0, v1), (0, ((i + 1 : Nat) : Int)), (0, 4), w4] [] τ' ∧ cg1 388 σ τ' ∧ ∀ a b : Nat, a < 4 → b < 4 → 4 * a + b < 4 * (i + 1) → τ'.1 388 (4 * a + b) = if mxT σ.1 a b = true then 1 else 0 := by
  intro n
  induction n with
  | zero =>
    intro j τ hj h1 h2
    refine ⟨τ, ?_, h1, fun a b ha hb h => h2 a b ha hb (by omega)⟩
    rw [qM_night_18, if_neg (by omega), xw_t (by omega), show j = 4 by omega]
    rfl
  | succ n ih =>
    intro j τ hj h1 h2
    have ha := cg1_ag (c := 388) (fun _ => rfl) h1
    have e : xw (xw (4 * (i : Int)) + (j : Int)) = ((4 * i + j : Nat) : Int) := by
      rw [xw_id (x := 4 * (i : Int)) (by omega) (by omega), xw_id (by omega) (by omega)]; omega
    rw [qM_night_18, if_pos (by omega), M_isMixed (te_J_ag ha hJ), Option.bind_some, qM_night_38, e, if_pos (xin_of (by omega) (by omega)), Int.toNat_natCast, xw_t (by omega), mxT_ag ha]
    refine ih (j + 1) _ (by omega) (cg1_s h1 _ _) (fun a b ha' hb' h => ?_)
    rw [xs_at, xup_at]
    by_cases z : 4 * a + b = 4 * i + j
    · have z1 : a = i := by omega
      have z2 : b = j := by omega
      rw [if_pos z, z1, z2]
      cases mxT σ.1 i j <;> rfl
    · rw [if_neg z]
      exact h2 a b ha' hb' (by omega)
theorem M_ng_11 (hJ : te_J σ.1 σ.2.1) (v1 : Int) (w4 : xAV) : ∀ (n i : Nat) (w3 : xAV) (τ : xS), i + n = 4 → cg1 388 σ τ → (∀ a b : Nat, a < 4 → b < 4 → 4 * a + b < 4 * i → τ.1 388 (4 * a + b) = if mxT σ.1 a b = true then 1 else 0) → ∃ τ' w3', X iM_night 11 [(2, 305), (0, v1), (0, (i : Int)), w3, w4] [] τ = X iM_night 11 [(2, 305), (0, v1), (0, 4), w3', w4] [] τ' ∧ cg1 388 σ τ' ∧ ∀ a b : Nat, a < 4 → b < 4 → τ'.1 388 (4 * a + b) = if mxT σ.1 a b = true then 1 else 0 := by
  intro n
  induction n with
  | zero =>
    intro i w3 τ hi h1 h2
    refine ⟨τ, w3, by rw [show i = 4 by omega]; rfl, h1, fun a b ha hb => h2 a b ha hb (by omega)⟩
  | succ n ih =>
    intro i w3 τ hi h1 h2
    obtain ⟨τ1, q1, q2, q3⟩ := M_ng_18 hJ v1 (i := i) (by omega) w4 4 0 τ rfl h1 (fun a b ha hb h => h2 a b ha hb (by omega))
    have q1 : X iM_night 18 [(2, 305), (0, v1), (0, (i : Int)), (0, 0), w4] [] τ = X iM_night 11 [(2, 305), (0, v1), (0, ((i + 1 : Nat) : Int)), (0, 4), w4] [] τ1 := q1
    rw [qM_night_11, if_pos (by omega), q1]
    exact ih (i + 1) (0, 4) τ1 (by omega) q2 q3
theorem rd_night (hP : pJ σ.1) (hJ : te_J σ.1 σ.2.1) (hdp : 800 ≤ xdp σ) (a1 : Int) : rdOK σ iC_night [(2, 200), (0, a1), (9, 0), (9, 0)] iM_night [(2, 305), (0, a1), (9, 0), (9, 0), (9, 0)] := by
  have hN := hP.2.2.2.2.2.2.1
  have h102 := hN.2.2.1
  have h107 := hN.2.2.2.2.1
  have e4 : σ.1 258 4 = σ.1 305 102 := hN.1.2.2.2.1
  by_cases h0 : σ.1 305 102 = 0
  · refine rd_same (v := (0, -1)) ?_ ?_
    · have key : ∀ (v2 t0 : Int) (w : xAV), X iC_night 33 [(2, 200), (0, a1), (0, v2), w] [(0, t0)] σ = some ((0, -1), σ) := fun v2 t0 w => by
        rw [qC_night_33, e4, if_pos h0]
      rw [qC_night_0]
      simp only [key]
      repeat' split
      all_goals rfl
    · rw [qM_night_0, if_pos h0]
  · obtain ⟨mi, m1, m2⟩ := L_mixes hP hJ
    have hn : σ.1 305 107 = (((σ.1 305 107).toNat : Nat) : Int) := by omega
    obtain ⟨τ, q1, q2⟩ := C_night_val hP (by omega) (by omega) hn m1 m2 a1
    obtain ⟨τ1, w3, r1, r2, r3⟩ := M_ng_11 (te_J_ag q2 hJ) a1 (9, 0) 4 0 (9, 0) τ rfl (cg1_rf _ _) (fun a b _ _ h => by omega)
    have ha1 := ag_tr q2 (cg1_ag (c := 388) (fun _ => rfl) r2)
    obtain ⟨τ2, s1, s2⟩ := M_night_val hP (by omega) (mx := mxT σ.1) hn ha1 (fun a b ha hb => by
      have := r3 a.toNat b.toNat (by omega) (by omega)
      rw [show (4 * a + b).toNat = 4 * a.toNat + b.toNat by omega, this, show ((a.toNat : Nat) : Int) = a by omega, show ((b.toNat : Nat) : Int) = b by omega, mxT_ag q2]
      cases mxT σ.1 a b
      · exact ⟨fun _ => rfl, fun _ => rfl⟩
      · exact ⟨fun q => absurd q (by decide), fun q => absurd q (by decide)⟩) a1 w3 (9, 0)
    have r1 : X iM_night 11 [(2, 305), (0, a1), (0, 0), (9, 0), (9, 0)] [] τ = X iM_night 11 [(2, 305), (0, a1), (0, 4), w3, (9, 0)] [] τ1 := r1
    refine ⟨(0, ng_v σ.1 (mxT σ.1) (ng_K σ.1 (mxT σ.1)) (σ.1 305 107).toNat a1), τ, τ2, q1, q2, ?_, ⟨s2.1.trans q2.1.symm, fun a k hk' => by rw [s2.2 a k (by rw [← tmp_2 q2.1]; exact hk'), q2.2 a k (by rw [← tmp_2 q2.1]; exact hk')]⟩⟩
    rw [qM_night_0, q2.sl (a := 305) (k := 102) rfl, if_neg h0, r1, s1]
end MIXES

/-! bills, values -/
abbrev blc (m : Nat → Nat → Int) (h a b k : Int) (i : Nat) : Prop := m 320 i = 10 + h ∧ (a ≤ m 319 i ∧ m 319 i ≤ b) ∧ m 321 i ≤ k ∧ (m 322 i < 0 ∨ k < m 322 i)
def bls (m : Nat → Nat → Int) (h a b k : Int) : Nat → Int
  | 0 => 0
  | i + 1 => bls m h a b k i + if blc m h a b k i then prc m (m 318 i) h (m 319 i) k else 0
theorem xw_t {n : Nat} (h : (n : Int) < 600) : xw ((n : Int) + 1) = ((n + 1 : Nat) : Int) := by rw [xw_id (by omega) (by omega)]; omega
theorem xw_10 {h : Int} (hh : 0 ≤ h ∧ h < 100) : xw (10 + h) = 10 + h := xw_id (by omega) (by omega)
section BILL
variable {σ : xS}
theorem bls_ag {τ : xS} (g : ag σ τ) (h a b k : Int) : ∀ i, bls τ.1 h a b k i = bls σ.1 h a b k i
  | 0 => rfl
  | i + 1 => by
    show bls τ.1 h a b k i + (if blc τ.1 h a b k i then prc τ.1 (τ.1 318 i) h (τ.1 319 i) k else 0) = bls σ.1 h a b k i + if blc σ.1 h a b k i then prc σ.1 (σ.1 318 i) h (σ.1 319 i) k else 0
    rw [bls_ag g h a b k i, prc_ag g]
    unfold blc
    rw [g.cl (a := 318) (by omega), g.cl (a := 319) (by omega), g.cl (a := 320) (by omega), g.cl (a := 321) (by omega), g.cl (a := 322) (by omega)]
theorem bk_mv (hP : pJ σ.1) {i : Nat} (hi : i < bk_n σ.1) : (0 ≤ σ.1 318 i ∧ σ.1 318 i < σ.1 305 15) ∧ (0 ≤ σ.1 319 i ∧ σ.1 319 i ≤ 1000) ∧ -1 ≤ σ.1 322 i := by
  have hB := hP.2.2.1
  have h0 := hB.2.2.2.1
  have h2 := hB.1.2
  have h := hB.2.2.2.2.2.1 i hi
  have h3 := hB.2.2.2.2.2.2 (σ.1 318 i).toNat (by omega)
  exact ⟨h.1, by omega, by omega⟩
theorem bls_bd (hP : pJ σ.1) (hJ : te_J σ.1 σ.2.1) {h a b k : Int} (hh : 0 ≤ h ∧ h < σ.1 305 11) : ∀ i, i ≤ bk_n σ.1 → -1000 * (i : Int) ≤ bls σ.1 h a b k i ∧ bls σ.1 h a b k i ≤ 1000000000000 * (i : Int)
  | 0, _ => ⟨by show -1000 * (0 : Int) ≤ 0; decide, by show (0 : Int) ≤ 1000000000000 * 0; decide⟩
  | i + 1, hi => by
    have ih := bls_bd hP hJ (a := a) (b := b) (k := k) hh i (by omega)
    have hm := bk_mv hP (i := i) (by omega)
    have hp := prc_bd hP hJ (k := k) hm.1 hh (d := σ.1 319 i) (by omega)
    show -1000 * ((i + 1 : Nat) : Int) ≤ bls σ.1 h a b k i + (if blc σ.1 h a b k i then prc σ.1 (σ.1 318 i) h (σ.1 319 i) k else 0) ∧ bls σ.1 h a b k i + (if blc σ.1 h a b k i then prc σ.1 (σ.1 318 i) h (σ.1 319 i) k else 0) ≤ 1000000000000 * ((i + 1 : Nat) : Int)
    split <;> omega
theorem L_bill_6 (hP : pJ σ.1) (hJ : te_J σ.1 σ.2.1) (hdp : 800 ≤ xdp σ) {h a b k : Int} (hh : 0 ≤ h ∧ h < σ.1 305 11) : ∀ (n i : Nat) (τ : xS) (w8 : xAV), i + n = bk_n σ.1 → ag σ τ → ∃ τ', X iLedger_billOf 6 [(2, 243), (0, h), (0, a), (0, b), (0, k), (1, bls σ.1 h a b k i), (8, 0), (0, (i : Int)), w8] [] τ = some ((1, bls σ.1 h a b k (bk_n σ.1)), τ') ∧ ag σ τ' := by
  have hBk := hP.2.2.1
  obtain ⟨⟨e1, e2, e3, e4, e5, e6⟩, ⟨e7, e8, e9⟩, e10, e11, e12, e13⟩ := hBk.2.1
  have hN : ((bk_n σ.1 : Nat) : Int) = σ.1 305 22 := Int.toNat_of_nonneg hBk.1.1.1
  have h600 := hBk.1.1
  have h11 := hP.2.1.2.1
  intro n
  induction n with
  | zero =>
    intro i τ w8 hi ha
    refine ⟨τ, ?_, ha⟩
    rw [qLedger_billOf_6, ha.cl (a := 216) (by omega), e10, if_neg (by omega), show i = bk_n σ.1 by omega]
  | succ n ih =>
    intro i τ w8 hi ha
    have hx : xin (i : Int) 600 := ⟨by omega, by omega⟩
    have hi6 : (i : Int) < 600 := hx.2
    have hm := bk_mv hP (i := i) (by omega)
    have r216 : τ.1 216 = σ.1 216 := ha.cl (a := 216) (by omega)
    have r222 : τ.1 222 = σ.1 318 := by rw [ha.cl (a := 222) (by omega), e1]
    have r223 : τ.1 223 = σ.1 319 := by rw [ha.cl (a := 223) (by omega), e2]
    have r224 : τ.1 224 = σ.1 320 := by rw [ha.cl (a := 224) (by omega), e3]
    have r225 : τ.1 225 = σ.1 321 := by rw [ha.cl (a := 225) (by omega), e4]
    have r226 : τ.1 226 = σ.1 322 := by rw [ha.cl (a := 226) (by omega), e5]
    have kk := ih (i + 1)
    rw [show bls σ.1 h a b k (i + 1) = bls σ.1 h a b k i + if blc σ.1 h a b k i then prc σ.1 (σ.1 318 i) h (σ.1 319 i) k else 0 from rfl] at kk
    by_cases c : blc σ.1 h a b k i
    · rw [if_pos c] at kk
      obtain ⟨τ1, q1, q2⟩ := L_priceOn (pJ_ag ha hP) (te_J_ag ha hJ) (by rw [ag_2 ha]; exact hdp) (s := σ.1 318 i) (h := h) (d := σ.1 319 i) (k := k) (by rw [ha.sl (a := 305) (k := 15) rfl]; exact hm.1) (by rw [ha.sl (a := 305) (k := 11) rfl]; exact hh) (by omega)
      rw [prc_ag ha] at q1
      obtain ⟨τ', r1, r2⟩ := kk τ1 (0, σ.1 319 i) (by omega) (ag_tr ha q2)
      refine ⟨τ', ?_, r2⟩
      have hb := bls_bd hP hJ (a := a) (b := b) (k := k) hh i (by omega)
      have hp := prc_bd hP hJ (k := k) hm.1 hh (d := σ.1 319 i) (by omega)
      obtain ⟨c1, c2, c3, c4⟩ := c
      have f0 : (i : Int) < σ.1 305 22 := by omega
      have f1 : ¬ σ.1 319 i < a := by omega
      have f2 : ¬ b < σ.1 319 i := by omega
      have f3 : ¬ k < σ.1 321 i := by omega
      have f4 : ¬ σ.1 322 i = -1 → k < σ.1 322 i := by omega
      have b1 : -9223372036854775808 ≤ bls σ.1 h a b k i + prc σ.1 (σ.1 318 i) h (σ.1 319 i) k := by omega
      have b2 : bls σ.1 h a b k i + prc σ.1 (σ.1 318 i) h (σ.1 319 i) k < 9223372036854775808 := by omega
      have nx : xw ((i : Int) + 1) = ((i + 1 : Nat) : Int) := xw_t hi6
      have wh : xw (10 + h) = 10 + h := xw_10 (by omega)
      rw [qLedger_billOf_6, r216, e10, if_pos f0]
      simp only [if_pos hx, Int.toNat_natCast, nx, r222, r223, r224, r225, r226, wh]
      rw [if_pos c1, if_neg f1, if_neg f2, if_neg f3]
      by_cases c5 : σ.1 322 i = -1
      · rw [if_pos c5, q1, Option.bind_some, qLedger_billOf_92, nx, xW_id b1 b2]
        exact r1
      · rw [if_neg c5, if_pos (f4 c5), q1, Option.bind_some, qLedger_billOf_92, nx, xW_id b1 b2]
        exact r1
    · rw [if_neg c, Int.add_zero] at kk
      have key : ∃ w, X iLedger_billOf 6 [(2, 243), (0, h), (0, a), (0, b), (0, k), (1, bls σ.1 h a b k i), (8, 0), (0, (i : Int)), w8] [] τ = X iLedger_billOf 6 [(2, 243), (0, h), (0, a), (0, b), (0, k), (1, bls σ.1 h a b k i), (8, 0), (0, ((i + 1 : Nat) : Int)), w] [] τ := by
        refine ⟨(0, σ.1 319 i), ?_⟩
        have f0 : (i : Int) < σ.1 305 22 := by omega
        have f5 := hm.2.2
        unfold blc at c
        rw [qLedger_billOf_6, r216, e10, if_pos f0]
        have nx : xw ((i : Int) + 1) = ((i + 1 : Nat) : Int) := xw_t hi6
        have wh : xw (10 + h) = 10 + h := xw_10 (by omega)
        simp only [if_pos hx, Int.toNat_natCast, nx, r222, r223, r224, r225, r226, wh]
        clear nx wh kk ih
        repeat' split
        all_goals first | rfl | (exfalso; omega)
      obtain ⟨w, key⟩ := key
      rw [key]
      exact kk τ w (by omega) ha
theorem M_bill_40 (hP : pJ σ.1) (hJ : te_J σ.1 σ.2.1) {h a b k : Int} (hh : 0 ≤ h ∧ h < σ.1 305 11) : ∀ (n i : Nat) (τ : xS), i + n = bk_n σ.1 → ag σ τ → ∃ τ', X iM_bill 40 [(2, 305), (0, h), (0, a), (0, b), (0, k), (1, bls σ.1 h a b k i), (8, 0), (0, (i : Int))] [] τ = some ((1, bls σ.1 h a b k (bk_n σ.1)), τ') ∧ ag σ τ' := by
  have hBk := hP.2.2.1
  have hN : ((bk_n σ.1 : Nat) : Int) = σ.1 305 22 := Int.toNat_of_nonneg hBk.1.1.1
  have h600 := hBk.1.1
  have h11 := hP.2.1.2.1
  intro n
  induction n with
  | zero =>
    intro i τ hi ha
    refine ⟨τ, ?_, ha⟩
    rw [qM_bill_40, ha.sl (a := 305) (k := 22) rfl, if_neg (by omega), show i = bk_n σ.1 by omega]
  | succ n ih =>
    intro i τ hi ha
    have hx : xin (i : Int) 600 := ⟨by omega, by omega⟩
    have hi6 : (i : Int) < 600 := hx.2
    have hm := bk_mv hP (i := i) (by omega)
    have r318 : τ.1 318 = σ.1 318 := ha.cl (by omega)
    have r319 : τ.1 319 = σ.1 319 := ha.cl (by omega)
    have r320 : τ.1 320 = σ.1 320 := ha.cl (by omega)
    have r321 : τ.1 321 = σ.1 321 := ha.cl (by omega)
    have r322 : τ.1 322 = σ.1 322 := ha.cl (by omega)
    have kk := ih (i + 1)
    rw [show bls σ.1 h a b k (i + 1) = bls σ.1 h a b k i + if blc σ.1 h a b k i then prc σ.1 (σ.1 318 i) h (σ.1 319 i) k else 0 from rfl] at kk
    by_cases c : blc σ.1 h a b k i
    · rw [if_pos c] at kk
      obtain ⟨τ1, q1, q2⟩ := M_priceOf (pJ_ag ha hP) (te_J_ag ha hJ) (s := σ.1 318 i) (h := h) (d := σ.1 319 i) (k := k) (by rw [ha.sl (a := 305) (k := 15) rfl]; exact hm.1) (by rw [ha.sl (a := 305) (k := 11) rfl]; exact hh) (by omega)
      rw [prc_ag ha] at q1
      obtain ⟨τ', r1, r2⟩ := kk τ1 (by omega) (ag_tr ha q2)
      refine ⟨τ', ?_, r2⟩
      have hb := bls_bd hP hJ (a := a) (b := b) (k := k) hh i (by omega)
      have hp := prc_bd hP hJ (k := k) hm.1 hh (d := σ.1 319 i) (by omega)
      obtain ⟨c1, c2, c3, c4⟩ := c
      have f0 : (i : Int) < σ.1 305 22 := by omega
      have f1 : ¬ σ.1 319 i < a := by omega
      have f2 : ¬ b < σ.1 319 i := by omega
      have f3 : ¬ k < σ.1 321 i := by omega
      have f4 : ¬ σ.1 322 i < 0 → k < σ.1 322 i := by omega
      have b1 : -9223372036854775808 ≤ bls σ.1 h a b k i + prc σ.1 (σ.1 318 i) h (σ.1 319 i) k := by omega
      have b2 : bls σ.1 h a b k i + prc σ.1 (σ.1 318 i) h (σ.1 319 i) k < 9223372036854775808 := by omega
      have nx : xw ((i : Int) + 1) = ((i + 1 : Nat) : Int) := xw_t hi6
      have wh : xw (10 + h) = 10 + h := xw_10 (by omega)
      rw [qM_bill_40, ha.sl (a := 305) (k := 22) rfl, if_pos f0]
      simp only [if_pos hx, Int.toNat_natCast, nx, r318, r319, r320, r321, r322, wh]
      rw [if_pos c1, if_neg f1, if_neg f2, if_neg f3]
      by_cases c5 : σ.1 322 i < 0
      · rw [if_pos c5, q1, Option.bind_some, qM_bill_119, nx, xW_id b1 b2]
        exact r1
      · rw [if_neg c5, if_pos (f4 c5), q1, Option.bind_some, qM_bill_119, nx, xW_id b1 b2]
        exact r1
    · rw [if_neg c, Int.add_zero] at kk
      have key : X iM_bill 40 [(2, 305), (0, h), (0, a), (0, b), (0, k), (1, bls σ.1 h a b k i), (8, 0), (0, (i : Int))] [] τ = X iM_bill 40 [(2, 305), (0, h), (0, a), (0, b), (0, k), (1, bls σ.1 h a b k i), (8, 0), (0, ((i + 1 : Nat) : Int))] [] τ := by
        have f0 : (i : Int) < σ.1 305 22 := by omega
        unfold blc at c
        rw [qM_bill_40, ha.sl (a := 305) (k := 22) rfl, if_pos f0]
        have nx : xw ((i : Int) + 1) = ((i + 1 : Nat) : Int) := xw_t hi6
        have wh : xw (10 + h) = 10 + h := xw_10 (by omega)
        simp only [if_pos hx, Int.toNat_natCast, nx, r318, r319, r320, r321, r322, wh]
        clear nx wh kk ih
        repeat' split
        all_goals first | rfl | (exfalso; omega)
      rw [key]
      exact kk τ (by omega) ha
theorem rd_bill (hP : pJ σ.1) (hJ : te_J σ.1 σ.2.1) (hdp : 800 ≤ xdp σ) (a1 a2 a3 a4 : Int) : rdOK σ iC_bill [(2, 200), (0, a1), (0, a2), (0, a3), (0, a4), (9, 0)] iM_bill [(2, 305), (0, a1), (0, a2), (0, a3), (0, a4), (9, 0), (9, 0), (9, 0)] := by
  have h11 := hP.2.1.2.1
  have e4 := hP.2.1.1.2.2.2.2
  have w11 : xw (σ.1 305 11 - 1) = σ.1 305 11 - 1 := xw_id (by omega) (by omega)
  by_cases hh : (0 ≤ a1 ∧ a1 < σ.1 305 11) ∧ (0 ≤ a2 ∧ a2 ≤ 1000) ∧ (0 ≤ a3 ∧ a3 ≤ 1000) ∧ 0 ≤ a4 ∧ a4 ≤ 1000
  · obtain ⟨τ, q1, q2⟩ := L_bill_6 hP hJ hdp (a := a2) (b := a3) (k := a4) hh.1 (bk_n σ.1) 0 σ (9, 0) (by omega) (ag_rf σ)
    have hP' := pJ_ag q2 hP
    obtain ⟨τ', r1, r2⟩ := M_bill_40 hP' (te_J_ag q2 hJ) (a := a2) (b := a3) (k := a4) (h := a1) (by rw [q2.sl (a := 305) (k := 11) rfl]; exact hh.1) (bk_n τ.1) 0 τ (by omega) (ag_rf τ)
    have en : bk_n τ.1 = bk_n σ.1 := by unfold bk_n; rw [q2.sl (a := 305) (k := 22) rfl]
    rw [en, bls_ag q2, bls_ag q2] at r1
    refine ⟨(1, bls σ.1 a1 a2 a3 a4 (bk_n σ.1)), τ, τ', ?_, q2, ?_, r2⟩
    · rw [qC_bill_0, e4, w11, if_neg (by omega), if_neg (by omega), if_neg (by omega), if_neg (by omega), if_neg (by omega), if_neg (by omega), if_neg (by omega), if_neg (by omega), qLedger_billOf_0]
      have q1 : X iLedger_billOf 6 [(2, 243), (0, a1), (0, a2), (0, a3), (0, a4), (1, 0), (8, 0), (0, 0), (9, 0)] [] σ = some ((1, bls σ.1 a1 a2 a3 a4 (bk_n σ.1)), τ) := q1
      rw [q1, Option.bind_some, qC_bill_51]
    · rw [qM_bill_0, q2.sl (a := 305) (k := 11) rfl, if_neg (by omega), if_pos (by omega), if_neg (by omega), if_neg (by omega), if_neg (by omega), if_neg (by omega), if_neg (by omega), if_neg (by omega)]
      exact r1
  · refine rd_same (v := (1, -1)) ?_ ?_
    · rw [qC_bill_0, e4, w11]
      clear w11
      by_cases c1 : a1 < 0
      · rw [if_pos c1]
      by_cases c2 : σ.1 305 11 - 1 < a1
      · rw [if_neg c1, if_pos c2]
      by_cases c3 : a2 < 0
      · rw [if_neg c1, if_neg c2, if_pos c3]
      by_cases c4 : 1000 < a2
      · rw [if_neg c1, if_neg c2, if_neg c3, if_pos c4]
      by_cases c5 : a3 < 0
      · rw [if_neg c1, if_neg c2, if_neg c3, if_neg c4, if_pos c5]
      by_cases c6 : 1000 < a3
      · rw [if_neg c1, if_neg c2, if_neg c3, if_neg c4, if_neg c5, if_pos c6]
      by_cases c7 : a4 < 0
      · rw [if_neg c1, if_neg c2, if_neg c3, if_neg c4, if_neg c5, if_neg c6, if_pos c7]
      rw [if_neg c1, if_neg c2, if_neg c3, if_neg c4, if_neg c5, if_neg c6, if_neg c7, if_pos (by omega)]
    · rw [qM_bill_0]
      clear w11
      by_cases c1 : a1 < 0
      · rw [if_pos c1]
      by_cases c2 : a1 < σ.1 305 11
      · rw [if_neg c1, if_pos c2]
        by_cases c3 : a2 < 0
        · rw [if_pos c3]
        by_cases c4 : 1000 < a2
        · rw [if_neg c3, if_pos c4]
        by_cases c5 : a3 < 0
        · rw [if_neg c3, if_neg c4, if_pos c5]
        by_cases c6 : 1000 < a3
        · rw [if_neg c3, if_neg c4, if_neg c5, if_pos c6]
        by_cases c7 : a4 < 0
        · rw [if_neg c3, if_neg c4, if_neg c5, if_neg c6, if_pos c7]
        rw [if_neg c3, if_neg c4, if_neg c5, if_neg c6, if_neg c7, if_pos (by omega)]
      · rw [if_neg c1, if_neg c2]
/-! values -/
theorem lkc_find {sk : Nat → Int} {F k : Nat} : ∀ {M : Nat}, k < lkc sk F M → ∃ j, j < M ∧ sk (F + j) = 0 ∧ lkc sk F j = k
  | 0, h => absurd h (Nat.not_lt_zero _)
  | M + 1, h => by
    by_cases c : k < lkc sk F M
    · obtain ⟨j, h1, h2, h3⟩ := lkc_find c
      exact ⟨j, by omega, h2, h3⟩
    · have e : lkc sk F (M + 1) = lkc sk F M + if sk (F + M) = 0 then 1 else 0 := rfl
      by_cases z : sk (F + M) = 0
      · rw [if_pos z] at e
        exact ⟨M, by omega, z, by omega⟩
      · rw [if_neg z] at e
        omega
theorem C_nameOf {x F M T N : Nat} {cs : Nat → Nat} (hB : te_B σ.1 σ.2.1 x F M T N cs) {k : Nat} (hk : k < lkc (σ.1 344) F M) : X iTerms_nameOf 0 [(2, (T : Int)), (0, (k : Int))] [] σ = some ((1, σ.1 N k), σ) := by
  have hN := hB.2.2.2.1.2.2.2.1
  have hN4 : σ.1 T 4 = (N : Int) := hB.2.2.2.1.2.2.1
  have hnn := hB.2.2.2.1.2.2.2.2
  have eTy : xnth σ.2.1 (N - 392) = some (100 + 1, lkc (σ.1 344) F M) := hN.2
  rw [qTerms_nameOf_0, tB_is hB, cnd_t, tB_T hB, xob_some, hN4, xlen_new hN.1 eTy (by decide), xob_some, if_neg (by omega), xw_id (by omega) (by omega), if_neg (by omega), xob_some, xarr_new hN.1 eTy, xob_some, if_pos (xin_of (by omega) (by omega)), Int.toNat_natCast, xag_new hN.1]
theorem M_value_40 {x F M T N : Nat} {cs : Nat → Nat} (hJ : te_J σ.1 σ.2.1) (hx8 : x < 8) (hB : te_B σ.1 σ.2.1 x F M T N cs) (s k : Int) {j0 : Nat} (h1 : j0 < M) (h2 : σ.1 344 (F + j0) = 0) (h3 : (lkc (σ.1 344) F j0 : Int) = k) : ∀ (n j : Nat), j + n = j0 → X iM_value 40 [(2, 305), (0, s), (0, k), (0, (x : Int)), (0, (lkc (σ.1 344) F j : Int)), (0, ((F + j : Nat) : Int))] [] σ = (X iM_ofSheet 0 [(2, 305), (0, s), (0, σ.1 305 0), (0, σ.1 305 0)] [] σ).bind fun q1 => X iM_value 90 [(2, 305), (0, s), (0, k), (0, (x : Int)), (0, k), (0, ((F + j0 : Nat) : Int))] [] q1.2 := by
  have hxx : xin (x : Int) 8 := ⟨by omega, by omega⟩
  obtain ⟨e1, e2, e3, e4⟩ := hB.1
  have h57 := hJ.2.2.1
  have h49 := hJ.2.1
  intro n
  induction n with
  | zero =>
    intro j hj
    have ej : j = j0 := by omega
    subst ej
    have hxj : xin ((F + j : Nat) : Int) 200 := ⟨by omega, by omega⟩
    rw [qM_value_40, if_pos hxx, if_pos hxx]
    simp only [Int.toNat_natCast]
    rw [e1, e2, xw_id (x := (F : Int) + (M : Int)) (by omega) (by omega), if_pos (by omega), if_pos hxj, if_pos h2, if_pos h3, h3]
  | succ n ih =>
    intro j hj
    have hxj : xin ((F + j : Nat) : Int) 200 := ⟨by omega, by omega⟩
    have kk := ih (j + 1) (by omega)
    have el : lkc (σ.1 344) F (j + 1) = lkc (σ.1 344) F j + if σ.1 344 (F + j) = 0 then 1 else 0 := rfl
    have hle := lkc_le (sk := σ.1 344) (F := F) (n := j)
    rw [qM_value_40, if_pos hxx, if_pos hxx]
    simp only [Int.toNat_natCast]
    rw [e1, e2, xw_id (x := (F : Int) + (M : Int)) (by omega) (by omega), if_pos (by omega), if_pos hxj, xw_id (x := ((F + j : Nat) : Int) + 1) (by omega) (by omega), show ((F + j : Nat) : Int) + 1 = ((F + (j + 1) : Nat) : Int) by omega, xw_id (x := (lkc (σ.1 344) F j : Int) + 1) (by omega) (by omega)]
    by_cases c : σ.1 344 (F + j) = 0
    · rw [if_pos c] at el
      have hlt := lkc_lt (m := j0) (show j < j0 by omega) c
      rw [if_pos c, if_neg (by omega), show (lkc (σ.1 344) F j : Int) + 1 = (lkc (σ.1 344) F (j + 1) : Int) by omega, kk]
    · rw [if_neg c] at el
      rw [if_neg c, show (lkc (σ.1 344) F j : Int) = (lkc (σ.1 344) F (j + 1) : Int) by omega, kk]
theorem M_value_40n {x F M T N : Nat} {cs : Nat → Nat} (hJ : te_J σ.1 σ.2.1) (hx8 : x < 8) (hB : te_B σ.1 σ.2.1 x F M T N cs) (s : Int) {k : Int} (h1 : (lkc (σ.1 344) F M : Int) ≤ k) : ∀ (n j : Nat), j + n = M → X iM_value 40 [(2, 305), (0, s), (0, k), (0, (x : Int)), (0, (lkc (σ.1 344) F j : Int)), (0, ((F + j : Nat) : Int))] [] σ = some ((1, -2000000000000), σ) := by
  have hxx : xin (x : Int) 8 := ⟨by omega, by omega⟩
  obtain ⟨e1, e2, e3, e4⟩ := hB.1
  have h57 := hJ.2.2.1
  have h49 := hJ.2.1
  intro n
  induction n with
  | zero =>
    intro j hj
    rw [qM_value_40, if_pos hxx, if_pos hxx]
    simp only [Int.toNat_natCast]
    rw [e1, e2, xw_id (by omega) (by omega), if_neg (by omega)]
  | succ n ih =>
    intro j hj
    have hxj : xin ((F + j : Nat) : Int) 200 := ⟨by omega, by omega⟩
    have kk := ih (j + 1) (by omega)
    have el : lkc (σ.1 344) F (j + 1) = lkc (σ.1 344) F j + if σ.1 344 (F + j) = 0 then 1 else 0 := rfl
    have hle := lkc_le (sk := σ.1 344) (F := F) (n := j)
    rw [qM_value_40, if_pos hxx, if_pos hxx]
    simp only [Int.toNat_natCast]
    rw [e1, e2, xw_id (x := (F : Int) + (M : Int)) (by omega) (by omega), if_pos (by omega), if_pos hxj, xw_id (x := ((F + j : Nat) : Int) + 1) (by omega) (by omega), show ((F + j : Nat) : Int) + 1 = ((F + (j + 1) : Nat) : Int) by omega, xw_id (x := (lkc (σ.1 344) F j : Int) + 1) (by omega) (by omega)]
    by_cases c : σ.1 344 (F + j) = 0
    · rw [if_pos c] at el
      have hlt := lkc_lt (m := M) (show j < M by omega) c
      rw [if_pos c, if_neg (by omega), show (lkc (σ.1 344) F j : Int) + 1 = (lkc (σ.1 344) F (j + 1) : Int) by omega, kk]
    · rw [if_neg c] at el
      rw [if_neg c, show (lkc (σ.1 344) F j : Int) = (lkc (σ.1 344) F (j + 1) : Int) by omega, kk]
theorem M_value_0 (hJ : te_J σ.1 σ.2.1) (a1 a2 : Int) : X iM_value 0 [(2, 305), (0, a1), (0, a2), (9, 0), (9, 0), (9, 0)] [] σ = X iM_value 8 [(2, 305), (0, a1), (0, a2), (9, 0), (9, 0), (9, 0)] [(0, te_f σ.1 (σ.1 305 0))] σ := by
  rw [qM_value_0, M_termsOn hJ.2.1]
  rfl
theorem rd_value (hP : pJ σ.1) (hJ : te_J σ.1 σ.2.1) (hdp : 800 ≤ xdp σ) (a1 a2 : Int) : rdOK σ iC_value [(2, 200), (0, a1), (0, a2)] iM_value [(2, 305), (0, a1), (0, a2), (9, 0), (9, 0), (9, 0)] := by
  have hBk := hP.2.2.1
  have h15 := hBk.1.2
  have e6 := hBk.2.1.2.2.2.1
  have e0 := hBk.2.1.2.2.2.2.1
  have h0 := hBk.2.2.2.1
  have h57 := hJ.2.2.1
  have h49 := hJ.2.1
  have w15 : xw (σ.1 305 15 - 1) = σ.1 305 15 - 1 := xw_id (by omega) (by omega)
  have hf := te_f_lt hJ (σ.1 305 0)
  by_cases hs : ¬ (0 ≤ a1 ∧ a1 < σ.1 305 15)
  · refine rd_same (v := (1, -2000000000000)) ?_ ?_
    · rw [qC_value_0, e6, w15]
      by_cases c : a1 < 0
      · rw [if_pos c]
      · rw [if_neg c, if_pos (by omega)]
    · rw [M_value_0 hJ, qM_value_8]
      by_cases c : a1 < 0
      · rw [if_pos c]
      · rw [if_neg c, if_neg (by omega)]
  have hs : 0 ≤ a1 ∧ a1 < σ.1 305 15 := Decidable.not_not.mp hs
  by_cases ht : te_f σ.1 (σ.1 305 0) < 0
  · refine rd_same (v := (1, -2000000000000)) ?_ ?_
    · rw [qC_value_0, e6, w15, if_neg (by omega), if_neg (by omega)]
      by_cases c : a2 < 0
      · rw [if_pos c]
      · rw [if_neg c, qLedger_valueNow_0, e0, C_inForce hJ, Option.bind_some, qLedger_valueNow_11, if_pos ht, if_pos rfl, Option.bind_some, qC_value_24]
    · rw [M_value_0 hJ, qM_value_8, if_neg (by omega), if_pos (by omega), if_pos ht]
  by_cases hk : a2 < 0
  · refine rd_same (v := (1, -2000000000000)) ?_ ?_
    · rw [qC_value_0, e6, w15, if_neg (by omega), if_neg (by omega), if_pos hk]
    · rw [M_value_0 hJ, qM_value_8, if_neg (by omega), if_pos (by omega), if_neg ht, if_pos hk]
  obtain ⟨_, F, M, T, N, cs, hB⟩ := hJ.2.2.2.2 _ (hf.2.2 (by omega))
  have hN := hB.2.2.2.1.2.2.2.1
  have hN4 : σ.1 T 4 = (N : Int) := hB.2.2.2.1.2.2.1
  have hnn := hB.2.2.2.1.2.2.2.2
  have eTy : xnth σ.2.1 (N - 392) = some (100 + 1, lkc (σ.1 344) F M) := hN.2
  have hx8 : (te_f σ.1 (σ.1 305 0)).toNat < 8 := by omega
  have et : te_f σ.1 (σ.1 305 0) = (((te_f σ.1 (σ.1 305 0)).toNat : Nat) : Int) := by omega
  have hM : ∀ {τ : xS} (ha : ag σ τ), X iM_value 0 [(2, 305), (0, a1), (0, a2), (9, 0), (9, 0), (9, 0)] [] τ = X iM_value 40 [(2, 305), (0, a1), (0, a2), (0, (((te_f σ.1 (σ.1 305 0)).toNat : Nat) : Int)), (0, (lkc (τ.1 344) F 0 : Int)), (0, ((F + 0 : Nat) : Int))] [] τ := fun {τ} ha => by
    rw [M_value_0 (te_J_ag ha hJ), te_f_ag ha, qM_value_8, ha.sl (a := 305) (k := 15) rfl, ha.sl (a := 305) (k := 0) rfl, if_neg (by omega), if_pos (by omega), if_neg ht, if_neg hk, if_pos (xin_of (by omega) (by omega)), (te_B_ag ha hB).1.1, ← et]
    rfl
  by_cases hlt : a2 < (lkc (σ.1 344) F M : Int)
  · obtain ⟨j, j1, j2, j3⟩ := lkc_find (sk := σ.1 344) (F := F) (k := a2.toNat) (M := M) (by omega)
    have hbd' := hPl_bd hP (k := σ.1 305 0) hs (d := σ.1 305 0) (by omega)
    obtain ⟨τ1, q1, q2, q3⟩ := C_holdSheetInPlace hP (k := σ.1 305 0) hs (d := σ.1 305 0) (by omega)
    have ha1 := cg1_ag tm254 q2
    obtain ⟨τ2, r1, r2, _, r4, _⟩ := C_named hB hdp ha1 q3 hbd'
    have hB2 := te_B_ag r2 hB
    have e344 : τ2.1 344 = σ.1 344 := (te_st_ag r2).2.1 344 (by omega)
    have hP2 := pJ_ag r2 hP
    have hJ2 := te_J_ag r2 hJ
    obtain ⟨τ3, s1, s2, s3⟩ := M_ofSheet hP2 (s := a1) (d := σ.1 305 0) (k := σ.1 305 0) (by rw [r2.sl (a := 305) (k := 15) rfl]; exact hs) (by omega)
    rw [hSh_ag r2] at s3
    obtain ⟨τ4, t1, t2, t3⟩ := M_atHouse hP hs (d := σ.1 305 0) (k := σ.1 305 0) (by omega) (ag_tr r2 s2.1) s3
    obtain ⟨τ5, u1, u2, _⟩ := M_named hB hx8 (by omega) t2 t3 hbd' j1 (by omega)
    refine ⟨(1, sv σ.1 (hPl σ.1 a1 (σ.1 305 0) (σ.1 305 0)) F j), τ2, τ5, ?_, r2, ?_, ?_⟩
    · rw [qC_value_0, e6, w15, if_neg (by omega), if_neg (by omega), if_neg hk, qLedger_valueNow_0, e0, C_inForce hJ, Option.bind_some, if_neg ht, hB.2.1, qLedger_valueNow_11, if_neg (nz hB.2.2.2.1.1.1), tB_is hB, cnd_t, tB_T hB, xob_some, hN4, xlen_new hN.1 eTy (by decide), xob_some, if_neg hk, xw_id (x := ((lkc (σ.1 344) F M : Nat) : Int) - 1) (by omega) (by omega), if_neg (by omega), e0, q1, Option.bind_some, qLedger_valueNow_47, tB_is (te_B_ag ha1 hB), cnd_t, r1, Option.bind_some, qLedger_valueNow_51, tB_is hB2, cnd_t, show a2 = ((a2.toNat : Nat) : Int) by omega, C_nameOf hB2 (by rw [e344]; omega), Option.bind_some, qLedger_valueNow_56, Option.bind_some, qC_value_24, ← j3, r4 j j1 j2]
    · rw [hM r2, M_value_40 hJ2 hx8 hB2 a1 a2 j1 (by rw [e344]; exact j2) (by rw [e344]; omega) j 0 (by omega), r2.sl (a := 305) (k := 0) rfl, s1, Option.bind_some, qM_value_90, (ag_tr r2 s2.1).sl (a := 305) (k := 0) rfl, t1, Option.bind_some, qM_value_103, u1, Option.bind_some, qM_value_110]
    · exact ⟨u2.1.trans r2.1.symm, fun a k hk' => by rw [u2.2 a k (by rw [← tmp_2 r2.1]; exact hk'), r2.2 a k (by rw [← tmp_2 r2.1]; exact hk')]⟩
  · refine rd_same (v := (1, -2000000000000)) ?_ ?_
    · rw [qC_value_0, e6, w15, if_neg (by omega), if_neg (by omega), if_neg hk, qLedger_valueNow_0, e0, C_inForce hJ, Option.bind_some, if_neg ht, hB.2.1, qLedger_valueNow_11, if_neg (nz hB.2.2.2.1.1.1), tB_is hB, cnd_t, tB_T hB, xob_some, hN4, xlen_new hN.1 eTy (by decide), xob_some, if_neg hk, xw_id (x := ((lkc (σ.1 344) F M : Nat) : Int) - 1) (by omega) (by omega), if_pos (by omega), Option.bind_some, qC_value_24]
    · rw [hM (ag_rf σ), M_value_40n hJ hx8 hB a1 (by omega) M 0 (by omega)]
end BILL

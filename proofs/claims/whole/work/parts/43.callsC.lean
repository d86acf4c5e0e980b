/-! calls: what is short -/
theorem xex {c : Prop} [Decidable c] {A B : Option (xAV × xS)} {σ : xS} (h1 : ∃ v, A = some (v, σ)) (h2 : ∃ v, B = some (v, σ)) : ∃ v, (if c then A else B) = some (v, σ) := by
  by_cases h : c
  · rw [if_pos h]; exact h1
  · rw [if_neg h]; exact h2
section CALLSC
variable {σ : xS}
theorem rd_misses (hP : pJ σ.1) (a1 a2 a3 : Int) : rdOK σ iC_misses [(2, 200), (0, a1), (0, a2), (0, a3)] iM_misses [(2, 305), (0, a1), (0, a2), (0, a3)] := by
  have hB := hP.2.2.1
  by_cases h : bk_ask σ.1 a1 a2 a3
  · refine rd_same (v := (0, ev_mi σ.1 a1 a2 a3)) ?_ ?_
    · rw [qC_misses_0, C_isAsked hB, Option.bind_some, qC_misses_7, if_pos h, if_neg (by decide), E_missesOf hP h.1, Option.bind_some, qC_misses_20]
    · rw [qM_misses_0, M_isAsked hB.1, Option.bind_some, qM_misses_7, if_pos h, if_neg (by decide), M_missesOf hP (hB.xs h.1), Option.bind_some, qM_misses_17]
  · refine rd_same (v := (0, -1)) ?_ ?_
    · rw [qC_misses_0, C_isAsked hB, Option.bind_some, qC_misses_7, if_neg h, if_pos rfl]
    · rw [qM_misses_0, M_isAsked hB.1, Option.bind_some, qM_misses_7, if_neg h, if_pos rfl]
theorem rd_doubt (hP : pJ σ.1) (a1 a2 a3 : Int) : rdOK σ iC_doubt [(2, 200), (0, a1), (0, a2), (0, a3)] iM_doubt [(2, 305), (0, a1), (0, a2), (0, a3)] := by
  have hB := hP.2.2.1
  by_cases h : bk_ask σ.1 a1 a2 a3
  · by_cases h2 : ev_db σ.1 a1 a2 a3
    · refine rd_same (v := (0, 1)) ?_ ?_
      · rw [qC_doubt_0, C_isAsked hB, Option.bind_some, qC_doubt_7, if_pos h, if_neg (by decide), E_isDoubted hP h.1, Option.bind_some, qC_doubt_20, if_pos h2, if_neg (by decide)]
      · rw [qM_doubt_0, M_isAsked hB.1, Option.bind_some, qM_doubt_7, if_pos h, if_neg (by decide), M_isDoubt hP h.1, Option.bind_some, qM_doubt_21, if_pos h2, if_neg (by decide)]
    · refine rd_same (v := (0, 0)) ?_ ?_
      · rw [qC_doubt_0, C_isAsked hB, Option.bind_some, qC_doubt_7, if_pos h, if_neg (by decide), E_isDoubted hP h.1, Option.bind_some, qC_doubt_20, if_neg h2, if_pos rfl]
      · rw [qM_doubt_0, M_isAsked hB.1, Option.bind_some, qM_doubt_7, if_pos h, if_neg (by decide), M_isDoubt hP h.1, Option.bind_some, qM_doubt_21, if_neg h2, if_pos rfl]
  · refine rd_same (v := (0, -1)) ?_ ?_
    · rw [qC_doubt_0, C_isAsked hB, Option.bind_some, qC_doubt_7, if_neg h, if_pos rfl]
    · rw [qM_doubt_0, M_isAsked hB.1, Option.bind_some, qM_doubt_7, if_neg h, if_pos rfl]
theorem rd_lost (hP : pJ σ.1) (a1 a2 a3 a4 : Int) : rdOK σ iC_lost [(2, 200), (0, a1), (0, a2), (0, a3), (0, a4), (9, 0)] iM_lost [(2, 305), (0, a1), (0, a2), (0, a3), (0, a4), (9, 0), (9, 0)] := by
  have eh := hP.2.1.1.2.2.2.2
  have h11 := hP.2.1.2.1
  have es := hP.1.1.2.2.2.2.2
  have h6 := hP.1.2.1
  by_cases h : (0 ≤ a1 ∧ a1 < σ.1 305 11) ∧ (0 ≤ a2 ∧ a2 < σ.1 305 6) ∧ (0 ≤ a3 ∧ a3 ≤ 1000) ∧ (0 ≤ a4 ∧ a4 ≤ 1000)
  · refine rd_same (v := (0, ev_lo σ.1 a1 a2 a3 a4 (σ.1 305 15).toNat)) ?_ ?_
    · rw [qC_lost_0, eh, es, xw_id (x := σ.1 305 11 - 1) (by omega) (by omega), xw_id (x := σ.1 305 6 - 1) (by omega) (by omega)]
      repeat rw [if_neg (by omega)]
      rw [qEvidence_lostAt_0]
      have := E_lostAt_6 hP (h := a1) ⟨h.1.1, by omega⟩ a2 h.2.2.1 h.2.2.2 (σ.1 305 15).toNat 0 (by omega)
      refine (congrArg (fun z => Option.bind z _) this).trans ?_
      rw [Option.bind_some, qC_lost_55]
    · rw [qM_lost_0]
      repeat (first | rw [if_neg (by omega)] | rw [if_pos (by omega)])
      exact M_lost_39 hP (h := a1) ⟨h.1.1, by omega⟩ a2 a3 a4 (σ.1 305 15).toNat 0 (by omega)
  · refine rd_same (v := (0, -1)) ?_ ?_
    · rw [qC_lost_0, eh, es, xw_id (x := σ.1 305 11 - 1) (by omega) (by omega), xw_id (x := σ.1 305 6 - 1) (by omega) (by omega)]
      repeat' (refine xite (fun _ => ?_) (fun _ => ?_))
      all_goals first | rfl | (exfalso; omega)
    · rw [qM_lost_0]
      repeat' (refine xite (fun _ => ?_) (fun _ => ?_))
      all_goals first | rfl | (exfalso; omega)
theorem rd_shortOf (hP : pJ σ.1) (a1 a2 a3 a4 : Int) : rdOK σ iC_shortOf [(2, 200), (0, a1), (0, a2), (0, a3), (0, a4), (9, 0)] iM_shortOf [(2, 305), (0, a1), (0, a2), (0, a3), (0, a4), (9, 0), (9, 0)] := by
  have eh := hP.2.1.1.2.2.2.2
  have h11 := hP.2.1.2.1
  have es := hP.1.1.2.2.2.2.2
  have h6 := hP.1.2.1
  by_cases h : (0 ≤ a1 ∧ a1 < σ.1 305 11) ∧ (0 ≤ a2 ∧ a2 < σ.1 305 6) ∧ (0 ≤ a3 ∧ a3 ≤ 1000) ∧ (0 ≤ a4 ∧ a4 ≤ 1000)
  · refine rd_same (v := (0, ev_sh σ.1 a1 a2 a3 a4 (σ.1 305 42).toNat)) ?_ ?_
    · rw [qC_shortOf_0, eh, es, xw_id (x := σ.1 305 11 - 1) (by omega) (by omega), xw_id (x := σ.1 305 6 - 1) (by omega) (by omega)]
      repeat rw [if_neg (by omega)]
      rw [qEvidence_shortAt_0]
      have := E_shortAt_6 hP (h := a1) ⟨h.1.1, by omega⟩ a2 a3 h.2.2.2 (σ.1 305 42).toNat 0 (9, 0) (by omega)
      refine (congrArg (fun z => Option.bind z _) this).trans ?_
      rw [Option.bind_some, qC_shortOf_55]
    · rw [qM_shortOf_0]
      repeat (first | rw [if_neg (by omega)] | rw [if_pos (by omega)])
      exact M_shortOf_39 hP (h := a1) ⟨h.1.1, by omega⟩ a2 a3 a4 (σ.1 305 42).toNat 0 (by omega)
  · refine rd_same (v := (0, -1)) ?_ ?_
    · rw [qC_shortOf_0, eh, es, xw_id (x := σ.1 305 11 - 1) (by omega) (by omega), xw_id (x := σ.1 305 6 - 1) (by omega) (by omega)]
      repeat' (refine xite (fun _ => ?_) (fun _ => ?_))
      all_goals first | rfl | (exfalso; omega)
    · rw [qM_shortOf_0]
      repeat' (refine xite (fun _ => ?_) (fun _ => ?_))
      all_goals first | rfl | (exfalso; omega)
theorem rd_fault (hP : pJ σ.1) : rdOK σ iC_fault [(2, 200)] iM_fault [(2, 305)] := by
  refine rd_same (v := (0, σ.1 305 67)) ?_ (qM_fault_0 σ)
  rw [qC_fault_0, hP.2.2.2.2.2.2.2.2.1.2]
theorem rd_count (hP : pJ σ.1) (h49 : σ.1 243 5 = σ.1 305 49) (a1 : Int) : rdOK σ iC_count [(2, 200), (0, a1)] iM_count [(2, 305), (0, a1)] := by
  have e0 := hP.2.2.1.2.1.2.2
  have e1 := hP.1.1.2.2.2.2.2
  have e2 := hP.2.1.1.2.2.2.2
  have e3 := hP.2.2.2.2.1.1.2.2.2.2.2
  have e4 := hP.2.2.2.2.1.2.1.2.2.2.2.2
  have e5 := hP.2.2.2.2.2.2.1.1.2.2.2.1
  have e6 := hP.2.2.2.2.2.2.1.2.1.2.2.2
  have e7 := hP.2.2.2.2.2.2.2.2.1.1
  have e8 := hP.2.2.2.1.1.2.2.2.2
  have q1 := qC_count_0 a1 σ
  have q2 := qM_count_0 a1 σ
  rw [e0.1, e0.2.1, e0.2.2.1, e0.2.2.2, e1, e2, e3, e4, e5, e6, e7, e8, h49] at q1
  rw [← q2] at q1
  obtain ⟨v, hv⟩ : ∃ v, X iM_count 0 [(2, 305), (0, a1)] [] σ = some (v, σ) := by
    rw [q2]
    repeat' (refine xex ?_ ?_)
    all_goals exact ⟨_, rfl⟩
  exact rd_same (q1.trans hv) hv
theorem M_told_57 (hJ : bk_J σ.1) (s : Int) (w : xAV) : ∀ (t i : Nat), i + t = bk_n σ.1 → X iM_told 57 [(2, 305), (0, s), w, (0, ((bk_ch σ.1 s i).length : Int)), (0, (i : Int))] [] σ = some ((0, ((bk_ch σ.1 s (bk_n σ.1)).length : Int)), σ) := by
  intro t
  have hN : ((bk_n σ.1 : Nat) : Int) = σ.1 305 22 := Int.toNat_of_nonneg hJ.1.1.1
  have h6 := hJ.1.1.2
  induction t with
  | zero =>
    intro i hi
    rw [qM_told_57, if_neg (by omega), show i = bk_n σ.1 by omega]
  | succ t ih =>
    intro i hi
    have hl := bk_ch_len (m := σ.1) (s := s) (n := i)
    have k1 := ih (i + 1) (by omega)
    rw [show bk_ch σ.1 s (i + 1) = if σ.1 318 i = s then bk_ins (σ.1 319) i (bk_ch σ.1 s i) else bk_ch σ.1 s i from rfl] at k1
    rw [qM_told_57, if_pos (by omega), if_pos (xin_of (by omega) (by omega)), Int.toNat_natCast, xw_id (x := (i : Int) + 1) (by omega) (by omega), xw_id (by omega) (by omega), show (i : Int) + 1 = ((i + 1 : Nat) : Int) by omega]
    by_cases h : σ.1 318 i = s
    · rw [if_pos h]
      rw [if_pos h, bk_ins_len] at k1
      exact k1
    · rw [if_neg h]
      rw [if_neg h] at k1
      exact k1
theorem rd_told (hP : pJ σ.1) (a1 a2 : Int) : rdOK σ iC_told [(2, 200), (0, a1), (0, a2)] iM_told [(2, 305), (0, a1), (0, a2), (9, 0), (9, 0)] := by
  have hJ := hP.2.2.1
  have h22 := hJ.1
  unfold bk_B at h22
  obtain ⟨⟨e1, e2, e3, e4, e5, e6⟩, ⟨e7, e8, e9⟩, e10, e11, e12, e13⟩ := hJ.2.1
  have q1 := qC_told_0 a1 a2 σ
  rw [e10, e11, xw_id (x := σ.1 305 15 - 1) (by omega) (by omega), xw_id (x := σ.1 305 22 - 1) (by omega) (by omega)] at q1
  have q2 := qM_told_0 a1 a2 σ
  have q88 := qM_told_88 a1 a2 (9, 0) (9, 0) σ
  have s1 : 0 ≤ a1 ∧ a1 < σ.1 305 15 → a2 < 10 → ∀ v, X iBook_toldOfSheet 0 [(2, 216), (0, a1), (0, a2)] [] σ = some ((0, v), σ) → X iC_told 0 [(2, 200), (0, a1), (0, a2)] [] σ = some ((0, v), σ) := by
    intro h1 h2 v h3
    rw [q1, if_pos h2, if_neg (by omega), if_neg (by omega), h3, Option.bind_some, qC_told_26]
  have s2 : 0 ≤ a1 ∧ a1 < σ.1 305 22 → 10 ≤ a2 → ∀ v, X iBook_toldOfMove 0 [(2, 216), (0, a1), (0, a2)] [] σ = some ((0, v), σ) → X iC_told 0 [(2, 200), (0, a1), (0, a2)] [] σ = some ((0, v), σ) := by
    intro h1 h2 v h3
    rw [q1, if_neg (by omega), if_neg (by omega), if_neg (by omega), h3, Option.bind_some, qC_told_57]
  by_cases h : (0 ≤ a2 ∧ a2 ≤ 3) ∧ (0 ≤ a1 ∧ a1 < σ.1 305 15)
  · have hx : xin a1 150 := ⟨h.2.1, by omega⟩
    rw [if_neg (by omega), if_neg (by omega), if_neg (by omega), if_pos h.2.2, qM_told_14, if_neg (by decide)] at q2
    have t1 := qBook_toldOfSheet_0 a1 a2 σ
    rw [if_pos hx, if_pos hx, if_pos hx, if_pos hx, e7, e8, e9] at t1
    by_cases c0 : a2 = 0
    · rw [if_pos c0] at t1 q2
      rw [if_pos hx] at q2
      exact rd_same (s1 h.2 (by omega) _ t1) q2
    · rw [if_neg c0] at t1 q2
      by_cases c1 : a2 = 1
      · rw [if_pos c1] at t1 q2
        rw [if_pos hx] at q2
        exact rd_same (s1 h.2 (by omega) _ t1) q2
      · rw [if_neg c1] at t1 q2
        by_cases c2 : a2 = 2
        · rw [if_pos c2] at t1 q2
          rw [if_pos hx] at q2
          exact rd_same (s1 h.2 (by omega) _ t1) q2
        · rw [if_neg c2] at t1 q2
          rw [if_pos (by omega), (hJ.fst h.2).2] at t1
          exact rd_same (s1 h.2 (by omega) _ t1) (q2.trans (M_told_57 hJ a1 (0, a2) (bk_n σ.1) 0 (by omega)))
  · have q3 : X iM_told 0 [(2, 305), (0, a1), (0, a2), (9, 0), (9, 0)] [] σ = X iM_told 88 [(2, 305), (0, a1), (0, a2), (9, 0), (9, 0)] [] σ := by
      rw [q2, qM_told_14, if_pos rfl]
      repeat' (refine xite (fun _ => ?_) (fun _ => ?_))
      all_goals first | rfl | (exfalso; omega)
    rw [q88] at q3
    by_cases h4 : (10 ≤ a2 ∧ a2 ≤ 14) ∧ (0 ≤ a1 ∧ a1 < σ.1 305 22)
    · have hx : xin a1 600 := ⟨h4.2.1, by omega⟩
      rw [if_neg (by omega), if_neg (by omega), if_neg (by omega), if_pos h4.2.2] at q3
      have t1 := qBook_toldOfMove_0 a1 a2 σ
      rw [if_pos hx, if_pos hx, if_pos hx, if_pos hx, if_pos hx, e1, e2, e3, e4, e5] at t1
      rw [if_pos hx, if_pos hx, if_pos hx, if_pos hx, if_pos hx] at q3
      by_cases c0 : a2 = 10
      · rw [if_pos c0] at t1 q3
        exact rd_same (s2 h4.2 h4.1.1 _ t1) q3
      · rw [if_neg c0] at t1 q3
        by_cases c1 : a2 = 11
        · rw [if_pos c1] at t1 q3
          exact rd_same (s2 h4.2 h4.1.1 _ t1) q3
        · rw [if_neg c1] at t1 q3
          by_cases c2 : a2 = 12
          · rw [if_pos c2] at t1 q3
            exact rd_same (s2 h4.2 h4.1.1 _ t1) q3
          · rw [if_neg c2] at t1 q3
            by_cases c3 : a2 = 13
            · rw [if_pos c3] at t1 q3
              exact rd_same (s2 h4.2 h4.1.1 _ t1) q3
            · rw [if_neg c3] at t1 q3
              rw [if_pos (by omega)] at t1
              exact rd_same (s2 h4.2 h4.1.1 _ t1) q3
    · refine rd_same (v := (0, -1)) ?_ ?_
      · by_cases c : a2 < 10
        · by_cases c1 : 0 ≤ a1 ∧ a1 < σ.1 305 15
          · refine s1 c1 c _ ?_
            rw [qBook_toldOfSheet_0, if_neg (by omega), if_neg (by omega), if_neg (by omega), if_neg (by omega)]
          · rw [q1, if_pos c]
            repeat' (refine xite (fun _ => ?_) (fun _ => ?_))
            all_goals first | rfl | (exfalso; omega)
        · by_cases c1 : 0 ≤ a1 ∧ a1 < σ.1 305 22
          · refine s2 c1 (by omega) _ ?_
            rw [qBook_toldOfMove_0, if_neg (by omega), if_neg (by omega), if_neg (by omega), if_neg (by omega), if_neg (by omega)]
          · rw [q1, if_neg c]
            repeat' (refine xite (fun _ => ?_) (fun _ => ?_))
            all_goals first | rfl | (exfalso; omega)
      · rw [q3]
        repeat' (refine xite (fun _ => ?_) (fun _ => ?_))
        all_goals first | rfl | (exfalso; omega)
end CALLSC

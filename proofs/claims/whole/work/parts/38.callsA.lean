/-! calls: the book asked -/
section CALLSA
variable {σ : xS}
/-- a call that only asks: both answer alike, nothing stands otherwise behind it -/
def rdOK (σ : xS) (ci : Nat) (cl : List xAV) (mi : Nat) (ml : List xAV) : Prop := ∃ v τ τ', X ci 0 cl [] σ = some (v, τ) ∧ ag σ τ ∧ X mi 0 ml [] τ = some (v, τ') ∧ ag τ τ'
theorem rd_same {ci : Nat} {cl : List xAV} {mi : Nat} {ml : List xAV} {v : xAV} (h1 : X ci 0 cl [] σ = some (v, σ)) (h2 : X mi 0 ml [] σ = some (v, σ)) : rdOK σ ci cl mi ml := ⟨v, σ, σ, h1, ag_rf σ, h2, ag_rf σ⟩
theorem C_isPlace (hH : ho_J σ.1) (p : Int) (hp : -2147483648 ≤ p ∧ p < 2147483648) : X iC_isPlace 0 [(2, 200), (0, p)] [] σ = some ((0, if bk_isP σ.1 p then 1 else 0), σ) := by
  have h4 := hH.1.2.2.2.2
  have h11 := hH.2.1
  rw [qC_isPlace_0]
  simp only [h4]
  rw [xw_id (x := σ.1 305 11 - 1) (by omega) (by omega)]
  by_cases h : bk_isP σ.1 p
  · rw [if_pos h]
    by_cases hq : p < 10
    · rw [if_neg (by omega), if_neg (by omega)]
    · rw [xw_id (x := p - 10) (by omega) (by omega)]
      repeat' split
      all_goals first | rfl | omega
  · rw [if_neg h]
    by_cases hq : p < 10
    · repeat' split
      all_goals first | rfl | omega
    · rw [xw_id (x := p - 10) (by omega) (by omega)]
      repeat' split
      all_goals first | rfl | omega
theorem M_isPlace (hH : ho_J σ.1) (p : Int) : X iM_isPlace 0 [(2, 305), (0, p)] [] σ = some ((0, if bk_isP σ.1 p then 1 else 0), σ) := by
  have h11 := hH.2.1
  rw [qM_isPlace_0]
  rw [xw_id (x := 10 + σ.1 305 11) (by omega) (by omega)]
  by_cases h : bk_isP σ.1 p
  · rw [if_pos h]
    repeat' split
    all_goals first | rfl | omega
  · rw [if_neg h]
    repeat' split
    all_goals first | rfl | omega
theorem C_isAsked (hJ : bk_J σ.1) (s d k : Int) : X iC_isAsked 0 [(2, 200), (0, s), (0, d), (0, k)] [] σ = some ((0, if bk_ask σ.1 s d k then 1 else 0), σ) := by
  have h2 := hJ.1.2
  have e9 := hJ.2.1.2.1.2.2
  have e6 := hJ.2.1.2.2.2.1
  rw [qC_isAsked_0]
  simp only [e6, e9]
  rw [xw_id (x := σ.1 305 15 - 1) (by omega) (by omega)]
  by_cases h : bk_ask σ.1 s d k
  · obtain ⟨h3, ⟨h4, h5⟩, h6, h7⟩ := id h
    have hx : xin s 150 := ⟨h3.1, by omega⟩
    rw [if_pos h, if_neg (by omega), if_neg (by omega), if_neg (by omega), if_neg (by omega), if_neg (by omega), if_neg (by omega), if_pos hx, if_neg (by omega), if_pos hx, if_neg (by omega)]
  · rw [if_neg h]
    repeat' split
    all_goals first | rfl | (exfalso; exact h ⟨⟨by omega, by omega⟩, ⟨⟨by omega, by omega⟩, by omega, by omega⟩, by omega, by omega⟩) | (exfalso; rename_i hx; exact hx ⟨by omega, by omega⟩)
theorem rd_where (hJ : pJ σ.1) (a1 a2 a3 : Int) : rdOK σ iC_where [(2, 200), (0, a1), (0, a2), (0, a3)] iM_where [(2, 305), (0, a1), (0, a2), (0, a3)] := by
  have hB := hJ.2.2.1
  refine rd_same (v := (0, if bk_ask σ.1 a1 a2 a3 then bk_pl σ.1 a1 a2 a3 else -1)) ?_ ?_
  · rw [qC_where_0, C_isAsked hB, Option.bind_some, qC_where_7]
    by_cases h : bk_ask σ.1 a1 a2 a3
    · rw [if_pos h, if_pos h, if_neg (by decide), B_placeAt hB h.1, Option.bind_some, qC_where_20]
    · rw [if_neg h, if_neg h, if_pos rfl]
  · rw [qM_where_0, M_isAsked hB.1, Option.bind_some, qM_where_7]
    by_cases h : bk_ask σ.1 a1 a2 a3
    · rw [if_pos h, if_pos h, if_neg (by decide), M_placeOf hB.1, Option.bind_some, qM_where_17]
    · rw [if_neg h, if_neg h, if_pos rfl]
theorem rd_since (hJ : pJ σ.1) (a1 a2 a3 : Int) : rdOK σ iC_since [(2, 200), (0, a1), (0, a2), (0, a3)] iM_since [(2, 305), (0, a1), (0, a2), (0, a3)] := by
  have hB := hJ.2.2.1
  refine rd_same (v := (0, if bk_ask σ.1 a1 a2 a3 then bk_si σ.1 a1 a2 a3 else -1)) ?_ ?_
  · rw [qC_since_0, C_isAsked hB, Option.bind_some, qC_since_7]
    by_cases h : bk_ask σ.1 a1 a2 a3
    · rw [if_pos h, if_pos h, if_neg (by decide), B_sinceAt hB h.1, Option.bind_some, qC_since_20]
    · rw [if_neg h, if_neg h, if_pos rfl]
  · rw [qM_since_0, M_isAsked hB.1, Option.bind_some, qM_since_7]
    by_cases h : bk_ask σ.1 a1 a2 a3
    · rw [if_pos h, if_pos h, if_neg (by decide), M_sinceOf hB.1 (hB.xs h.1), Option.bind_some, qM_since_17]
    · rw [if_neg h, if_neg h, if_pos rfl]
theorem rd_washes (hJ : pJ σ.1) (a1 a2 a3 : Int) : rdOK σ iC_washes [(2, 200), (0, a1), (0, a2), (0, a3)] iM_washes [(2, 305), (0, a1), (0, a2), (0, a3)] := by
  have hB := hJ.2.2.1
  by_cases h : bk_ask σ.1 a1 a2 a3
  · obtain ⟨τ, q1, q2⟩ := M_washesOf hB.1 a1 a2 a3
    refine ⟨(0, bk_wa σ.1 a1 a2 a3), σ, τ, ?_, ag_rf σ, ?_, q2⟩
    · rw [qC_washes_0, C_isAsked hB, Option.bind_some, qC_washes_7, if_pos h, if_neg (by decide), B_washesAt hB h.1, Option.bind_some, qC_washes_20]
    · rw [qM_washes_0, M_isAsked hB.1, Option.bind_some, qM_washes_7, if_pos h, if_neg (by decide), q1, Option.bind_some, qM_washes_17]
  · refine rd_same (v := (0, -1)) ?_ ?_
    · rw [qC_washes_0, C_isAsked hB, Option.bind_some, qC_washes_7, if_neg h, if_pos rfl]
    · rw [qM_washes_0, M_isAsked hB.1, Option.bind_some, qM_washes_7, if_neg h, if_pos rfl]
theorem rd_nights (hJ : pJ σ.1) (a1 a2 a3 a4 : Int) : rdOK σ iC_nights [(2, 200), (0, a1), (0, a2), (0, a3), (0, a4), (9, 0)] iM_nights [(2, 305), (0, a1), (0, a2), (0, a3), (0, a4), (9, 0), (9, 0)] := by
  have hB := hJ.2.2.1
  have hH := hJ.2.1
  have h11 := hH.2.1
  have q1 : X iC_nights 0 [(2, 200), (0, a1), (0, a2), (0, a3), (0, a4), (9, 0)] [] σ = X iC_nights 8 [(2, 200), (0, a1), (0, a2), (0, a3), (0, a4), (9, 0)] [(0, if bk_ask σ.1 a1 a3 a4 then 1 else 0)] σ := by
    rw [qC_nights_0, C_isAsked hB, Option.bind_some]
  have q2 : X iM_nights 0 [(2, 305), (0, a1), (0, a2), (0, a3), (0, a4), (9, 0), (9, 0)] [] σ = X iM_nights 8 [(2, 305), (0, a1), (0, a2), (0, a3), (0, a4), (9, 0), (9, 0)] [(0, if bk_ask σ.1 a1 a3 a4 then 1 else 0)] σ := by
    rw [qM_nights_0, M_isAsked hB.1, Option.bind_some]
  rw [qC_nights_8, hH.1.2.2.2.2, xw_id (x := σ.1 305 11 - 1) (by omega) (by omega)] at q1
  rw [qM_nights_8] at q2
  by_cases h : bk_ask σ.1 a1 a3 a4
  · rw [if_pos h, if_neg (by decide)] at q1 q2
    by_cases h2 : 0 ≤ a2 ∧ a2 < σ.1 305 11
    · have hc := (hB.2.2.2.2.2.2 a1.toNat (by have := h.1; omega)).1
      refine rd_same (v := (0, sm (bk_at σ.1 a1 (10 + a2) a4) (a3 + 1 - σ.1 317 a1.toNat).toNat (σ.1 317 a1.toNat))) ?_ ?_
      · rw [q1, if_neg (by omega), if_neg (by omega), xw_id (x := 10 + a2) (by omega) (by omega), B_nightsAt hB h.1 ⟨h.2.1.1.1, h.2.1.1.2⟩ h.2.2.1, Option.bind_some, qC_nights_49]
      · rw [q2, if_neg (by omega), if_pos h2.2, if_pos (hB.xs h.1), M_nights_32 hB.1 h.2.1.1.2 ⟨h2.1, by omega⟩ (a3 + 1 - σ.1 317 a1.toNat).toNat _ 0 (by have := h.2.2.1; omega) hc.1 (Int.le_refl 0) hc.1, Int.zero_add]
    · refine rd_same (v := (0, -1)) ?_ ?_
      · rw [q1]
        by_cases h3 : a2 < 0
        · rw [if_pos h3]
        · rw [if_neg h3, if_pos (by omega)]
      · rw [q2]
        by_cases h3 : a2 < 0
        · rw [if_pos h3]
        · rw [if_neg h3, if_neg (by omega)]
  · rw [if_neg h, if_pos rfl] at q1 q2
    exact rd_same q1 q2
theorem rd_many (hJ : pJ σ.1) (a1 a2 a3 a4 : Int) (hr : -2147483648 ≤ a1 ∧ a1 < 2147483648) : rdOK σ iC_many [(2, 200), (0, a1), (0, a2), (0, a3), (0, a4), (9, 0)] iM_many [(2, 305), (0, a1), (0, a2), (0, a3), (0, a4)] := by
  have hB := hJ.2.2.1
  have hH := hJ.2.1
  have h6 := hJ.1.2.1
  have h11 := hH.2.1
  have q1 : X iC_many 0 [(2, 200), (0, a1), (0, a2), (0, a3), (0, a4), (9, 0)] [] σ = X iC_many 5 [(2, 200), (0, a1), (0, a2), (0, a3), (0, a4), (9, 0)] [(0, if bk_isP σ.1 a1 then 1 else 0)] σ := by
    rw [qC_many_0, C_isPlace hH _ hr, Option.bind_some]
  rw [qC_many_5, hJ.1.1.2.2.2.2.2, xw_id (x := σ.1 305 6 - 1) (by omega) (by omega)] at q1
  have k : ∀ t, X iM_many 44 [(2, 305), (0, a1), (0, a2), (0, a3), (0, a4)] [(0, t)] σ = some ((0, t), σ) := fun t => qM_many_44 t _ _ _ _ _ σ
  have q2 := qM_many_0 a1 a2 a3 a4 σ
  simp only [k] at q2
  rw [xw_id (x := 10 + σ.1 305 11) (by omega) (by omega)] at q2
  by_cases h : bk_isP σ.1 a1
  · rw [if_pos h, if_neg (by decide)] at q1
    by_cases h2 : (0 ≤ a2 ∧ a2 < σ.1 305 6) ∧ (0 ≤ a3 ∧ a3 ≤ 1000) ∧ (0 ≤ a4 ∧ a4 ≤ 1000)
    · refine rd_same (v := (0, bk_many σ.1 a1 a2 a3 a4)) ?_ ?_
      · rw [q1, if_neg (by omega), if_neg (by omega), if_neg (by omega), if_neg (by omega), if_neg (by omega), if_neg (by omega), B_manyAt hB _ _ h2.2.1 h2.2.2, Option.bind_some, qC_many_52]
      · have k1 : X iM_many 13 [(2, 305), (0, a1), (0, a2), (0, a3), (0, a4)] [(0, 1)] σ = some ((0, bk_many σ.1 a1 a2 a3 a4), σ) := by
          rw [qM_many_13, if_neg (by decide), if_neg (by omega), if_neg (by omega), if_neg (by omega), if_neg (by omega), M_manyAt hB.1, Option.bind_some, k]
        rw [q2, k1]
        repeat' split
        all_goals first | rfl | (exfalso; omega)
    · refine rd_same (v := (0, -1)) ?_ ?_
      · rw [q1]
        repeat' split
        all_goals first | rfl | (exfalso; omega)
      · rw [q2]
        have k0 : X iM_many 13 [(2, 305), (0, a1), (0, a2), (0, a3), (0, a4)] [(0, 0)] σ = some ((0, -1), σ) := by
          rw [qM_many_13, if_pos rfl, k]
        have k1 : (0 ≤ a2 ∧ a2 < σ.1 305 6) → X iM_many 13 [(2, 305), (0, a1), (0, a2), (0, a3), (0, a4)] [(0, 1)] σ = some ((0, -1), σ) := by
          intro h3
          rw [qM_many_13, if_neg (by decide)]
          simp only [k]
          repeat' split
          all_goals first | rfl | (exfalso; omega)
        rw [k0]
        repeat' split
        all_goals first | rfl | exact k1 (by omega) | (exfalso; omega)
  · rw [if_neg h, if_pos rfl] at q1
    refine rd_same q1 ?_
    have k0 : X iM_many 13 [(2, 305), (0, a1), (0, a2), (0, a3), (0, a4)] [(0, 0)] σ = some ((0, -1), σ) := by
      rw [qM_many_13, if_pos rfl, k]
    unfold bk_isP at h
    rw [q2]
    repeat' split
    all_goals first | rfl | (exfalso; omega)
end CALLSA

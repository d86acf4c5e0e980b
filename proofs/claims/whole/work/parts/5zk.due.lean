/-! sheets due, wants -/
def du_j (m : Nat → Nat → Int) : Int := if te_f m (m 305 0) < 0 then -1 else lp (fun j => m 344 ((m 341 (te_f m (m 305 0)).toNat).toNat + j) = 3 ∧ m 345 ((m 341 (te_f m (m 305 0)).toNat).toNat + j) = -1) (m 342 (te_f m (m 305 0)).toNat).toNat
abbrev duf (m : Nat → Nat → Int) (s : Nat) : Prop := bk_pl m s (m 305 0) (m 305 0) = 0 ∧ (if du_j m < 0 then m 309 (m 315 s).toNat ≤ bk_wa m s (m 305 0) (m 305 0) else 0 < sv m (hSh m s (m 305 0) (m 305 0)) (m 341 (te_f m (m 305 0)).toNat).toNat (du_j m).toNat)
section DUE
variable {σ : xS}
theorem du_j_ag {τ : xS} (h : ag σ τ) : du_j τ.1 = du_j σ.1 := by
  unfold du_j
  rw [h.sl (a := 305) (k := 0) rfl, te_f_ag h, (te_st_ag h).2.1 344 (by omega), (te_st_ag h).2.1 345 (by omega), (te_st_ag h).2.1 341 (by omega), (te_st_ag h).2.1 342 (by omega)]
theorem duf_ag {τ : xS} (h : ag σ τ) (s : Nat) : duf τ.1 s ↔ duf σ.1 s := by
  unfold duf
  rw [h.sl (a := 305) (k := 0) rfl, du_j_ag h, te_f_ag h, bk_pl_ag h, bk_wa_ag h, hSh_ag h, sv_ag h, h.cl (a := 309) (by omega), h.cl (a := 315) (by omega), (te_st_ag h).2.1 341 (by omega)]
theorem sh_life (hP : pJ σ.1) {s : Nat} (hs : (s : Int) < σ.1 305 15) : xin (s : Int) 150 ∧ xin (σ.1 315 s) 6 ∧ σ.1 317 s ≤ σ.1 305 0 := by
  have hBk := hP.2.2.1
  have h15 := hBk.1.2
  have h6 := hP.1.2.1
  have := hBk.2.2.2.2.2.2 s (by omega)
  exact ⟨⟨by omega, by omega⟩, ⟨by omega, by omega⟩, by omega⟩
theorem L_isDue (hP : pJ σ.1) (hJ : te_J σ.1 σ.2.1) (hdp : 800 ≤ xdp σ) {s : Nat} (hs : (s : Int) < σ.1 305 15) : ∃ v τ, X iLedger_isDue 0 [(2, 243), (0, (s : Int)), (9, 0), (9, 0), (9, 0)] [] σ = some ((0, v), τ) ∧ ag σ τ ∧ (v = 0 ∧ ¬ duf σ.1 s ∨ v = 1 ∧ duf σ.1 s) := by
  have hBk := hP.2.2.1
  have e0 := hBk.2.1.2.2.2.2.1
  have e217 : σ.1 217 = σ.1 315 := hBk.2.1.2.1.1
  have e205 : σ.1 205 = σ.1 309 := hP.1.1.2.2.2.1
  have h00 := hBk.2.2.2.1
  obtain ⟨hx, hx6, _⟩ := sh_life hP hs
  have hf := te_f_lt hJ (σ.1 305 0)
  rw [qLedger_isDue_0, e0, B_placeAt hBk ⟨by omega, hs⟩, Option.bind_some, qLedger_isDue_18]
  by_cases c : ¬ bk_pl σ.1 s (σ.1 305 0) (σ.1 305 0) = 0
  · rw [if_neg c]
    exact ⟨0, σ, rfl, ag_rf σ, Or.inl ⟨rfl, fun q => c q.1⟩⟩
  have c : bk_pl σ.1 s (σ.1 305 0) (σ.1 305 0) = 0 := Decidable.not_not.mp c
  rw [if_pos c, C_inForce hJ, Option.bind_some, qLedger_isDue_28]
  have none : du_j σ.1 < 0 → ∀ w3, ∃ v τ, X iLedger_isDue 44 [(2, 243), (0, (s : Int)), (0, σ.1 305 0), (2, w3), (9, 0)] [(2, 0)] σ = some ((0, v), τ) ∧ ag σ τ ∧ (v = 0 ∧ ¬ duf σ.1 s ∨ v = 1 ∧ duf σ.1 s) := by
    intro hj w3
    rw [qLedger_isDue_44, if_pos rfl, B_washesAt hBk ⟨by omega, hs⟩, Option.bind_some, qLedger_isDue_61, if_pos hx, Int.toNat_natCast, e217, if_pos hx6, e205]
    by_cases d : bk_wa σ.1 s (σ.1 305 0) (σ.1 305 0) < σ.1 309 (σ.1 315 s).toNat
    · rw [if_pos d]
      exact ⟨0, σ, rfl, ag_rf σ, Or.inl ⟨rfl, fun q => by have := q.2; rw [if_pos hj] at this; omega⟩⟩
    · rw [if_neg d]
      exact ⟨1, σ, rfl, ag_rf σ, Or.inr ⟨rfl, c, by rw [if_pos hj]; omega⟩⟩
  by_cases ht : te_f σ.1 (σ.1 305 0) < 0
  · rw [if_pos ht, if_pos rfl]
    exact none (by unfold du_j; rw [if_pos ht]; decide) _
  obtain ⟨_, F, M, T, N, cs, hB⟩ := hJ.2.2.2.2 _ (hf.2.2 (by omega))
  have ej : lp (fun j => 2 + σ.1 344 (F + j) = 5) M = du_j σ.1 := by
    unfold du_j
    rw [if_neg ht, hB.1.1, hB.1.2.1, Int.toNat_natCast, Int.toNat_natCast]
    exact lp_cg fun j hj => ⟨fun q => ⟨by omega, (hB.2.2.2.2.2 j hj).1.2.2.2.2.2.2.1 (by omega)⟩, fun q => by omega⟩
  have hl := lp_lt (p := fun j => 2 + σ.1 344 (F + j) = 5) (D := fun _ => inferInstance) (n := M)
  rw [if_neg ht, hB.2.1, if_neg (nz hB.2.2.2.1.1.1), tB_is hB, cnd_t, C_lastOf hB (by decide), Option.bind_some]
  by_cases c2 : lp (fun j => 2 + σ.1 344 (F + j) = 5) M < 0
  · rw [show ndo cs (lp (fun j => 2 + σ.1 344 (F + j) = 5) M) = 0 from if_pos c2]
    exact none (by rw [← ej]; exact c2) _
  · have h344 := hl.2.2 (by omega)
    have hn := tB_n hB (j := (lp (fun j => 2 + σ.1 344 (F + j) = 5) M).toNat) (by omega)
    obtain ⟨τ1, q1, q2, q3⟩ := C_holdSheetInPlace hP (s := s) (k := σ.1 305 0) ⟨by omega, hs⟩ (d := σ.1 305 0) (by omega)
    have eH : hPl σ.1 s (σ.1 305 0) (σ.1 305 0) = hSh σ.1 s (σ.1 305 0) (σ.1 305 0) := by
      unfold hPl
      rw [if_pos (by omega)]
    rw [eH] at q3
    have ha1 := cg1_ag tm254 q2
    obtain ⟨τ2, r1, r2, r3, _, _⟩ := C_named hB hdp ha1 q3 (hSh_bd hP ⟨by omega, hs⟩ (by omega))
    rw [show ndo cs (lp (fun j => 2 + σ.1 344 (F + j) = 5) M) = (cs (lp (fun j => 2 + σ.1 344 (F + j) = 5) M).toNat : Int) from if_neg c2, qLedger_isDue_44, if_neg (nz hn.1), q1, Option.bind_some, qLedger_isDue_94, tB_is (te_B_ag ha1 hB), cnd_t, r1, Option.bind_some, qLedger_isDue_98, tB_is (te_B_ag r2 hB), cnd_t, r3 _ (by omega) (by omega), Option.bind_some, qLedger_isDue_104]
    rw [ej] at c2 ⊢
    have e41 : (σ.1 341 (te_f σ.1 (σ.1 305 0)).toNat).toNat = F := by rw [hB.1.1]; rfl
    by_cases d : 0 < sv σ.1 (hSh σ.1 s (σ.1 305 0) (σ.1 305 0)) F (du_j σ.1).toNat
    · rw [if_pos d]
      exact ⟨1, τ2, rfl, r2, Or.inr ⟨rfl, c, by rw [if_neg c2, e41]; exact d⟩⟩
    · rw [if_neg d]
      exact ⟨0, τ2, rfl, r2, Or.inl ⟨rfl, fun q => by have := q.2; rw [if_neg c2, e41] at this; exact d this⟩⟩
theorem L_du_4 (hP : pJ σ.1) (hJ : te_J σ.1 σ.2.1) (hdp : 800 ≤ xdp σ) (w1 : xAV) : ∀ (n s : Nat) (l : Int) (τ : xS), s + n = (σ.1 305 15).toNat → (0 ≤ l ∧ l ≤ 2147483647) → ag σ τ → ∃ τ', X iLedger_dueSheet 4 [(2, 243), w1, (0, l), (0, (s : Int))] [] τ = some ((0, kthf (duf σ.1) n s l), τ') ∧ ag σ τ' := by
  have hBk := hP.2.2.1
  have h15 := hBk.1.2
  have e6 := hBk.2.1.2.2.2.1
  intro n
  induction n with
  | zero =>
    intro s l τ hs hl ha
    refine ⟨τ, ?_, ha⟩
    rw [qLedger_dueSheet_4, ha.cl (a := 216) (by omega), e6, if_neg (by omega)]
    rfl
  | succ n ih =>
    intro s l τ hs hl ha
    have hs6 : (s : Int) < 600 := by omega
    have f0 : (s : Int) < σ.1 305 15 := by omega
    have r216 : τ.1 216 = σ.1 216 := ha.cl (by omega)
    obtain ⟨v, τ1, q1, q2, q3⟩ := L_isDue (pJ_ag ha hP) (te_J_ag ha hJ) (by rw [ag_2 ha]; exact hdp) (s := s) (by rw [ha.sl (a := 305) (k := 15) rfl]; exact f0)
    rw [duf_ag ha] at q3
    rw [qLedger_dueSheet_4, r216, e6, if_pos f0, q1, Option.bind_some, qLedger_dueSheet_20]
    rcases q3 with ⟨rfl, q3⟩ | ⟨rfl, q3⟩
    · rw [if_pos rfl, xw_t hs6, kthf_n q3]
      exact ih (s + 1) l τ1 (by omega) hl (ag_tr ha q2)
    · rw [if_neg (by decide), kthf_y q3]
      by_cases e : l = 0
      · rw [if_pos e, if_pos e]
        exact ⟨τ1, rfl, ag_tr ha q2⟩
      · rw [if_neg e, if_neg e, xw_t hs6, xw_id (x := l + -1) (by omega) (by omega), show l + -1 = l - 1 by omega]
        exact ih (s + 1) (l - 1) τ1 (by omega) (by omega) (ag_tr ha q2)
theorem M_du_23 (hP : pJ σ.1) (hJ : te_J σ.1 σ.2.1) (kk : Int) : ∀ (n s : Nat) (l : Int) (τ : xS), s + n = (σ.1 305 15).toNat → (0 ≤ kk - l ∧ kk - l ≤ s) → ag σ τ → ∃ τ', X iM_due 23 [(2, 305), (0, kk), (0, te_f σ.1 (σ.1 305 0)), (0, if du_j σ.1 < 0 then -1 else σ.1 341 (te_f σ.1 (σ.1 305 0)).toNat + du_j σ.1), (0, kk - l), (0, (s : Int))] [] τ = some ((0, kthf (duf σ.1) n s l), τ') ∧ ag σ τ' := by
  have hBk := hP.2.2.1
  have h15 := hBk.1.2
  have h00 := hBk.2.2.2.1
  have hf := te_f_lt hJ (σ.1 305 0)
  have h57 := hJ.2.2.1
  have h49 := hJ.2.1
  intro n
  induction n with
  | zero =>
    intro s l τ hs hl ha
    refine ⟨τ, ?_, ha⟩
    rw [qM_due_23, ha.sl (a := 305) (k := 15) rfl, if_neg (by omega)]
    rfl
  | succ n ih =>
    intro s l τ hs hl ha
    have hs6 : (s : Int) < 600 := by omega
    have f0 : (s : Int) < σ.1 305 15 := by omega
    obtain ⟨hx, hx6, _⟩ := sh_life hP f0
    rw [qM_due_23, ha.sl (a := 305) (k := 15) rfl, if_pos f0, M_placeOf (pJ_ag ha hP).2.2.1.1, Option.bind_some, qM_due_46, bk_pl_ag ha, ha.sl (a := 305) (k := 0) rfl]
    by_cases c : ¬ bk_pl σ.1 s (σ.1 305 0) (σ.1 305 0) = 0
    · rw [if_neg c, xw_t hs6, kthf_n (fun q => c q.1)]
      exact ih (s + 1) l τ (by omega) (by omega) ha
    have c : bk_pl σ.1 s (σ.1 305 0) (σ.1 305 0) = 0 := Decidable.not_not.mp c
    obtain ⟨τ1, q1, q2, q3⟩ := M_ofSheet (pJ_ag ha hP) (s := s) (d := σ.1 305 0) (k := σ.1 305 0) (by rw [ha.sl (a := 305) (k := 15) rfl]; exact ⟨by omega, f0⟩) (by omega)
    rw [hSh_ag ha] at q3
    have ha1 := ag_tr ha q2.1
    have no : ¬ duf σ.1 s → ∀ τ2, ag σ τ2 → ∃ τ', X iM_due 23 [(2, 305), (0, kk), (0, te_f σ.1 (σ.1 305 0)), (0, if du_j σ.1 < 0 then -1 else σ.1 341 (te_f σ.1 (σ.1 305 0)).toNat + du_j σ.1), (0, kk - l), (0, xw ((s : Int) + 1))] [] τ2 = some ((0, kthf (duf σ.1) (n + 1) s l), τ') ∧ ag σ τ' := by
      intro hn τ2 ha2
      rw [xw_t hs6, kthf_n hn]
      exact ih (s + 1) l τ2 (by omega) (by omega) ha2
    have yes : duf σ.1 s → ∀ τ2, ag σ τ2 → ∃ τ', (if kk - l = kk then some ((0, (s : Int)), τ2) else X iM_due 23 [(2, 305), (0, kk), (0, te_f σ.1 (σ.1 305 0)), (0, if du_j σ.1 < 0 then -1 else σ.1 341 (te_f σ.1 (σ.1 305 0)).toNat + du_j σ.1), (0, xw (kk - l + 1)), (0, xw ((s : Int) + 1))] [] τ2) = some ((0, kthf (duf σ.1) (n + 1) s l), τ') ∧ ag σ τ' := by
      intro hy τ2 ha2
      rw [kthf_y hy]
      by_cases e : l = 0
      · rw [if_pos (by omega), if_pos e]
        exact ⟨τ2, rfl, ha2⟩
      · rw [if_neg (by omega), if_neg e, xw_t hs6, xw_id (x := kk - l + 1) (by omega) (by omega), show kk - l + 1 = kk - (l - 1) by omega]
        exact ih (s + 1) (l - 1) τ2 (by omega) (by omega) ha2
    rw [if_pos c, q1, Option.bind_some, qM_due_66]
    by_cases hj : du_j σ.1 < 0
    · rw [if_pos hj, if_pos (show (-1 : Int) < 0 by decide), if_pos hx, Int.toNat_natCast, ha1.cl (a := 315) (by omega), ha1.cl (a := 309) (by omega), if_pos hx6]
      have ew : τ1.1 365 0 = bk_wa σ.1 s (σ.1 305 0) (σ.1 305 0) := by rw [q3 0 (by decide)]; rfl
      rw [ew]
      rw [if_pos hj] at no yes
      by_cases d : bk_wa σ.1 s (σ.1 305 0) (σ.1 305 0) < σ.1 309 (σ.1 315 s).toNat
      · rw [if_pos d]
        exact no (fun q => by have := q.2; rw [if_pos hj] at this; omega) τ1 ha1
      · rw [if_neg d]
        exact yes ⟨c, by rw [if_pos hj]; omega⟩ τ1 ha1
    · have ht : ¬ te_f σ.1 (σ.1 305 0) < 0 := fun q => hj (by unfold du_j; rw [if_pos q]; decide)
      obtain ⟨_, F, M, T, N, cs, hB⟩ := hJ.2.2.2.2 _ (hf.2.2 (by omega))
      have hl2 := lp_lt (p := fun j => σ.1 344 ((σ.1 341 (te_f σ.1 (σ.1 305 0)).toNat).toNat + j) = 3 ∧ σ.1 345 ((σ.1 341 (te_f σ.1 (σ.1 305 0)).toNat).toNat + j) = -1) (D := fun _ => inferInstance) (n := (σ.1 342 (te_f σ.1 (σ.1 305 0)).toNat).toNat)
      have ed : du_j σ.1 = lp (fun j => σ.1 344 ((σ.1 341 (te_f σ.1 (σ.1 305 0)).toNat).toNat + j) = 3 ∧ σ.1 345 ((σ.1 341 (te_f σ.1 (σ.1 305 0)).toNat).toNat + j) = -1) (σ.1 342 (te_f σ.1 (σ.1 305 0)).toNat).toNat := by
        unfold du_j
        rw [if_neg ht]
      rw [← ed, hB.1.1, hB.1.2.1, Int.toNat_natCast, Int.toNat_natCast] at hl2
      have et : te_f σ.1 (σ.1 305 0) = (((te_f σ.1 (σ.1 305 0)).toNat : Nat) : Int) := by omega
      have eF : σ.1 341 (te_f σ.1 (σ.1 305 0)).toNat + du_j σ.1 = ((F + (du_j σ.1).toNat : Nat) : Int) := by rw [hB.1.1]; omega
      obtain ⟨τ2, u1, u2, _⟩ := M_named hB (by omega) (by omega) ha1 q3 (hSh_bd hP ⟨by omega, f0⟩ (by omega)) (j := (du_j σ.1).toNat) (by omega) (by rw [(hl2.2.2 (by omega)).1]; decide)
      rw [← et] at u1
      rw [if_neg hj, eF] at no yes ⊢
      have e41 : (σ.1 341 (te_f σ.1 (σ.1 305 0)).toNat).toNat = F := by rw [hB.1.1]; rfl
      rw [if_neg (by omega), u1, Option.bind_some, qM_due_102]
      by_cases d : 0 < sv σ.1 (hSh σ.1 s (σ.1 305 0) (σ.1 305 0)) F (du_j σ.1).toNat
      · rw [if_pos d]
        exact yes ⟨c, by rw [if_neg hj, e41]; exact d⟩ τ2 u2
      · rw [if_neg d]
        exact no (fun q => by have := q.2; rw [if_neg hj, e41] at this; exact d this) τ2 u2
theorem rd_due (hP : pJ σ.1) (hJ : te_J σ.1 σ.2.1) (hdp : 800 ≤ xdp σ) {a1 : Int} (h1 : -2147483648 ≤ a1 ∧ a1 ≤ 2147483647) : rdOK σ iC_due [(2, 200), (0, a1)] iM_due [(2, 305), (0, a1), (9, 0), (9, 0), (9, 0), (9, 0)] := by
  have hM : ∀ {τ : xS} (ha : ag σ τ), ∃ τ', X iM_due 0 [(2, 305), (0, a1), (9, 0), (9, 0), (9, 0), (9, 0)] [] τ = some ((0, kthf (duf σ.1) (σ.1 305 15).toNat 0 a1), τ') ∧ ag τ τ' := by
    intro τ ha
    have hJ' := te_J_ag ha hJ
    have hf := te_f_lt hJ (σ.1 305 0)
    obtain ⟨τ', q1, q2⟩ := M_du_23 hP hJ a1 (σ.1 305 15).toNat 0 a1 τ (by omega) (by omega) ha
    rw [Int.sub_self] at q1
    refine ⟨τ', ?_, ⟨q2.1.trans ha.1.symm, fun a k hk' => by rw [q2.2 a k (by rw [← tmp_2 ha.1]; exact hk'), ha.2 a k (by rw [← tmp_2 ha.1]; exact hk')]⟩⟩
    rw [← q1, qM_due_0, M_termsOn hJ'.2.1, Option.bind_some, qM_due_8, ha.sl (a := 305) (k := 0) rfl, te_f_ag ha]
    by_cases ht : te_f σ.1 (σ.1 305 0) < 0
    · rw [show te_f σ.1 (σ.1 305 0) = -1 by omega, M_lastOf_no, Option.bind_some, qM_due_16, show du_j σ.1 = -1 from if_pos ht, if_pos (show (-1 : Int) < 0 by decide)]
      rfl
    · obtain ⟨_, F, M, T, N, cs, hB⟩ := hJ.2.2.2.2 _ (hf.2.2 (by omega))
      have et : te_f σ.1 (σ.1 305 0) = (((te_f σ.1 (σ.1 305 0)).toNat : Nat) : Int) := by omega
      have hl1 := M_lastOf hJ' (show (te_f σ.1 (σ.1 305 0)).toNat < 8 by omega) (te_B_ag ha hB) 3 (-1)
      rw [← et, (te_st_ag ha).2.1 344 (by omega), (te_st_ag ha).2.1 345 (by omega)] at hl1
      have ed : du_j σ.1 = lp (fun j => σ.1 344 (F + j) = 3 ∧ σ.1 345 (F + j) = -1) M := by
        unfold du_j
        rw [if_neg ht, hB.1.1, hB.1.2.1, Int.toNat_natCast, Int.toNat_natCast]
      rw [hl1, Option.bind_some, qM_due_16, hB.1.1, ← ed]
      rfl
  by_cases c1 : a1 < 0
  · obtain ⟨τ', q1, q2⟩ := hM (ag_rf σ)
    refine ⟨(0, -1), σ, τ', ?_, ag_rf σ, ?_, q2⟩
    · rw [qC_due_0, if_pos c1]
    · rw [q1, kthf_neg _ _ _ c1]
  · obtain ⟨τ, q1, q2⟩ := L_du_4 hP hJ hdp (0, a1) (σ.1 305 15).toNat 0 a1 σ (by omega) (by omega) (ag_rf σ)
    obtain ⟨τ', r1, r2⟩ := hM q2
    have q1 : X iLedger_dueSheet 4 [(2, 243), (0, a1), (0, a1), (0, 0)] [] σ = some ((0, kthf (duf σ.1) (σ.1 305 15).toNat 0 a1), τ) := q1
    refine ⟨_, τ, τ', ?_, q2, r1, r2⟩
    rw [qC_due_0, if_neg c1, qLedger_dueSheet_0, q1, Option.bind_some, qC_due_12]
end DUE

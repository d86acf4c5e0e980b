/-! prices, bills, values -/
section NAMED
variable {σ τ : xS} {x F M T N : Nat} {cs : Nat → Nat} {H : Nat → Int}
theorem C_named (hB : te_B σ.1 σ.2.1 x F M T N cs) (hd : 800 ≤ xdp σ) (ha : ag σ τ) (e : eqh (τ.1 254) H) (hh : hbd H) : ∃ τ', X iTerms_nameAll 0 [(2, (T : Int)), (9, 0), (9, 0)] [] τ = some ((9, 0), τ') ∧ ag σ τ' ∧ (∀ j, j < M → σ.1 344 (F + j) ≤ 4 → X iTerms_exOfStatement 0 [(2, (T : Int)), (2, (cs j : Int))] [] τ' = some ((1, sv σ.1 H F j), τ')) ∧ (∀ i, i < M → σ.1 344 (F + i) = 0 → τ'.1 N (lkc (σ.1 344) F i) = sv σ.1 H F i) ∧ ∀ a, a ≠ N → τ'.1 a = τ.1 a := by
  have hB' := te_B_ag ha hB
  have hd' : 800 ≤ xdp τ := by rw [ag_2 ha]; exact hd
  have hh' : hbd (τ.1 254) := hbd_eqh e hh
  have e344 : τ.1 344 = σ.1 344 := (te_st_ag ha).2.1 344 (by omega)
  obtain ⟨τ', q1, q2, q3, q4⟩ := C_nameAll hB' hd' hh'
  have esv : ∀ j, j < M → σ.1 344 (F + j) ≤ 4 → sv τ.1 (τ.1 254) F j = sv σ.1 H F j := fun j hj hk => by
    rw [sv_hc hB' e hj (by rw [e344]; exact hk), sv_ag ha]
  refine ⟨τ', q1, ag_tr ha q2, fun j hj hk => ?_, fun i hi h0 => ?_, q3⟩
  · rw [C_exOfStatement hB' hd' hh' q2 q3 q4 hj (by rw [e344]; exact hk), esv j hj hk]
  · have := q4 i hi (by rw [e344]; exact h0)
    rw [e344] at this
    rw [this, esv i hi (by omega)]
theorem M_named (hB : te_B σ.1 σ.2.1 x F M T N cs) (hx8 : x < 8) (h57 : σ.1 305 57 ≤ 192) (ha : ag σ τ) (e : eqh (τ.1 365) H) (hh : hbd H) {j : Nat} (hj : j < M) (hk : σ.1 344 (F + j) ≤ 4) : ∃ τ', X iM_worked 0 [(2, 305), (0, (x : Int)), (0, ((F + j : Nat) : Int)), (9, 0)] [] τ = some ((1, sv σ.1 H F j), τ') ∧ ag σ τ' ∧ ∀ a, a ≠ 363 → a ≠ 364 → τ'.1 a = τ.1 a := by
  have hB' := te_B_ag ha hB
  have e344 : τ.1 344 = σ.1 344 := (te_st_ag ha).2.1 344 (by omega)
  obtain ⟨τ', q1, q2, q3⟩ := M_worked hB' hx8 (by rw [ha.sl (a := 305) (k := 57) rfl]; exact h57) (hbd_eqh e hh) hj (by rw [e344]; exact hk)
  refine ⟨τ', by rw [q1, sv_hc hB' e hj (by rw [e344]; exact hk), sv_ag ha], ag_tr ha ⟨q2, fun a k hk => ?_⟩, q3⟩
  by_cases c1 : a = 363
  · rw [c1] at hk; exact absurd hk (by show ¬ (true || _) = false; exact fun q => by cases q)
  · by_cases c2 : a = 364
    · rw [c2] at hk; exact absurd hk (by show ¬ (true || _) = false; exact fun q => by cases q)
    · rw [q3 a c1 c2]
end NAMED
/-- a price -/
def prc (m : Nat → Nat → Int) (s h d k : Int) : Int :=
  if te_f m d < 0 then Int.tdiv (m 310 (m 315 s.toNat).toNat) 20
  else if te_p m (m 341 (te_f m d).toNat).toNat (m 342 (te_f m d).toNat).toNat (m 315 s.toNat) < 0 then Int.tdiv (m 310 (m 315 s.toNat).toNat) 20
  else if sv m (xup (hSh m s d k) 6 (m 311 h.toNat)) (m 341 (te_f m d).toNat).toNat (te_p m (m 341 (te_f m d).toNat).toNat (m 342 (te_f m d).toNat).toNat (m 315 s.toNat)).toNat < 0 then 0
  else sv m (xup (hSh m s d k) 6 (m 311 h.toNat)) (m 341 (te_f m d).toNat).toNat (te_p m (m 341 (te_f m d).toNat).toNat (m 342 (te_f m d).toNat).toNat (m 315 s.toNat)).toNat
section PRICE
variable {σ : xS}
theorem te_p_ag {τ : xS} (h : ag σ τ) (F M : Nat) (s : Int) : te_p τ.1 F M s = te_p σ.1 F M s := by
  unfold te_p
  rw [(te_st_ag h).2.1 344 (by omega), (te_st_ag h).2.1 345 (by omega)]
theorem prc_ag {τ : xS} (h : ag σ τ) (s hh d k : Int) : prc τ.1 s hh d k = prc σ.1 s hh d k := by
  unfold prc
  rw [te_f_ag h, te_p_ag h, sv_ag h, hSh_ag h, h.cl (a := 310) (by omega), h.cl (a := 315) (by omega), h.cl (a := 311) (by omega), (te_st_ag h).2.1 341 (by omega), (te_st_ag h).2.1 342 (by omega)]
theorem te_p_lt {m : Nat → Nat → Int} {F M : Nat} {s : Int} : -1 ≤ te_p m F M s ∧ te_p m F M s < M ∧ (0 ≤ te_p m F M s → m 344 (F + (te_p m F M s).toNat) = 1) := by
  have h1 := lp_lt (p := fun j => m 344 (F + j) = 1 ∧ m 345 (F + j) = s) (D := fun _ => inferInstance) (n := M)
  have h2 := lp_lt (p := fun j => m 344 (F + j) = 1 ∧ m 345 (F + j) = -1) (D := fun _ => inferInstance) (n := M)
  unfold te_p
  by_cases c : lp (fun j => m 344 (F + j) = 1 ∧ m 345 (F + j) = s) M < 0
  · rw [if_pos c]; exact ⟨h2.1, h2.2.1, fun q => (h2.2.2 q).1⟩
  · rw [if_neg c]; exact ⟨h1.1, h1.2.1, fun q => (h1.2.2 q).1⟩
theorem hSh6_bd (hP : pJ σ.1) {s d k h : Int} (hs : 0 ≤ s ∧ s < σ.1 305 15) (hd : 0 ≤ d ∧ d ≤ 2000) (hh : 0 ≤ h ∧ h < σ.1 305 11) : hbd (xup (hSh σ.1 s d k) 6 (σ.1 311 h.toNat)) := by
  have := (hP.2.1.2.2 h.toNat (by omega)).1
  exact hbd_xup (hSh_bd hP hs hd) (by omega)
theorem worth_20 (hP : pJ σ.1) {s : Int} (hs : 0 ≤ s ∧ s < σ.1 305 15) : xin (σ.1 315 s.toNat) 6 ∧ xw (Int.tdiv (σ.1 310 (σ.1 315 s.toNat).toNat) 20) = Int.tdiv (σ.1 310 (σ.1 315 s.toNat).toNat) 20 ∧ -1000 ≤ Int.tdiv (σ.1 310 (σ.1 315 s.toNat).toNat) 20 ∧ Int.tdiv (σ.1 310 (σ.1 315 s.toNat).toNat) 20 ≤ 1000 := by
  have hB := hP.2.2.1
  have h2 := hB.1.2
  obtain ⟨c1, c2, c3⟩ := hB.2.2.2.2.2.2 s.toNat (by omega)
  have h6 := hP.1.2.1
  have hw := (hP.1.2.2 (σ.1 315 s.toNat).toNat (by omega)).2.2.2.2
  have ht := tdiv_abs (a := σ.1 310 (σ.1 315 s.toNat).toNat) (b := 20) (B := 1000) (by omega)
  exact ⟨⟨by omega, by omega⟩, xw_id (by omega) (by omega), ht.1, ht.2⟩
theorem prc_bd (hP : pJ σ.1) (hJ : te_J σ.1 σ.2.1) {s h d k : Int} (hs : 0 ≤ s ∧ s < σ.1 305 15) (hh : 0 ≤ h ∧ h < σ.1 305 11) (hd : 0 ≤ d ∧ d ≤ 2000) : -1000 ≤ prc σ.1 s h d k ∧ prc σ.1 s h d k ≤ 1000000000000 := by
  have hw := worth_20 hP hs
  have hf := te_f_lt hJ d
  unfold prc
  by_cases c : te_f σ.1 d < 0
  · rw [if_pos c]; omega
  rw [if_neg c]
  obtain ⟨_, F, M, T, N, cs, hB⟩ := hJ.2.2.2.2 _ (hf.2.2 (by omega))
  rw [hB.1.1, hB.1.2.1, Int.toNat_natCast, Int.toNat_natCast]
  have hp := te_p_lt (m := σ.1) (F := F) (M := M) (s := σ.1 315 s.toNat)
  by_cases c2 : te_p σ.1 F M (σ.1 315 s.toNat) < 0
  · rw [if_pos c2]; omega
  rw [if_neg c2]
  have hb := sv_bd hB (hSh6_bd hP (k := k) hs hd hh) (j := (te_p σ.1 F M (σ.1 315 s.toNat)).toNat) (by omega) (by rw [hp.2.2 (by omega)]; decide)
  split <;> omega
theorem L_priceOn (hP : pJ σ.1) (hJ : te_J σ.1 σ.2.1) (hdp : 800 ≤ xdp σ) {s h d k : Int} (hs : 0 ≤ s ∧ s < σ.1 305 15) (hh : 0 ≤ h ∧ h < σ.1 305 11) (hd : 0 ≤ d ∧ d ≤ 2000) : ∃ τ, X iLedger_priceOn 0 [(2, 243), (0, s), (0, h), (0, d), (0, k), (9, 0), (9, 0), (9, 0)] [] σ = some ((1, prc σ.1 s h d k), τ) ∧ ag σ τ := by
  have hBk := hP.2.2.1
  have h2 := hBk.1.2
  have h11 := hP.2.1.2.1
  have hx : xin s 150 := ⟨by omega, by omega⟩
  have hw := worth_20 hP hs
  have hf := te_f_lt hJ d
  have e217 : σ.1 217 = σ.1 315 := hBk.2.1.2.1.1
  have e206 : σ.1 206 = σ.1 310 := hP.1.1.2.2.2.2.1
  rw [qLedger_priceOn_0, if_pos hx, C_inForce hJ, Option.bind_some, qLedger_priceOn_16, e217]
  unfold prc
  by_cases c : te_f σ.1 d < 0
  · rw [if_pos c, if_pos c, if_pos rfl, qLedger_priceOn_34, if_pos rfl, if_pos hw.1, e206, hw.2.1]
    exact ⟨σ, rfl, ag_rf σ⟩
  obtain ⟨_, F, M, T, N, cs, hB⟩ := hJ.2.2.2.2 _ (hf.2.2 (by omega))
  rw [if_neg c, if_neg c, hB.2.1, if_neg (nz hB.2.2.2.1.1.1), tB_is hB, cnd_t, C_lastPrice hB, Option.bind_some, qLedger_priceOn_34, hB.1.1, hB.1.2.1, Int.toNat_natCast, Int.toNat_natCast]
  have hp := te_p_lt (m := σ.1) (F := F) (M := M) (s := σ.1 315 s.toNat)
  by_cases c2 : te_p σ.1 F M (σ.1 315 s.toNat) < 0
  · rw [if_pos c2, show ndo cs (te_p σ.1 F M (σ.1 315 s.toNat)) = 0 from if_pos c2, if_pos rfl, if_pos hw.1, e206, hw.2.1]
    exact ⟨σ, rfl, ag_rf σ⟩
  have hn := tB_n hB (j := (te_p σ.1 F M (σ.1 315 s.toNat)).toNat) (by omega)
  obtain ⟨τ1, q1, q2, q3⟩ := C_holdSheet hP (k := k) hs hd
  have ha1 : ag σ (xs τ1 254 6 (τ1.1 210 h.toNat)) := cg1_ag tm254 (cg1_s q2 _ _)
  have e3 : eqh ((xs τ1 254 6 (τ1.1 210 h.toNat)).1 254) (xup (hSh σ.1 s d k) 6 (σ.1 311 h.toNat)) := by
    rw [xs_at, q2.2 210 (by decide), hP.2.1.1.1]
    exact eqh_xup q3 _ _
  obtain ⟨τ2, r1, r2, r3, _, _⟩ := C_named hB hdp ha1 e3 (hSh6_bd hP hs hd hh)
  rw [if_neg c2, show ndo cs (te_p σ.1 F M (σ.1 315 s.toNat)) = (cs (te_p σ.1 F M (σ.1 315 s.toNat)).toNat : Int) from if_neg c2, if_neg (nz hn.1), q1, Option.bind_some, qLedger_priceOn_64, if_pos (xin_of (by omega) (by omega)), tB_is (te_B_ag ha1 hB), cnd_t, r1, Option.bind_some, qLedger_priceOn_74, tB_is (te_B_ag r2 hB), cnd_t, r3 _ (by omega) (by rw [hp.2.2 (by omega)]; decide), Option.bind_some, qLedger_priceOn_82]
  refine ⟨τ2, ?_, r2⟩
  refine congrArg (fun z => some ((1, z), τ2)) ?_
  show (if (0 : Int) < _ then _ else (0 : Int)) = _
  by_cases z : sv σ.1 (xup (hSh σ.1 s d k) 6 (σ.1 311 h.toNat)) F (te_p σ.1 F M (σ.1 315 s.toNat)).toNat < 0
  · rw [if_pos z, if_neg (by omega)]
  · rw [if_neg z]
    by_cases z2 : 0 < sv σ.1 (xup (hSh σ.1 s d k) 6 (σ.1 311 h.toNat)) F (te_p σ.1 F M (σ.1 315 s.toNat)).toNat
    · rw [if_pos z2]
    · rw [if_neg z2]; omega
theorem M_priceOf (hP : pJ σ.1) (hJ : te_J σ.1 σ.2.1) {s h d k : Int} (hs : 0 ≤ s ∧ s < σ.1 305 15) (hh : 0 ≤ h ∧ h < σ.1 305 11) (hd : 0 ≤ d ∧ d ≤ 2000) : ∃ τ, X iM_priceOf 0 [(2, 305), (0, s), (0, h), (0, d), (0, k), (9, 0), (9, 0), (9, 0), (9, 0)] [] σ = some ((1, prc σ.1 s h d k), τ) ∧ ag σ τ := by
  have hBk := hP.2.2.1
  have h2 := hBk.1.2
  have h11 := hP.2.1.2.1
  have hx : xin s 150 := ⟨by omega, by omega⟩
  have hw := worth_20 hP hs
  have hf := te_f_lt hJ d
  have h57 := hJ.2.2.1
  have h49 := hJ.2.1
  rw [qM_priceOf_0, M_termsOn hJ.2.1, Option.bind_some, qM_priceOf_5, if_pos hx]
  unfold prc
  by_cases c : te_f σ.1 d < 0
  · rw [if_pos c, show te_f σ.1 d = -1 by omega, M_lastOf_no, Option.bind_some, qM_priceOf_20, if_pos (by decide), M_lastOf_no, Option.bind_some, qM_priceOf_35, if_pos (by decide), if_pos hx, if_pos hw.1, hw.2.1]
    exact ⟨σ, rfl, ag_rf σ⟩
  obtain ⟨_, F, M, T, N, cs, hB⟩ := hJ.2.2.2.2 _ (hf.2.2 (by omega))
  have et : te_f σ.1 d = (((te_f σ.1 d).toNat : Nat) : Int) := by omega
  have go : ∀ (j : Nat) (w0 w1 : xAV), j < M → σ.1 344 (F + j) = 1 → ∃ τ, (X iM_ofSheet 0 [(2, 305), (0, s), (0, d), (0, k)] [] σ).bind (fun q => X iM_priceOf 66 [(2, 305), (0, s), (0, h), (0, d), (0, k), (0, te_f σ.1 d), (0, ((F + j : Nat) : Int)), w0, w1] [] q.2) = some ((1, if sv σ.1 (xup (hSh σ.1 s d k) 6 (σ.1 311 h.toNat)) F j < 0 then 0 else sv σ.1 (xup (hSh σ.1 s d k) 6 (σ.1 311 h.toNat)) F j), τ) ∧ ag σ τ := by
    intro j w0 w1 hj hk
    obtain ⟨τ1, q1, q2, q3⟩ := M_ofSheet hP (k := k) hs hd
    have ha1 : ag σ (xs τ1 365 6 (τ1.1 311 h.toNat)) := ag_tr q2.1 (ag_sS rfl)
    have e3 : eqh ((xs τ1 365 6 (τ1.1 311 h.toNat)).1 365) (xup (hSh σ.1 s d k) 6 (σ.1 311 h.toNat)) := by
      rw [xs_at, q2.2 311 (by decide) (by decide) (by decide)]
      exact eqh_xup q3 _ _
    obtain ⟨τ2, r1, r2, _⟩ := M_named hB (by omega) (by omega) ha1 e3 (hSh6_bd hP hs hd hh) hj (by omega)
    rw [← et] at r1
    refine ⟨τ2, ?_, r2⟩
    rw [q1, Option.bind_some, qM_priceOf_66, if_pos (xin_of (by omega) (by omega)), r1, Option.bind_some, qM_priceOf_88]
    by_cases z : sv σ.1 (xup (hSh σ.1 s d k) 6 (σ.1 311 h.toNat)) F j < 0
    · rw [if_pos z, if_pos z]
    · rw [if_neg z, if_neg z]
  have hl1 := M_lastOf hJ (show (te_f σ.1 d).toNat < 8 by omega) hB 1 (σ.1 315 s.toNat)
  have hl2 := M_lastOf hJ (show (te_f σ.1 d).toNat < 8 by omega) hB 1 (-1)
  rw [← et] at hl1 hl2
  have hp1 := lp_lt (p := fun j => σ.1 344 (F + j) = 1 ∧ σ.1 345 (F + j) = σ.1 315 s.toNat) (D := fun _ => inferInstance) (n := M)
  have hp2 := lp_lt (p := fun j => σ.1 344 (F + j) = 1 ∧ σ.1 345 (F + j) = -1) (D := fun _ => inferInstance) (n := M)
  rw [if_neg c, hB.1.1, hB.1.2.1, Int.toNat_natCast, Int.toNat_natCast, hl1, Option.bind_some, qM_priceOf_20]
  unfold te_p
  by_cases c1 : lp (fun j => σ.1 344 (F + j) = 1 ∧ σ.1 345 (F + j) = σ.1 315 s.toNat) M < 0
  · rw [show abF F (lp (fun j => σ.1 344 (F + j) = 1 ∧ σ.1 345 (F + j) = σ.1 315 s.toNat) M) = -1 from if_pos c1, if_pos (by decide), if_pos c1, hl2, Option.bind_some, qM_priceOf_35]
    by_cases c2 : lp (fun j => σ.1 344 (F + j) = 1 ∧ σ.1 345 (F + j) = -1) M < 0
    · rw [show abF F (lp (fun j => σ.1 344 (F + j) = 1 ∧ σ.1 345 (F + j) = -1) M) = -1 from if_pos c2, if_pos (by decide), if_pos c2, if_pos hx, if_pos hw.1, hw.2.1]
      exact ⟨σ, rfl, ag_rf σ⟩
    · have e : abF F (lp (fun j => σ.1 344 (F + j) = 1 ∧ σ.1 345 (F + j) = -1) M) = ((F + (lp (fun j => σ.1 344 (F + j) = 1 ∧ σ.1 345 (F + j) = -1) M).toNat : Nat) : Int) := by
        unfold abF
        rw [if_neg c2]; omega
      rw [e, if_neg (by omega), if_neg c2]
      exact go _ _ _ (by omega) (hp2.2.2 (by omega)).1
  · have e : abF F (lp (fun j => σ.1 344 (F + j) = 1 ∧ σ.1 345 (F + j) = σ.1 315 s.toNat) M) = ((F + (lp (fun j => σ.1 344 (F + j) = 1 ∧ σ.1 345 (F + j) = σ.1 315 s.toNat) M).toNat : Nat) : Int) := by
      unfold abF
      rw [if_neg c1]; omega
    rw [e, if_neg (by omega), if_neg (by omega), if_neg c1, if_neg c1]
    exact go _ _ _ (by omega) (hp1.2.2 (by omega)).1
theorem rd_price (hP : pJ σ.1) (hJ : te_J σ.1 σ.2.1) (hdp : 800 ≤ xdp σ) (a1 a2 : Int) : rdOK σ iC_price [(2, 200), (0, a1), (0, a2), (9, 0)] iM_price [(2, 305), (0, a1), (0, a2)] := by
  have hBk := hP.2.2.1
  have h15 := hBk.1.2
  have e6 := hBk.2.1.2.2.2.1
  have e0 := hBk.2.1.2.2.2.2.1
  have h11 := hP.2.1.2.1
  have e4 := hP.2.1.1.2.2.2.2
  have h0 := hBk.2.2.2.1
  have w15 : xw (σ.1 305 15 - 1) = σ.1 305 15 - 1 := xw_id (by omega) (by omega)
  have w11 : xw (σ.1 305 11 - 1) = σ.1 305 11 - 1 := xw_id (by omega) (by omega)
  by_cases hs : 0 ≤ a1 ∧ a1 < σ.1 305 15
  · by_cases hh : 0 ≤ a2 ∧ a2 < σ.1 305 11
    · obtain ⟨τ, q1, q2⟩ := L_priceOn hP hJ hdp (k := σ.1 305 0) hs hh (d := σ.1 305 0) (by omega)
      obtain ⟨τ', r1, r2⟩ := M_priceOf (pJ_ag q2 hP) (te_J_ag q2 hJ) (s := a1) (h := a2) (d := σ.1 305 0) (k := σ.1 305 0) (by rw [q2.sl (a := 305) (k := 15) rfl]; exact hs) (by rw [q2.sl (a := 305) (k := 11) rfl]; exact hh) (by omega)
      refine ⟨(1, prc σ.1 a1 a2 (σ.1 305 0) (σ.1 305 0)), τ, τ', ?_, q2, ?_, r2⟩
      · rw [qC_price_0, e6, w15, e4, w11, e0, if_neg (by omega), if_neg (by omega), if_neg (by omega), if_neg (by omega), q1, Option.bind_some, qC_price_55]
      · rw [qM_price_0, q2.sl (a := 305) (k := 15) rfl, q2.sl (a := 305) (k := 11) rfl, q2.sl (a := 305) (k := 0) rfl, if_neg (by omega), if_pos (by omega), if_neg (by omega), if_pos (by omega), r1, Option.bind_some, qM_price_30, prc_ag q2]
    · refine rd_same (v := (1, -1)) ?_ ?_
      · rw [qC_price_0, e6, w15, e4, w11, if_neg (by omega), if_neg (by omega)]
        clear w15 w11
        repeat' split
        all_goals first | rfl | (exfalso; omega)
      · rw [qM_price_0, if_neg (by omega), if_pos (by omega)]
        clear w15 w11
        repeat' split
        all_goals first | rfl | (exfalso; omega)
  · refine rd_same (v := (1, -1)) ?_ ?_
    · rw [qC_price_0, e6, w15]
      clear w15 w11
      by_cases c : a1 < 0
      · rw [if_pos c]
      · rw [if_neg c, if_pos (by omega)]
    · rw [qM_price_0]
      clear w15 w11
      by_cases c : a1 < 0
      · rw [if_pos c]
      · rw [if_neg c, if_neg (by omega)]
end PRICE

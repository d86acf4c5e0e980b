/-! proven -/
section ATH
variable {σ : xS}
theorem hSo_ag {τ : xS} (h : ag σ τ) (so : Int) (g : Nat → Int) : hSo τ.1 so g = hSo σ.1 so g := by
  unfold hSo
  rw [h.cl (a := 309) (by omega), h.cl (a := 310) (by omega), h.cl (a := 306) (by omega)]
theorem hSh_ag {τ : xS} (h : ag σ τ) (s d k : Int) : hSh τ.1 s d k = hSh σ.1 s d k := by
  unfold hSh
  rw [hSo_ag h, bk_wa_ag h, h.cl (a := 315) (by omega), h.cl (a := 317) (by omega)]
theorem hPl_ag {τ : xS} (h : ag σ τ) (s d k : Int) : hPl τ.1 s d k = hPl σ.1 s d k := by
  unfold hPl
  rw [hSh_ag h, bk_pl_ag h, bk_si_ag h, ev_mi_ag h, h.cl (a := 311) (by omega)]
theorem te_l_ag {τ : xS} (h : ag σ τ) (d : Int) : ∀ n, te_l τ.1 d n = te_l σ.1 d n
  | 0 => rfl
  | n + 1 => by
    show (if τ.1 343 n ≤ d then (n : Int) else te_l τ.1 d n) = if σ.1 343 n ≤ d then (n : Int) else te_l σ.1 d n
    rw [te_l_ag h d n, (te_st_ag h).2.1 343 (by omega)]
theorem te_f_ag {τ : xS} (h : ag σ τ) (d : Int) : te_f τ.1 d = te_f σ.1 d := by
  unfold te_f
  rw [h.sl (a := 305) (k := 49) rfl, te_l_ag h]
theorem sv_ag {τ : xS} (h : ag σ τ) (g : Nat → Int) (F j : Nat) : sv τ.1 g F j = sv σ.1 g F j := sv_cg fun a h1 h2 => (te_st_ag h).2.1 a (by omega)
theorem M_atHouse (hP : pJ σ.1) {s d k : Int} (hs : 0 ≤ s ∧ s < σ.1 305 15) (hd : 0 ≤ d ∧ d ≤ 2000) {τ1 : xS} (ha : ag σ τ1) (q3 : eqh (τ1.1 365) (hSh σ.1 s d k)) : ∃ τ', X iM_atHouse 0 [(2, 305), (0, s), (0, d), (0, k), (9, 0)] [] τ1 = some ((9, 0), τ') ∧ ag σ τ' ∧ eqh (τ'.1 365) (hPl σ.1 s d k) := by
  have hB := hP.2.2.1
  have hpl := bk_pl_le hB.2.2.2 hP.2.1 s d k
  have hsi := bk_si_bd hP hs d k
  have h11 := hP.2.1.2.1
  have h2 := hB.1.2
  have hx : xin s 150 := ⟨by omega, by omega⟩
  have hJ1 := pJ_ag ha hP
  rw [qM_atHouse_0, M_placeOf hJ1.2.2.1.1, Option.bind_some, qM_atHouse_7, bk_pl_ag ha]
  unfold hPl
  by_cases c : bk_pl σ.1 s d k < 10
  · rw [if_pos c, if_pos c]
    exact ⟨τ1, rfl, ha, q3⟩
  · rw [if_neg c, if_neg c, xw_id (x := bk_pl σ.1 s d k - 10) (by omega) (by omega), if_pos (xin_of (by omega) (by omega))]
    have ha2 : ag σ (xs τ1 365 6 (τ1.1 311 (bk_pl σ.1 s d k - 10).toNat)) := ag_tr ha (ag_sS rfl)
    have hJ2 := pJ_ag ha2 hP
    rw [M_sinceOf hJ2.2.2.1.1 hx, Option.bind_some, qM_atHouse_49, if_pos (xin_of (by decide) (by decide)), bk_si_ag ha2, xw_id (x := d - bk_si σ.1 s d k) (by omega) (by omega)]
    have ha3 : ag σ (xs (xs τ1 365 6 (τ1.1 311 (bk_pl σ.1 s d k - 10).toNat)) 365 (7 : Int).toNat (d - bk_si σ.1 s d k)) := ag_tr ha2 (ag_sS rfl)
    have hJ3 := pJ_ag ha3 hP
    rw [M_missesOf hJ3 hx, Option.bind_some, qM_atHouse_65, if_pos (xin_of (by decide) (by decide))]
    refine ⟨_, rfl, ag_tr ha3 (ag_sS rfl), ?_⟩
    rw [ev_mi_ag ha3, xs_at, xs_at, xs_at, ha.cl (a := 311) (by omega)]
    exact eqh_xup (eqh_xup (eqh_xup q3 _ _) _ _) _ _
end ATH
/-- a heat that proves -/
def pvb (m : Nat → Nat → Int) (d k a b : Int) : Nat → Nat → Bool
  | 0, _ => false
  | n + 1, i => decide (m 325 i = d ∧ m 328 i ≤ k ∧ a ≤ m 326 i ∧ b ≤ m 327 i) || pvb m d k a b n (i + 1)
def pv_j (m : Nat → Nat → Int) (d : Int) : Int := lp (fun j => m 344 ((m 341 (te_f m d).toNat).toNat + j) = 6) (m 342 (te_f m d).toNat).toNat
def pv_a (m : Nat → Nat → Int) (d : Int) : Int := if te_f m d < 0 then 0 else if pv_j m d < 0 then 0 else m 345 ((m 341 (te_f m d).toNat).toNat + (pv_j m d).toNat)
def pv_b (m : Nat → Nat → Int) (d : Int) : Int := if te_f m d < 0 then 0 else if pv_j m d < 0 then 0 else m 346 ((m 341 (te_f m d).toNat).toNat + (pv_j m d).toNat)
/-- proven -/
def pvn (m : Nat → Nat → Int) (d k : Int) : Bool := pvb m d k (pv_a m d) (pv_b m d) (m 305 30).toNat 0
section PROVEN
variable {σ : xS}
theorem M_isProven_84 (hH : ht_J σ.1) (d k a b : Int) (w3 : xAV) : ∀ (n i : Nat), i + n = (σ.1 305 30).toNat → X iM_isProven 84 [(2, 305), (0, d), (0, k), w3, (0, a), (0, b), (0, (i : Int))] [] σ = some ((0, if pvb σ.1 d k a b n i = true then 1 else 0), σ) := by
  have h30 := hH.2
  intro n
  induction n with
  | zero =>
    intro i hi
    rw [qM_isProven_84, if_neg (by omega)]
    rfl
  | succ n ih =>
    intro i hi
    have hx : xin (i : Int) 60 := ⟨by omega, by omega⟩
    have kk := ih (i + 1) (by omega)
    have nx : xw ((i : Int) + 1) = ((i + 1 : Nat) : Int) := by rw [xw_id (by omega) (by omega)]; omega
    rw [qM_isProven_84, if_pos (by omega)]
    simp only [if_pos hx, Int.toNat_natCast, nx]
    rw [show pvb σ.1 d k a b (n + 1) i = (decide (σ.1 325 i = d ∧ σ.1 328 i ≤ k ∧ a ≤ σ.1 326 i ∧ b ≤ σ.1 327 i) || pvb σ.1 d k a b n (i + 1)) from rfl]
    by_cases c : σ.1 325 i = d ∧ σ.1 328 i ≤ k ∧ a ≤ σ.1 326 i ∧ b ≤ σ.1 327 i
    · rw [if_pos c.1, if_neg (by omega), if_neg (by omega), if_neg (by omega), decide_eq_true c]
      rfl
    · rw [decide_eq_false c, Bool.false_or]
      clear nx
      generalize (if pvb σ.1 d k a b n (i + 1) = true then (1 : Int) else 0) = R at kk ⊢
      repeat' split
      all_goals first | exact kk | (exfalso; omega)
theorem E_hasHeat_3 (hH : ht_J σ.1) (d k a b : Int) : ∀ (n i : Nat), i + n = (σ.1 305 30).toNat → X iEvidence_hasHeat 3 [(2, 229), (0, d), (0, k), (0, a), (0, b), (0, (i : Int))] [] σ = some ((0, if pvb σ.1 d k a b n i = true then 1 else 0), σ) := by
  have h30 := hH.2
  obtain ⟨e1, e2, e3, e4, e5⟩ := hH.1
  intro n
  induction n with
  | zero =>
    intro i hi
    rw [qEvidence_hasHeat_3, e5, if_neg (by omega)]
    rfl
  | succ n ih =>
    intro i hi
    have hx : xin (i : Int) 60 := ⟨by omega, by omega⟩
    have kk := ih (i + 1) (by omega)
    have nx : xw ((i : Int) + 1) = ((i + 1 : Nat) : Int) := by rw [xw_id (by omega) (by omega)]; omega
    rw [qEvidence_hasHeat_3, e5, if_pos (by omega)]
    simp only [if_pos hx, Int.toNat_natCast, nx, e1, e2, e3, e4]
    rw [show pvb σ.1 d k a b (n + 1) i = (decide (σ.1 325 i = d ∧ σ.1 328 i ≤ k ∧ a ≤ σ.1 326 i ∧ b ≤ σ.1 327 i) || pvb σ.1 d k a b n (i + 1)) from rfl]
    by_cases c : σ.1 325 i = d ∧ σ.1 328 i ≤ k ∧ a ≤ σ.1 326 i ∧ b ≤ σ.1 327 i
    · rw [if_pos c.1, if_neg (by omega), if_neg (by omega), if_neg (by omega), decide_eq_true c]
      rfl
    · rw [decide_eq_false c, Bool.false_or]
      clear nx
      generalize (if pvb σ.1 d k a b n (i + 1) = true then (1 : Int) else 0) = R at kk ⊢
      repeat' split
      all_goals first | exact kk | (exfalso; omega)
theorem pvb_ag {τ : xS} (h : ag σ τ) (d k a b : Int) : ∀ n i, pvb τ.1 d k a b n i = pvb σ.1 d k a b n i
  | 0, _ => rfl
  | n + 1, i => by
    show (decide (τ.1 325 i = d ∧ τ.1 328 i ≤ k ∧ a ≤ τ.1 326 i ∧ b ≤ τ.1 327 i) || pvb τ.1 d k a b n (i + 1)) = (decide (σ.1 325 i = d ∧ σ.1 328 i ≤ k ∧ a ≤ σ.1 326 i ∧ b ≤ σ.1 327 i) || pvb σ.1 d k a b n (i + 1))
    rw [pvb_ag h d k a b n (i + 1), h.cl (a := 325) (by omega), h.cl (a := 326) (by omega), h.cl (a := 327) (by omega), h.cl (a := 328) (by omega)]
theorem M_isProven_24 (hP : pJ σ.1) (hJ : te_J σ.1 σ.2.1) {d k : Int} (h0 : 0 ≤ te_f σ.1 d) : ∀ (n j : Nat), j + n = (σ.1 342 (te_f σ.1 d).toNat).toNat → X iM_isProven 24 [(2, 305), (0, d), (0, k), (0, te_f σ.1 d), (0, if lp (fun j => σ.1 344 ((σ.1 341 (te_f σ.1 d).toNat).toNat + j) = 6) j < 0 then 0 else σ.1 345 ((σ.1 341 (te_f σ.1 d).toNat).toNat + (lp (fun j => σ.1 344 ((σ.1 341 (te_f σ.1 d).toNat).toNat + j) = 6) j).toNat)), (0, if lp (fun j => σ.1 344 ((σ.1 341 (te_f σ.1 d).toNat).toNat + j) = 6) j < 0 then 0 else σ.1 346 ((σ.1 341 (te_f σ.1 d).toNat).toNat + (lp (fun j => σ.1 344 ((σ.1 341 (te_f σ.1 d).toNat).toNat + j) = 6) j).toNat)), (0, (((σ.1 341 (te_f σ.1 d).toNat).toNat + j : Nat) : Int))] [] σ = some ((0, if pvn σ.1 d k = true then 1 else 0), σ) := by
  have hf := te_f_lt hJ d
  obtain ⟨_, F, M, T, N, cs, hB⟩ := hJ.2.2.2.2 _ (hf.2.2 h0)
  obtain ⟨e1, e2, e3, e4⟩ := hB.1
  have h57 := hJ.2.2.1
  have h49 := hJ.2.1
  have hx : xin (te_f σ.1 d) 8 := ⟨by omega, by omega⟩
  have eF : (σ.1 341 (te_f σ.1 d).toNat).toNat = F := by rw [e1]; rfl
  have eM : (σ.1 342 (te_f σ.1 d).toNat).toNat = M := by rw [e2]; rfl
  intro n
  induction n with
  | zero =>
    intro j hj
    rw [eM] at hj
    rw [eF]
    rw [qM_isProven_24, if_pos hx, if_pos hx, e1, e2, xw_id (by omega) (by omega), if_neg (by omega)]
    have hh := M_isProven_84 hP.2.2.2.1 d k (pv_a σ.1 d) (pv_b σ.1 d) (0, te_f σ.1 d) (σ.1 305 30).toNat 0 (by omega)
    unfold pvn
    rw [← hh]
    unfold pv_a pv_b pv_j
    rw [if_neg (show ¬ te_f σ.1 d < 0 by omega), if_neg (show ¬ te_f σ.1 d < 0 by omega), eF, eM, show j = M by omega]
    rfl
  | succ n ih =>
    intro j hj
    have kk := ih (j + 1) (by omega)
    rw [eM] at hj
    rw [eF] at kk
    rw [eF]
    have hxj : xin ((F + j : Nat) : Int) 200 := ⟨by omega, by omega⟩
    rw [show lp (fun j => σ.1 344 (F + j) = 6) (j + 1) = if σ.1 344 (F + j) = 6 then (j : Int) else lp (fun j => σ.1 344 (F + j) = 6) j from rfl] at kk
    rw [qM_isProven_24, if_pos hx, if_pos hx, e1, e2, xw_id (x := (F : Int) + (M : Int)) (by omega) (by omega), if_pos (by omega), if_pos hxj]
    simp only [Int.toNat_natCast]
    rw [xw_id (x := ((F + j : Nat) : Int) + 1) (by omega) (by omega), show ((F + j : Nat) : Int) + 1 = ((F + (j + 1) : Nat) : Int) by omega]
    by_cases c : σ.1 344 (F + j) = 6
    · rw [if_pos c] at kk
      rw [if_pos c, if_pos hxj, if_pos hxj]
      rw [if_neg (show ¬ (j : Int) < 0 by omega), if_neg (show ¬ (j : Int) < 0 by omega), Int.toNat_natCast] at kk
      exact kk
    · rw [if_neg c] at kk
      rw [if_neg c]
      exact kk
theorem M_isProven (hP : pJ σ.1) (hJ : te_J σ.1 σ.2.1) (d k : Int) : X iM_isProven 0 [(2, 305), (0, d), (0, k), (9, 0), (9, 0), (9, 0), (9, 0)] [] σ = some ((0, if pvn σ.1 d k = true then 1 else 0), σ) := by
  have hf := te_f_lt hJ d
  rw [qM_isProven_0, M_termsOn hJ.2.1, Option.bind_some, qM_isProven_5]
  by_cases c : te_f σ.1 d < 0
  · have hh := M_isProven_84 hP.2.2.2.1 d k (pv_a σ.1 d) (pv_b σ.1 d) (0, te_f σ.1 d) (σ.1 305 30).toNat 0 (by omega)
    rw [if_pos c]
    unfold pvn
    rw [← hh, show pv_a σ.1 d = 0 from if_pos c, show pv_b σ.1 d = 0 from if_pos c]
    rfl
  · have hh := M_isProven_24 hP hJ (k := k) (show 0 ≤ te_f σ.1 d by omega) (σ.1 342 (te_f σ.1 d).toNat).toNat 0 (by omega)
    obtain ⟨_, F, M, T, N, cs, hB⟩ := hJ.2.2.2.2 _ (hf.2.2 (by omega))
    rw [if_neg c, if_pos (xin_of (by omega) (by omega)), ← hh]
    have e1 := hB.1.1
    rw [show (((σ.1 341 (te_f σ.1 d).toNat).toNat + 0 : Nat) : Int) = σ.1 341 (te_f σ.1 d).toNat by rw [e1]; omega]
    rfl
theorem L_isProven (hP : pJ σ.1) (hJ : te_J σ.1 σ.2.1) (d k : Int) : X iLedger_isProven 0 [(2, 243), (0, d), (0, k), (9, 0), (9, 0), (9, 0), (9, 0)] [] σ = some ((0, if pvn σ.1 d k = true then 1 else 0), σ) := by
  have hf := te_f_lt hJ d
  have heat : ∀ a b : Int, X iEvidence_hasHeat 0 [(2, 229), (0, d), (0, k), (0, a), (0, b), (9, 0)] [] σ = some ((0, if pvb σ.1 d k a b (σ.1 305 30).toNat 0 = true then 1 else 0), σ) := fun a b => by
    rw [qEvidence_hasHeat_0]
    exact E_hasHeat_3 hP.2.2.2.1 d k a b (σ.1 305 30).toNat 0 (by omega)
  have fin : ∀ (a b : Int) (w0 w1 w2 w3 w4 w5 w6 : xAV), a = pv_a σ.1 d → b = pv_b σ.1 d → (X iEvidence_hasHeat 0 [(2, 229), (0, d), (0, k), (0, a), (0, b), (9, 0)] [] σ).bind (fun q => X iLedger_isProven 68 [w0, w1, w2, w3, w4, w5, w6] [q.1] q.2) = some ((0, if pvn σ.1 d k = true then 1 else 0), σ) := by
    intro a b w0 w1 w2 w3 w4 w5 w6 ea eb
    rw [heat, Option.bind_some, qLedger_isProven_68, ea, eb]
    unfold pvn
    cases pvb σ.1 d k (pv_a σ.1 d) (pv_b σ.1 d) (σ.1 305 30).toNat 0 <;> rfl
  rw [qLedger_isProven_0, C_inForce hJ, Option.bind_some, qLedger_isProven_5]
  by_cases c : te_f σ.1 d < 0
  · rw [if_pos c, if_pos rfl, qLedger_isProven_21, if_pos rfl, if_pos rfl]
    exact fin 0 0 _ _ _ _ _ _ _ (if_pos c).symm (if_pos c).symm
  · obtain ⟨_, F, M, T, N, cs, hB⟩ := hJ.2.2.2.2 _ (hf.2.2 (by omega))
    obtain ⟨e1, e2, e3, e4⟩ := hB.1
    have eF : (σ.1 341 (te_f σ.1 d).toNat).toNat = F := by rw [e1]; rfl
    have eM : (σ.1 342 (te_f σ.1 d).toNat).toNat = M := by rw [e2]; rfl
    have ej : lp (fun j => 2 + σ.1 344 (F + j) = 8) M = pv_j σ.1 d := by
      unfold pv_j
      rw [eF, eM]
      exact lp_cg fun j _ => ⟨fun q => by omega, fun q => by omega⟩
    have hl := lp_lt (p := fun j => 2 + σ.1 344 (F + j) = 8) (D := fun _ => inferInstance) (n := M)
    rw [if_neg c, hB.2.1, if_neg (nz hB.2.2.2.1.1.1), tB_is hB, cnd_t, C_lastOf hB (by decide), Option.bind_some, qLedger_isProven_21]
    by_cases c2 : lp (fun j => 2 + σ.1 344 (F + j) = 8) M < 0
    · rw [show ndo cs (lp (fun j => 2 + σ.1 344 (F + j) = 8) M) = 0 from if_pos c2, if_pos rfl, if_pos rfl]
      rw [ej] at c2
      exact fin 0 0 _ _ _ _ _ _ _ ((if_neg c).trans (if_pos c2)).symm ((if_neg c).trans (if_pos c2)).symm
    · have hn := tB_n hB (j := (lp (fun j => 2 + σ.1 344 (F + j) = 8) M).toNat) (by omega)
      have h3 := (hB.2.2.2.2.2 (lp (fun j => 2 + σ.1 344 (F + j) = 8) M).toNat (by omega)).1.2.2.2.2.2.2.2.1 (by have := hl.2.2 (by omega); omega)
      rw [show ndo cs (lp (fun j => 2 + σ.1 344 (F + j) = 8) M) = (cs (lp (fun j => 2 + σ.1 344 (F + j) = 8) M).toNat : Int) from if_neg c2, if_neg (nz hn.1), nd_f hn, xob_some, if_neg (nz hn.1), nd_f hn, xob_some, h3.1.1, h3.1.2]
      rw [ej] at c2 ⊢
      refine fin _ _ _ _ _ _ _ _ _ ?_ ?_
      · unfold pv_a
        rw [if_neg c, if_neg c2, eF]
      · unfold pv_b
        rw [if_neg c, if_neg c2, eF]
theorem rd_proven (hP : pJ σ.1) (hJ : te_J σ.1 σ.2.1) (a1 a2 : Int) : rdOK σ iC_proven [(2, 200), (0, a1), (0, a2)] iM_proven [(2, 305), (0, a1), (0, a2)] := by
  by_cases c1 : a1 < 0
  · refine rd_same (v := (0, -1)) ?_ ?_
    · rw [qC_proven_0, if_pos c1]
    · rw [qM_proven_0, if_pos c1]
  by_cases c2 : 1000 < a1
  · refine rd_same (v := (0, -1)) ?_ ?_
    · rw [qC_proven_0, if_neg c1, if_pos c2]
    · rw [qM_proven_0, if_neg c1, if_pos c2]
  by_cases c3 : a2 < 0
  · refine rd_same (v := (0, -1)) ?_ ?_
    · rw [qC_proven_0, if_neg c1, if_neg c2, if_pos c3]
    · rw [qM_proven_0, if_neg c1, if_neg c2, if_pos c3]
  by_cases c4 : 1000 < a2
  · refine rd_same (v := (0, -1)) ?_ ?_
    · rw [qC_proven_0, if_neg c1, if_neg c2, if_neg c3, if_pos c4]
    · rw [qM_proven_0, if_neg c1, if_neg c2, if_neg c3, if_pos c4]
  refine rd_same (v := (0, if pvn σ.1 a1 a2 = true then 1 else 0)) ?_ ?_
  · rw [qC_proven_0, if_neg c1, if_neg c2, if_neg c3, if_neg c4, L_isProven hP hJ, Option.bind_some, qC_proven_17]
    cases pvn σ.1 a1 a2 <;> rfl
  · rw [qM_proven_0, if_neg c1, if_neg c2, if_neg c3, if_neg c4, M_isProven hP hJ, Option.bind_some, qM_proven_24]
    cases pvn σ.1 a1 a2 <;> rfl
end PROVEN

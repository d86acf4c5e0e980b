/-! parts of a loss: the reference, the call -/
section PARTC
variable {σ : xS}
theorem M_pt_75 (hP : pJ σ.1) (hJ : te_J σ.1 σ.2.1) {s d k : Int} (hs : 0 ≤ s ∧ s < σ.1 305 15) (hd : 0 ≤ d ∧ d ≤ 2000) (v6 : Int) (w1 w2 w3 w5 : xAV) : ∀ (n i : Nat) (τ : xS) (A : Int) (w11 w12 w13 : xAV), i + n = 3 → ag σ τ → eqh (τ.1 365) (hPl σ.1 s d k) → (∀ j, j < i → τ.1 366 j = wtv σ.1 s d k j) → (0 ≤ A ∧ A ≤ 1000000000000 * (i : Int)) → ∃ τ' w11' w12' w13' A', X iM_parts 75 [(2, 305), w1, w2, w3, (0, te_f σ.1 d), w5, (1, v6), (8, 0), (1, A), (8, 0), (0, (i : Int)), w11, w12, w13] [] τ = X iM_parts 75 [(2, 305), w1, w2, w3, (0, te_f σ.1 d), w5, (1, v6), (8, 0), (1, A'), (8, 0), (0, 3), w11', w12', w13'] [] τ' ∧ ag σ τ' ∧ (∀ j, j < 3 → τ'.1 366 j = wtv σ.1 s d k j) ∧ A' = A + (if i ≤ 0 then wtv σ.1 s d k 0 else 0) + (if i ≤ 1 then wtv σ.1 s d k 1 else 0) + (if i ≤ 2 then wtv σ.1 s d k 2 else 0) := by
  have hf := te_f_lt hJ d
  have h57 := hJ.2.2.1
  have h49 := hJ.2.1
  intro n
  induction n with
  | zero =>
    intro i τ A w11 w12 w13 hi ha e hW hA
    refine ⟨τ, w11, w12, w13, A, by rw [show i = 3 by omega]; rfl, ha, fun j hj => hW j (by omega), ?_⟩
    rw [if_neg (by omega), if_neg (by omega), if_neg (by omega)]
    omega
  | succ n ih =>
    intro i τ A w11 w12 w13 hi ha e hW hA
    have hx : xin (i : Int) 3 := ⟨by omega, by omega⟩
    have hJ' := te_J_ag ha hJ
    have hwb := wtv_bd hP hJ (k := k) hs hd i
    have fin : ∀ (τ1 : xS) (v : Int) (w11 w12 w13 : xAV), ag σ τ1 → eqh (τ1.1 365) (hPl σ.1 s d k) → (∀ j, j < i → τ1.1 366 j = wtv σ.1 s d k j) → mx0 v = wtv σ.1 s d k i → ∃ τ' w11' w12' w13' A', X iM_parts 124 [(2, 305), w1, w2, w3, (0, te_f σ.1 d), w5, (1, v6), (8, 0), (1, A), (8, 0), (0, (i : Int)), w11, w12, w13] [(1, v), (0, (i : Int)), (2, 366)] τ1 = X iM_parts 75 [(2, 305), w1, w2, w3, (0, te_f σ.1 d), w5, (1, v6), (8, 0), (1, A'), (8, 0), (0, 3), w11', w12', w13'] [] τ' ∧ ag σ τ' ∧ (∀ j, j < 3 → τ'.1 366 j = wtv σ.1 s d k j) ∧ A' = A + (if i ≤ 0 then wtv σ.1 s d k 0 else 0) + (if i ≤ 1 then wtv σ.1 s d k 1 else 0) + (if i ≤ 2 then wtv σ.1 s d k 2 else 0) := by
      intro τ1 v w11 w12 w13 ha1 e1 hW1 hv
      have wi : wtv σ.1 s d k i = if i = 0 then wtv σ.1 s d k 0 else if i = 1 then wtv σ.1 s d k 1 else wtv σ.1 s d k 2 := by
        have : i = 0 ∨ i = 1 ∨ i = 2 := by omega
        rcases this with h | h | h <;> (rw [h]; rfl)
      have go : ∀ τ2 : xS, ag σ τ2 → eqh (τ2.1 365) (hPl σ.1 s d k) → (∀ j, j < i + 1 → τ2.1 366 j = wtv σ.1 s d k j) → ∃ τ' w11' w12' w13' A', X iM_parts 75 [(2, 305), w1, w2, w3, (0, te_f σ.1 d), w5, (1, v6), (8, 0), (1, A + wtv σ.1 s d k i), (8, 0), (0, ((i + 1 : Nat) : Int)), w11, w12, w13] [] τ2 = X iM_parts 75 [(2, 305), w1, w2, w3, (0, te_f σ.1 d), w5, (1, v6), (8, 0), (1, A'), (8, 0), (0, 3), w11', w12', w13'] [] τ' ∧ ag σ τ' ∧ (∀ j, j < 3 → τ'.1 366 j = wtv σ.1 s d k j) ∧ A' = A + (if i ≤ 0 then wtv σ.1 s d k 0 else 0) + (if i ≤ 1 then wtv σ.1 s d k 1 else 0) + (if i ≤ 2 then wtv σ.1 s d k 2 else 0) := by
        intro τ2 z1 z2 z3
        obtain ⟨τ', a1, a2, a3, A', y1, y2, y3, y4⟩ := ih (i + 1) τ2 (A + wtv σ.1 s d k i) w11 w12 w13 (by omega) z1 z2 z3 (by omega)
        refine ⟨τ', a1, a2, a3, A', y1, y2, y3, ?_⟩
        rw [y4, wi]
        have : i = 0 ∨ i = 1 ∨ i = 2 := by omega
        rcases this with h | h | h <;> (subst h; simp; try omega)
      rw [qM_parts_124, if_pos hx, if_pos hx, Int.toNat_natCast, xs_at, xup_eq]
      by_cases c : v < 0
      · have hv0 : wtv σ.1 s d k i = 0 := by rw [← hv]; exact if_pos c
        rw [if_pos c, if_pos hx, if_pos hx, xs_at, xup_eq, xW_id (by omega) (by omega), xw_t (by omega), show A + 0 = A + wtv σ.1 s d k i by rw [hv0]]
        refine go _ (ag_tr ha1 (ag_tr (ag_sS rfl) (ag_sS rfl))) (by rw [xs_ne (a := 366) (b := 365) (by decide), xs_ne (a := 366) (b := 365) (by decide)]; exact e1) (fun j hj => ?_)
        rw [xs_at, xs_at, xup_at, xup_at]
        by_cases z : j = i
        · rw [if_pos z, z, hv0]
        · rw [if_neg z, if_neg z]; exact hW1 j (by omega)
      · have hv0 : wtv σ.1 s d k i = v := by rw [← hv]; exact if_neg c
        rw [if_neg c, if_pos hx, xW_id (by omega) (by omega), xw_t (by omega), ← hv0]
        refine go _ (ag_tr ha1 (ag_sS rfl)) (by rw [xs_ne (by decide)]; exact e1) (fun j hj => ?_)
        rw [xs_at, xup_at]
        by_cases z : j = i
        · rw [if_pos z, z]
        · rw [if_neg z]; exact hW1 j (by omega)
    rw [qM_parts_75, if_pos (by omega)]
    by_cases ht : te_f σ.1 d < 0
    · have ew : wtv σ.1 s d k i = if i = 0 then 1 else 0 := by
        unfold wtv wtj
        rw [if_pos (show (if te_f σ.1 d < 0 then (-1 : Int) else _) < 0 by rw [if_pos ht]; decide)]
      have ht' : te_f σ.1 d = -1 := by omega
      rw [ht'] at fin ⊢
      rw [M_lastOf_no, Option.bind_some, qM_parts_90, if_pos (by decide)]
      by_cases z : i = 0
      · rw [if_pos (by omega)]
        exact fin τ 1 _ _ _ ha e hW (by rw [ew, if_pos z]; rfl)
      · rw [if_neg (by omega)]
        exact fin τ 0 _ _ _ ha e hW (by rw [ew, if_neg z]; rfl)
    · obtain ⟨_, F, M, T, N, cs, hB⟩ := hJ.2.2.2.2 _ (hf.2.2 (by omega))
      have et : te_f σ.1 d = (((te_f σ.1 d).toNat : Nat) : Int) := by omega
      obtain ⟨g1, g2, g3, g4⟩ := wtj_lt hJ ht hB i
      have hl1 := M_lastOf hJ' (show (te_f σ.1 d).toNat < 8 by omega) (te_B_ag ha hB) 2 (i : Int)
      rw [← et, (te_st_ag ha).2.1 344 (by omega), (te_st_ag ha).2.1 345 (by omega), ← g1] at hl1
      have ewt : wtv σ.1 s d k i = if wtj σ.1 d i < 0 then (if i = 0 then 1 else 0) else mx0 (sv σ.1 (hPl σ.1 s d k) F (wtj σ.1 d i).toNat) := by
        unfold wtv
        rw [hB.1.1, Int.toNat_natCast]
      rw [hl1, Option.bind_some, qM_parts_90]
      by_cases c : wtj σ.1 d i < 0
      · rw [if_pos c] at ewt
        rw [show abF F (wtj σ.1 d i) = -1 from if_pos c, if_pos (by decide)]
        by_cases z : i = 0
        · rw [if_pos (by omega)]
          exact fin τ 1 _ _ _ ha e hW (by rw [ewt, if_pos z]; rfl)
        · rw [if_neg (by omega)]
          exact fin τ 0 _ _ _ ha e hW (by rw [ewt, if_neg z]; rfl)
      · rw [if_neg c] at ewt
        have ea : abF F (wtj σ.1 d i) = ((F + (wtj σ.1 d i).toNat : Nat) : Int) := by
          unfold abF
          rw [if_neg c]; omega
        obtain ⟨τ1, u1, u2, u3⟩ := M_named hB (by omega) (by omega) ha e (hPl_bd hP (k := k) hs hd) (j := (wtj σ.1 d i).toNat) (by omega) (by rw [g4 (by omega)]; decide)
        rw [← et] at u1
        rw [ea, if_neg (by omega), u1, Option.bind_some]
        exact fin τ1 _ _ _ _ u2 (by rw [u3 365 (by decide) (by decide)]; exact e) (fun j hj => by rw [u3 366 (by decide) (by decide)]; exact hW j hj) ewt.symm
theorem M_parts (hP : pJ σ.1) (hJ : te_J σ.1 σ.2.1) {s d k : Int} (hs : 0 ≤ s ∧ s < σ.1 305 15) (hd : 0 ≤ d ∧ d ≤ 2000) {τ : xS} (ha : ag σ τ) : ∃ τ', X iM_parts 0 [(2, 305), (0, s), (0, d), (0, k), (9, 0), (9, 0), (9, 0), (9, 0), (9, 0), (9, 0), (9, 0), (9, 0), (9, 0), (9, 0)] [] τ = some ((9, 0), τ') ∧ ag σ τ' ∧ ∀ who, who < 3 → τ'.1 367 who = ptf (lsv σ.1 s d k) (wtv σ.1 s d k) who := by
  have hBk := hP.2.2.1
  have hP' := pJ_ag ha hP
  have hJ' := te_J_ag ha hJ
  have h2 := hBk.1.2
  have hx : xin s 150 := ⟨by omega, by omega⟩
  have hw := bk_wa_bd hBk.1 s d k
  obtain ⟨l1, l2, l3, l4, l5, l6⟩ := lsv_bd hP (d := d) (k := k) hs
  obtain ⟨τ1, q1, q2, q3⟩ := M_ofSheet hP' (s := s) (d := d) (k := k) (by rw [ha.sl (a := 305) (k := 15) rfl]; exact hs) hd
  rw [hSh_ag ha] at q3
  have ha1 := ag_tr ha q2.1
  obtain ⟨τ2, r1, r2, r3⟩ := M_atHouse hP hs hd ha1 q3
  have e0 : τ2.1 365 0 = bk_wa σ.1 s d k := by
    rw [r3 0 (by decide)]
    unfold hPl
    by_cases c : bk_pl σ.1 s d k < 10
    · rw [if_pos c]; rfl
    · rw [if_neg c]; rfl
  obtain ⟨τ3, w11, w12, w13, A, s1, s2, s3, s4⟩ := M_pt_75 hP hJ (k := k) hs hd (lsv σ.1 s d k) (0, s) (0, d) (0, k) (0, σ.1 315 s.toNat) 3 0 τ2 0 (9, 0) (9, 0) (9, 0) rfl r2 r3 (fun j hj => absurd hj (Nat.not_lt_zero j)) (by decide)
  have s1 : X iM_parts 75 [(2, 305), (0, s), (0, d), (0, k), (0, te_f σ.1 d), (0, σ.1 315 s.toNat), (1, lsv σ.1 s d k), (8, 0), (1, 0), (8, 0), (0, 0), (9, 0), (9, 0), (9, 0)] [] τ2 = _ := s1
  have s4 : A = wtv σ.1 s d k 0 + wtv σ.1 s d k 1 + wtv σ.1 s d k 2 := by
    rw [s4, if_pos (by decide), if_pos (by decide), if_pos (by decide)]
    omega
  have em : ∀ x : Int, (if x < 0 then 0 else x) = mx0 x := fun _ => rfl
  have b0 := wtv_bd hP hJ (k := k) hs hd 0
  have b1 := wtv_bd hP hJ (k := k) hs hd 1
  have b2 := wtv_bd hP hJ (k := k) hs hd 2
  have body : X iM_parts 0 [(2, 305), (0, s), (0, d), (0, k), (9, 0), (9, 0), (9, 0), (9, 0), (9, 0), (9, 0), (9, 0), (9, 0), (9, 0), (9, 0)] [] τ = X iM_parts 75 [(2, 305), (0, s), (0, d), (0, k), (0, te_f σ.1 d), (0, σ.1 315 s.toNat), (1, lsv σ.1 s d k), (8, 0), (1, A), (8, 0), (0, 3), w11, w12, w13] [] τ3 := by
    rw [← s1, qM_parts_0, M_termsOn hJ'.2.1, Option.bind_some, qM_parts_5, q1, Option.bind_some, qM_parts_14, r1, Option.bind_some, qM_parts_21, if_pos hx, r2.cl (a := 315) (by omega), if_pos l2, if_pos l2, e0, r2.cl (a := 309) (by omega), xw_id (x := bk_wa σ.1 s d k) (by omega) (by omega), xw_id (x := σ.1 309 (σ.1 315 s.toNat).toNat - bk_wa σ.1 s d k) (by omega) (by omega), M_max, Option.bind_some, em, qM_parts_56, if_pos l2, r2.cl (a := 309) (by omega), if_neg (by omega), r2.cl (a := 310) (by omega), xW_id (x := σ.1 310 (σ.1 315 s.toNat).toNat * mx0 (σ.1 309 (σ.1 315 s.toNat).toNat - bk_wa σ.1 s d k)) (by omega) (by omega), te_f_ag ha]
    rw [show xW (Int.tdiv (σ.1 310 (σ.1 315 s.toNat).toNat * mx0 (σ.1 309 (σ.1 315 s.toNat).toNat - bk_wa σ.1 s d k)) (σ.1 309 (σ.1 315 s.toNat).toNat)) = lsv σ.1 s d k from xW_id (by have := l1.1; unfold lsv at this; omega) (by have := l1.2; unfold lsv at this; omega)]
  rw [body, qM_parts_75, if_neg (by decide)]
  unfold ptf
  by_cases c : wtv σ.1 s d k 0 + wtv σ.1 s d k 1 + wtv σ.1 s d k 2 = 0
  · rw [if_pos (by omega)]
    have hW : ∀ i, i < 3 → (xs τ3 366 2 1).1 366 i = if i = 2 then 1 else 0 := fun i hi => by
      rw [xs_at, xup_at, s3 i hi]
      have : i = 0 ∨ i = 1 ∨ i = 2 := by omega
      rcases this with h | h | h
      · subst h; rw [if_neg (by decide), if_neg (by decide)]; omega
      · subst h; rw [if_neg (by decide), if_neg (by decide)]; omega
      · subst h; rw [if_pos rfl, if_pos rfl]
    have hp : ∀ i, ptp (lsv σ.1 s d k) 1 (fun i => if i = 2 then 1 else 0) i = if i = 2 then lsv σ.1 s d k else 0 := fun i => by
      show Int.tdiv (lsv σ.1 s d k * (if i = 2 then 1 else 0)) 1 = _
      rw [Int.tdiv_one]
      split
      · rw [Int.mul_one]
      · rw [Int.mul_zero]
    have hl0 : ptl (lsv σ.1 s d k) 1 (fun i => if i = 2 then 1 else 0) = 0 := by
      unfold ptl
      rw [hp 0, hp 1, hp 2, if_neg (by decide), if_neg (by decide), if_pos rfl]
      omega
    obtain ⟨τ', t1, t2, t3⟩ := M_pt_187 (L := lsv σ.1 s d k) (A := 1) (W := fun i => if i = 2 then 1 else 0) l1 (by decide) (fun i _ => by
      show 0 ≤ (if i = 2 then (1 : Int) else 0) ∧ (if i = 2 then (1 : Int) else 0) ≤ 1
      split <;> decide) (by decide) (by rw [hl0]; decide) hW (0, s) (0, d) (0, k) (0, te_f σ.1 d) (0, σ.1 315 s.toNat) w13
    refine ⟨τ', t1, ag_tr (ag_tr s2 (ag_sS rfl)) t2, fun who hw => ?_⟩
    rw [t3 who hw, hl0, if_pos c]
    exact hp who
  · rw [if_neg (by omega)]
    obtain ⟨τ', t1, t2, t3⟩ := M_pt_187 (L := lsv σ.1 s d k) (A := A) (W := wtv σ.1 s d k) l1 (by omega) (fun i hi => by
      have : i = 0 ∨ i = 1 ∨ i = 2 := by omega
      rcases this with h | h | h <;> (subst h; omega)) (by omega) (by rw [s4]; exact pt_left l1 b0.1 b1.1 b2.1 (by omega)) s3 (0, s) (0, d) (0, k) (0, te_f σ.1 d) (0, σ.1 315 s.toNat) w13
    refine ⟨τ', t1, ag_tr s2 t2, fun who hw => ?_⟩
    rw [t3 who hw, if_neg c, s4]
theorem M_part_42 (hP : pJ σ.1) (hJ : te_J σ.1 σ.2.1) {h : Int} (hh : 0 ≤ h ∧ h < 8) {who : Nat} (hw : who < 3) {d k : Int} (hd : 0 ≤ d ∧ d ≤ 1000) : ∀ (n s : Nat) (τ : xS), s + n = (σ.1 305 15).toNat → ag σ τ → ∃ τ', X iM_part 42 [(2, 305), (0, h), (0, (who : Int)), (0, d), (0, k), (1, pts σ.1 h who d k s), (8, 0), (0, (s : Int))] [] τ = some ((1, pts σ.1 h who d k (σ.1 305 15).toNat), τ') ∧ ag σ τ' := by
  have hBk := hP.2.2.1
  have h15 := hBk.1.2
  intro n
  induction n with
  | zero =>
    intro s τ hs ha
    refine ⟨τ, ?_, ha⟩
    rw [qM_part_42, ha.sl (a := 305) (k := 15) rfl, if_neg (by omega), show s = (σ.1 305 15).toNat by omega]
  | succ n ih =>
    intro s τ hs ha
    have hs6 : (s : Int) < 600 := by omega
    have f0 : (s : Int) < σ.1 305 15 := by omega
    have hss : 0 ≤ (s : Int) ∧ (s : Int) < σ.1 305 15 := ⟨by omega, f0⟩
    have kk := ih (s + 1)
    rw [show pts σ.1 h who d k (s + 1) = pts σ.1 h who d k s + if ev_ls σ.1 s h d k then ptf (lsv σ.1 s d k) (wtv σ.1 s d k) who else 0 from rfl] at kk
    rw [qM_part_42, ha.sl (a := 305) (k := 15) rfl, if_pos f0, M_isLost (pJ_ag ha hP) _ hh, Option.bind_some, qM_part_61]
    by_cases c : ev_ls σ.1 s h d k
    · have c' := (ev_ls_ag ha s h d k).mpr c
      rw [if_pos c] at kk
      obtain ⟨τ1, q1, q2, q3⟩ := M_parts hP hJ (s := s) (k := k) hss (d := d) (by omega) ha
      have hbp := pts_bd hP hJ (h := h) hw (k := k) (d := d) (by omega) s (by omega)
      have hpf := ptf_bd (lsv_bd hP (d := d) (k := k) hss).1 (fun i _ => wtv_bd hP hJ (k := k) hss (d := d) (by omega) i) hw
      obtain ⟨τ', v1, v2⟩ := kk τ1 (by omega) q2
      refine ⟨τ', ?_, v2⟩
      rw [if_pos c', if_neg (by decide), q1, Option.bind_some, qM_part_76, if_pos (xin_of (by omega) (by omega)), Int.toNat_natCast, xw_t hs6]
      show X iM_part 42 [(2, 305), (0, h), (0, (who : Int)), (0, d), (0, k), (1, xW (pts σ.1 h who d k s + τ1.1 367 who)), (8, 0), (0, ((s + 1 : Nat) : Int))] [] τ1 = _
      rw [q3 who hw, xW_id (by omega) (by omega)]
      exact v1
    · rw [if_neg c, Int.add_zero] at kk
      rw [if_neg (fun q => c ((ev_ls_ag ha s h d k).mp q)), if_pos rfl, xw_t hs6]
      exact kk τ (by omega) ha
theorem rd_part (hP : pJ σ.1) (hJ : te_J σ.1 σ.2.1) (hdp : 800 ≤ xdp σ) (a1 a2 a3 a4 : Int) : rdOK σ iC_part [(2, 200), (0, a1), (0, a2), (0, a3), (0, a4), (9, 0)] iM_part [(2, 305), (0, a1), (0, a2), (0, a3), (0, a4), (9, 0), (9, 0), (9, 0)] := by
  have h11 := hP.2.1.2.1
  have e4 := hP.2.1.1.2.2.2.2
  have w11 : xw (σ.1 305 11 - 1) = σ.1 305 11 - 1 := xw_id (by omega) (by omega)
  by_cases hh : (0 ≤ a1 ∧ a1 < σ.1 305 11) ∧ (0 ≤ a2 ∧ a2 ≤ 2) ∧ (0 ≤ a3 ∧ a3 ≤ 1000) ∧ 0 ≤ a4 ∧ a4 ≤ 1000
  · obtain ⟨τ, q1, q2⟩ := L_pt_13 hP hJ hdp (h := a1) (by omega) (who := a2.toNat) (by omega) (d := a3) (k := a4) (by omega) (by omega) _ rfl (σ.1 305 15).toNat 0 σ (by omega) (ag_rf σ)
    obtain ⟨τ', r1, r2⟩ := M_part_42 (pJ_ag q2 hP) (te_J_ag q2 hJ) (h := a1) (by omega) (who := a2.toNat) (by omega) (d := a3) (k := a4) (by omega) (τ.1 305 15).toNat 0 τ (by omega) (ag_rf τ)
    rw [pts_ag q2, pts_ag q2, q2.sl (a := 305) (k := 15) rfl, show ((a2.toNat : Nat) : Int) = a2 by omega] at r1
    rw [show ((a2.toNat : Nat) : Int) = a2 by omega] at q1
    refine ⟨(1, pts σ.1 a1 a2.toNat a3 a4 (σ.1 305 15).toNat), τ, τ', ?_, q2, ?_, r2⟩
    · rw [qC_part_0, e4, w11, if_neg (by omega), if_neg (by omega), if_neg (by omega), if_neg (by omega), if_neg (by omega), if_neg (by omega), if_neg (by omega), if_neg (by omega), qLedger_partOf_0, C_inForce hJ, Option.bind_some, qLedger_partOf_5]
      have q1 : X iLedger_partOf 13 [(2, 243), (0, a1), (0, a2), (0, a3), (0, a4), (2, if te_f σ.1 a3 < 0 then 0 else σ.1 244 (te_f σ.1 a3).toNat), (1, 0), (8, 0), (0, 0)] [] σ = some ((1, pts σ.1 a1 a2.toNat a3 a4 (σ.1 305 15).toNat), τ) := q1
      rw [q1, Option.bind_some, qC_part_53]
    · rw [qM_part_0, q2.sl (a := 305) (k := 11) rfl, if_neg (by omega), if_pos (by omega), if_neg (by omega), if_neg (by omega), if_neg (by omega), if_neg (by omega), if_neg (by omega), if_neg (by omega)]
      exact r1
  · refine rd_same (v := (1, -1)) ?_ ?_
    · rw [qC_part_0, e4, w11]
      clear w11
      by_cases c1 : a1 < 0
      · rw [if_pos c1]
      by_cases c2 : σ.1 305 11 - 1 < a1
      · rw [if_neg c1, if_pos c2]
      by_cases c3 : a2 < 0
      · rw [if_neg c1, if_neg c2, if_pos c3]
      by_cases c4 : 2 < a2
      · rw [if_neg c1, if_neg c2, if_neg c3, if_pos c4]
      by_cases c5 : a3 < 0
      · rw [if_neg c1, if_neg c2, if_neg c3, if_neg c4, if_pos c5]
      by_cases c6 : 1000 < a3
      · rw [if_neg c1, if_neg c2, if_neg c3, if_neg c4, if_neg c5, if_pos c6]
      by_cases c7 : a4 < 0
      · rw [if_neg c1, if_neg c2, if_neg c3, if_neg c4, if_neg c5, if_neg c6, if_pos c7]
      rw [if_neg c1, if_neg c2, if_neg c3, if_neg c4, if_neg c5, if_neg c6, if_neg c7, if_pos (by omega)]
    · rw [qM_part_0]
      clear w11
      by_cases c1 : a1 < 0
      · rw [if_pos c1]
      by_cases c2 : a1 < σ.1 305 11
      · rw [if_neg c1, if_pos c2]
        by_cases c3 : a2 < 0
        · rw [if_pos c3]
        by_cases c4 : 2 < a2
        · rw [if_neg c3, if_pos c4]
        by_cases c5 : a3 < 0
        · rw [if_neg c3, if_neg c4, if_pos c5]
        by_cases c6 : 1000 < a3
        · rw [if_neg c3, if_neg c4, if_neg c5, if_pos c6]
        by_cases c7 : a4 < 0
        · rw [if_neg c3, if_neg c4, if_neg c5, if_neg c6, if_pos c7]
        rw [if_neg c3, if_neg c4, if_neg c5, if_neg c6, if_neg c7, if_pos (by omega)]
      · rw [if_neg c1, if_neg c2]
end PARTC

/-! buying: the call -/
section BUYG
variable {σ : xS}
/-- what is wanted, day by day -/
def byW (m : Nat → Nat → Int) (so : Int) (i : Nat) : Int := wnt m so (m 305 0 + (i : Int)) (m 305 11).toNat
theorem byW_bd (hP : pJ σ.1) {so : Int} (hs : 0 ≤ so ∧ so < σ.1 305 6) (i : Nat) : 0 ≤ byW σ.1 so i ∧ byW σ.1 so i ≤ 8000 := by
  have h0 := hP.2.2.1.2.2.2.1
  have h11 := hP.2.1.2.1
  have := wnt_bd hP hs (d := σ.1 305 0 + (i : Int)) (by omega) (σ.1 305 11).toNat (by omega)
  unfold byW
  omega
theorem C_buy_35 (hP : pJ σ.1) (hJ : te_J σ.1 σ.2.1) (hdp : 800 ≤ xdp σ) {so : Int} (hs : 0 ≤ so ∧ so < σ.1 305 6) {d : Nat} (hd : d ≤ 10) (v3 : Int) : ∀ (n i : Nat) (τ : xS), i + n = d → ag σ τ → (∀ j, j < i → τ.1 273 j = byW σ.1 so j) → ∃ τ', X iC_buy 35 [(2, 200), (0, so), (0, (d : Int)), (0, v3), (0, (i : Int))] [] τ = X iC_buy 35 [(2, 200), (0, so), (0, (d : Int)), (0, v3), (0, (d : Int))] [] τ' ∧ ag σ τ' ∧ ∀ j, j < d → τ'.1 273 j = byW σ.1 so j := by
  have h0 := hP.2.2.1.2.2.2.1
  have e0 := hP.2.2.1.2.1.2.2.2.2.1
  intro n
  induction n with
  | zero =>
    intro i τ hi ha hr
    exact ⟨τ, by rw [show i = d by omega], ha, fun j hj => hr j (by omega)⟩
  | succ n ih =>
    intro i τ hi ha hr
    obtain ⟨τ1, q1, q2, q3⟩ := L_wantedOn (pJ_ag ha hP) (te_J_ag ha hJ) (by rw [ag_2 ha]; exact hdp) (so := so) (d := σ.1 305 0 + (i : Int)) (by rw [ha.sl (a := 305) (k := 6) rfl]; exact hs) (by omega)
    rw [wnt_ag ha, ha.sl (a := 305) (k := 11) rfl] at q1
    rw [qC_buy_35, if_pos (by omega), ha.cl (a := 216) (by omega), e0, xw_id (x := σ.1 305 0 + (i : Int)) (by omega) (by omega), q1, Option.bind_some, qC_buy_68, if_pos (xin_of (by omega) (by omega)), Int.toNat_natCast, xw_t (by omega)]
    refine ih (i + 1) _ (by omega) (ag_tr (ag_tr ha q2) (ag_sS rfl)) (fun j hj => ?_)
    rw [xs_at, xup_at]
    by_cases e : j = i
    · rw [if_pos e, e]; rfl
    · rw [if_neg e, q3]; exact hr j (by omega)
theorem M_buy_48 (hP : pJ σ.1) (hJ : te_J σ.1 σ.2.1) {so : Int} (hs : 0 ≤ so ∧ so < σ.1 305 6) {d : Nat} (hd : d ≤ 10) {st : Int} (hst : 0 ≤ st ∧ st ≤ 150) {bk : Nat} (hbk : 1 ≤ bk ∧ bk ≤ 10) (h124 : σ.1 305 124 = (bk : Int)) (w6 w7 w8 w9 w10 w11 : xAV) (v3 : Int) : ∀ (n i : Nat) (τ : xS), i + n = d → ag σ τ → (∀ j, j < i → τ.1 390 j = byF (byW σ.1 so) st bk (j + 1)) → ∃ τ', X iM_buy 48 [(2, 305), (0, so), (0, (d : Int)), (0, v3), (0, byF (byW σ.1 so) st bk i), (0, (i : Int)), w6, w7, w8, w9, w10, w11] [] τ = X iM_buy 120 [(2, 305), (0, so), (0, (d : Int)), (0, v3), (0, byF (byW σ.1 so) st bk d), (0, 0), w6, w7, w8, w9, w10, w11] [] τ' ∧ ag σ τ' ∧ ∀ j, j < d → τ'.1 390 j = byF (byW σ.1 so) st bk (j + 1) := by
  have h0 := hP.2.2.1.2.2.2.1
  intro n
  induction n with
  | zero =>
    intro i τ hi ha hr
    exact ⟨τ, by rw [qM_buy_48, if_neg (by omega), show i = d by omega], ha, fun j hj => hr j (by omega)⟩
  | succ n ih =>
    intro i τ hi ha hr
    have hb := byF_bd hbk.1 (fun i => byW_bd hP hs i) hst i
    have hb2 := byF_bd hbk.1 (fun i => byW_bd hP hs i) hst (i + 1)
    have hw := byW_bd hP hs i
    have e : byF (byW σ.1 so) st bk (i + 1) = byF (byW σ.1 so) st bk i - byW σ.1 so i + if bk ≤ i then byW σ.1 so (i - bk) else 0 := rfl
    have ask : ∀ (j : Nat) (τ1 : xS), j ≤ 10 → ag σ τ1 → ∃ τ2, X iM_wantedOn 0 [(2, 305), (0, so), (0, σ.1 305 0 + (j : Int)), (9, 0), (9, 0), (9, 0), (9, 0), (9, 0), (9, 0)] [] τ1 = some ((0, byW σ.1 so j), τ2) ∧ ag σ τ2 ∧ τ2.1 390 = τ1.1 390 := by
      intro j τ1 hj ha1
      obtain ⟨τ2, q1, q2, q3⟩ := M_wantedOn (pJ_ag ha1 hP) (te_J_ag ha1 hJ) (so := so) (d := σ.1 305 0 + (j : Int)) (by rw [ha1.sl (a := 305) (k := 6) rfl]; exact hs) (by omega)
      rw [wnt_ag ha1, ha1.sl (a := 305) (k := 11) rfl] at q1
      exact ⟨τ2, q1, ag_tr ha1 q2, q3⟩
    have r0 : τ.1 305 0 = σ.1 305 0 := ha.sl rfl
    have r124 : τ.1 305 124 = (bk : Int) := (ha.sl (a := 305) (k := 124) rfl).trans h124
    have fin : ∀ τ2 : xS, ag σ τ2 → τ2.1 390 = τ.1 390 → ∃ τ', X iM_buy 48 [(2, 305), (0, so), (0, (d : Int)), (0, v3), (0, byF (byW σ.1 so) st bk (i + 1)), (0, ((i + 1 : Nat) : Int)), w6, w7, w8, w9, w10, w11] [] (xs τ2 390 i (byF (byW σ.1 so) st bk (i + 1))) = X iM_buy 120 [(2, 305), (0, so), (0, (d : Int)), (0, v3), (0, byF (byW σ.1 so) st bk d), (0, 0), w6, w7, w8, w9, w10, w11] [] τ' ∧ ag σ τ' ∧ ∀ j, j < d → τ'.1 390 j = byF (byW σ.1 so) st bk (j + 1) := by
      intro τ2 z1 z2
      refine ih (i + 1) _ (by omega) (ag_tr z1 (ag_sS rfl)) (fun j hj => ?_)
      rw [xs_at, xup_at]
      by_cases c : j = i
      · rw [if_pos c, c]
      · rw [if_neg c, z2]; exact hr j (by omega)
    rw [qM_buy_48, if_pos (by omega), r124, r0]
    by_cases c : bk ≤ i
    · rw [if_pos c] at e
      have hw2 := byW_bd hP hs (i - bk)
      obtain ⟨τ1, q1, q2, q3⟩ := ask (i - bk) τ (by omega) ha
      obtain ⟨τ2, r1, r2, r3⟩ := ask i τ1 (by omega) q2
      rw [if_neg (by omega), xw_id (x := σ.1 305 0 + (i : Int)) (by omega) (by omega), xw_id (x := σ.1 305 0 + (i : Int) - (bk : Int)) (by omega) (by omega), show σ.1 305 0 + (i : Int) - (bk : Int) = σ.1 305 0 + ((i - bk : Nat) : Int) by omega, q1, Option.bind_some, qM_buy_82, q2.sl (a := 305) (k := 0) rfl, xw_id (x := σ.1 305 0 + (i : Int)) (by omega) (by omega), r1, Option.bind_some, qM_buy_98, if_pos (xin_of (by omega) (by omega)), Int.toNat_natCast, xw_id (x := byW σ.1 so (i - bk) - byW σ.1 so i) (by omega) (by omega), show byF (byW σ.1 so) st bk i + (byW σ.1 so (i - bk) - byW σ.1 so i) = byF (byW σ.1 so) st bk (i + 1) by omega, xw_id (x := byF (byW σ.1 so) st bk (i + 1)) (by omega) (by omega), xw_t (by omega)]
      exact fin τ2 r2 (r3.trans q3)
    · rw [if_neg c] at e
      obtain ⟨τ2, r1, r2, r3⟩ := ask i τ (by omega) ha
      rw [if_pos (by omega), xw_id (x := σ.1 305 0 + (i : Int)) (by omega) (by omega), r1, Option.bind_some, qM_buy_98, if_pos (xin_of (by omega) (by omega)), Int.toNat_natCast, xw_id (x := 0 - byW σ.1 so i) (by omega) (by omega), show byF (byW σ.1 so) st bk i + (0 - byW σ.1 so i) = byF (byW σ.1 so) st bk (i + 1) by omega, xw_id (x := byF (byW σ.1 so) st bk (i + 1)) (by omega) (by omega), xw_t (by omega)]
      exact fin τ2 r2 r3
theorem byW_ag {τ : xS} (h : ag σ τ) (so : Int) : byW τ.1 so = byW σ.1 so := by
  funext i
  unfold byW
  rw [wnt_ag h, h.sl (a := 305) (k := 0) rfl, h.sl (a := 305) (k := 11) rfl]
theorem rd_buy (hP : pJ σ.1) (hJ : te_J σ.1 σ.2.1) (hdp : 800 ≤ xdp σ) (a1 a2 a3 : Int) : rdOK σ iC_buy [(2, 200), (0, a1), (0, a2), (0, a3), (9, 0)] iM_buy [(2, 305), (0, a1), (0, a2), (0, a3), (9, 0), (9, 0), (9, 0), (9, 0), (9, 0), (9, 0), (9, 0), (9, 0)] := by
  have h6 := hP.1.2.1
  have e5 := hP.1.1.2.2.2.2.2
  have hS := hP.2.2.2.2.2.1
  have hBk := hP.2.2.1
  have h00 := hBk.2.2.2.1
  have w6 : xw (σ.1 305 6 - 1) = σ.1 305 6 - 1 := xw_id (by omega) (by omega)
  by_cases hh : (0 ≤ a1 ∧ a1 < σ.1 305 6) ∧ (1 ≤ a2 ∧ a2 ≤ 10) ∧ 0 ≤ a3 ∧ a3 ≤ a2
  · obtain ⟨hs, hd, hw⟩ := hh
    obtain ⟨⟨p1, p2, p3, p4⟩, hPb, hCb, hKb, hbb⟩ := hS
    have eb : σ.1 305 124 = (((σ.1 305 124).toNat : Nat) : Int) := by omega
    have ed : a2 = ((a2.toNat : Nat) : Int) := by omega
    have e3 : a3 = ((a3.toNat : Nat) : Int) := by omega
    have hst := bk_many_le hBk.1 (P := 0) (so := a1) (d := σ.1 305 0) (k := σ.1 305 0)
    have e216 := hBk.2.1.2.2.2.2.1
    -- the class
    obtain ⟨τ1, q1, q2, q3⟩ := C_buy_35 hP hJ hdp hs (d := a2.toNat) (by omega) a3 a2.toNat 0 σ (by omega) (ag_rf σ) (fun j hj => absurd hj (Nat.not_lt_zero j))
    have r272 : τ1.1 272 = σ.1 272 := q2.cl (by omega)
    obtain ⟨τ2, u1, u2, u3⟩ := C_plan_buy (σ := τ1) (W := byW σ.1 a1) (st := bk_many σ.1 0 a1 (σ.1 305 0) (σ.1 305 0)) (bk := (σ.1 305 124).toNat) (P := σ.1 305 121) (C := σ.1 305 122) (K := σ.1 305 123) (d := a2.toNat) (by omega) (fun i => byW_bd hP hs i) hst q3 (by omega) hPb hCb hKb (by rw [r272]; exact p1) (by rw [r272]; exact p2) (by rw [r272]; exact p3) (by rw [r272, p4]; exact eb)
    have ha2 := ag_tr q2 u2
    -- the reference
    have hP2 := pJ_ag ha2 hP
    have hJ2 := te_J_ag ha2 hJ
    obtain ⟨τ3, x1, x2, x3⟩ := M_buy_48 hP2 hJ2 (so := a1) (by rw [ha2.sl (a := 305) (k := 6) rfl]; exact hs) (d := a2.toNat) (by omega) hst (bk := (σ.1 305 124).toNat) (by omega) (by rw [ha2.sl (a := 305) (k := 124) rfl]; exact eb) (9, 0) (9, 0) (9, 0) (9, 0) (9, 0) (9, 0) a3 a2.toNat 0 τ2 (by omega) (ag_rf τ2) (fun j hj => absurd hj (Nat.not_lt_zero j))
    rw [byW_ag ha2] at x1 x3
    have ha3 := ag_tr ha2 x2
    have hfb := fun i => byF_bd (W := byW σ.1 a1) (st := bk_many σ.1 0 a1 (σ.1 305 0) (σ.1 305 0)) (bk := (σ.1 305 124).toNat) (by omega) (fun i => byW_bd hP hs i) hst (i + 1)
    have hM3 : plM τ3 (fun i => byF (byW σ.1 a1) (bk_many σ.1 0 a1 (σ.1 305 0) (σ.1 305 0)) (σ.1 305 124).toNat (i + 1)) (σ.1 305 121) (σ.1 305 122) (σ.1 305 123) a2.toNat := by
      refine ⟨⟨by omega, hPb, hCb, hKb⟩, fun i => ⟨(hfb i).1, fun hi => ?_⟩, ⟨ha3.sl rfl, ha3.sl rfl, ha3.sl rfl⟩, x3⟩
      have := (hfb i).2
      show -100000 ≤ byF (byW σ.1 a1) (bk_many σ.1 0 a1 (σ.1 305 0) (σ.1 305 0)) (σ.1 305 124).toNat (i + 1)
      omega
    obtain ⟨τ4, w4, y1, y2, y3⟩ := M_pl_120 (σ := τ3) (d := a2.toNat) (by omega) (0, a1) (0, byF (byW σ.1 a1) (bk_many σ.1 0 a1 (σ.1 305 0) (σ.1 305 0)) (σ.1 305 124).toNat a2.toNat) (9, 0) (9, 0) (9, 0) (9, 0) (9, 0) (9, 0) a3 51 0 τ3 rfl (cg1_rf _ _) (fun b hb => absurd hb (Nat.not_lt_zero b))
    obtain ⟨τ5, z6, z7, z8, z9, z10, z11, v1, v2, v3⟩ := M_pl_151 hM3 (0, a1) (0, ((a2.toNat : Nat) : Int)) w4 a3 a2.toNat τ4 (9, 0) (9, 0) (9, 0) (9, 0) (9, 0) (9, 0) (Nat.le_refl _) y2 (fun dy' g1 g2 b' g3 => by
      have edd : dy' = a2.toNat := by omega
      unfold rowM
      rw [edd, y3 b' (by omega), Nat.sub_self]
      rfl)
    have ha5 : ag σ τ5 := ag_tr ha3 (cg1_ag (c := 391) (fun _ => rfl) v2)
    have h35 : τ5.1 391 0 = (by_v (fun i => byF (byW σ.1 a1) (bk_many σ.1 0 a1 (σ.1 305 0) (σ.1 305 0)) (σ.1 305 124).toNat (i + 1)) (σ.1 305 121) (σ.1 305 122) (σ.1 305 123) a2.toNat a2.toNat 0).1 := v3 0 (Nat.zero_le _) 0 (Nat.zero_le _)
    have h275 : τ2.1 275 0 = by_e (by_v (fun i => byF (byW σ.1 a1) (bk_many σ.1 0 a1 (σ.1 305 0) (σ.1 305 0)) (σ.1 305 124).toNat (i + 1)) (σ.1 305 121) (σ.1 305 122) (σ.1 305 123) a2.toNat a2.toNat 0).1 := (u3 0 (Nat.zero_le _) 0 (Nat.zero_le _)).1
    have hvb := (by_vb (fl := fun i => byF (byW σ.1 a1) (bk_many σ.1 0 a1 (σ.1 305 0) (σ.1 305 0)) (σ.1 305 124).toNat (i + 1)) (P := σ.1 305 121) (C := σ.1 305 122) (K := σ.1 305 123) (d := a2.toNat) hPb hCb hKb (fun i => by have := (hfb i).1; show byF (byW σ.1 a1) (bk_many σ.1 0 a1 (σ.1 305 0) (σ.1 305 0)) (σ.1 305 124).toNat (i + 1) ≤ 200; omega) a2.toNat 0 (by omega)).1
    generalize hV : (by_v (fun i => byF (byW σ.1 a1) (bk_many σ.1 0 a1 (σ.1 305 0) (σ.1 305 0)) (σ.1 305 124).toNat (i + 1)) (σ.1 305 121) (σ.1 305 122) (σ.1 305 123) a2.toNat a2.toNat 0).1 = V at h35 h275 hvb
    have cl : ∀ r, X iC_buy 106 [(2, 200), (0, a1), (0, a2), (0, a3), (0, a2)] [] τ2 = r → X iC_buy 0 [(2, 200), (0, a1), (0, a2), (0, a3), (9, 0)] [] σ = r := by
      intro r hr
      have q1 : X iC_buy 35 [(2, 200), (0, a1), (0, ((a2.toNat : Nat) : Int)), (0, a3), (0, 0)] [] σ = _ := q1
      rw [← ed] at q1
      rw [qC_buy_0, e5, w6, if_neg (by omega), if_neg (by omega), if_neg (by omega), if_neg (by omega), if_neg (by omega), if_neg (by omega), q1, qC_buy_35, if_neg (by omega), q2.cl (a := 216) (by omega), e216, B_manyAt (bk_J_ag q2 hBk) 0 a1 h00 h00, Option.bind_some, bk_many_ag q2, qC_buy_103]
      rw [← ed] at u1
      rw [u1, Option.bind_some]
      exact hr
    have ml : ∀ r, X iM_buy 151 [(2, 305), (0, a1), (0, ((a2.toNat : Nat) : Int)), (0, a3), w4, (0, -1), z6, z7, z8, z9, z10, z11] [] τ5 = r → X iM_buy 0 [(2, 305), (0, a1), (0, a2), (0, a3), (9, 0), (9, 0), (9, 0), (9, 0), (9, 0), (9, 0), (9, 0), (9, 0)] [] τ2 = r := by
      intro r hr
      have x1 : X iM_buy 48 [(2, 305), (0, a1), (0, ((a2.toNat : Nat) : Int)), (0, a3), (0, bk_many σ.1 0 a1 (σ.1 305 0) (σ.1 305 0)), (0, 0), (9, 0), (9, 0), (9, 0), (9, 0), (9, 0), (9, 0)] [] τ2 = _ := x1
      have y1 : X iM_buy 120 [(2, 305), (0, a1), (0, ((a2.toNat : Nat) : Int)), (0, a3), (0, byF (byW σ.1 a1) (bk_many σ.1 0 a1 (σ.1 305 0) (σ.1 305 0)) (σ.1 305 124).toNat a2.toNat), (0, 0), (9, 0), (9, 0), (9, 0), (9, 0), (9, 0), (9, 0)] [] τ3 = _ := y1
      rw [y1, v1, ← ed] at x1
      rw [← ed] at hr
      rw [qM_buy_0, ha2.sl (a := 305) (k := 6) rfl, if_neg (by omega), if_pos (by omega), if_neg (by omega), if_neg (by omega), if_neg (by omega), if_neg (by omega), ha2.sl (a := 305) (k := 0) rfl, M_manyAt hP2.2.2.1.1, Option.bind_some, bk_many_ag ha2, qM_buy_43, x1]
      exact hr
    have fin : ∀ v : Int, X iC_buy 106 [(2, 200), (0, a1), (0, a2), (0, a3), (0, a2)] [] τ2 = some ((0, v), τ2) → X iM_buy 151 [(2, 305), (0, a1), (0, ((a2.toNat : Nat) : Int)), (0, a3), w4, (0, -1), z6, z7, z8, z9, z10, z11] [] τ5 = some ((0, v), τ5) → rdOK σ iC_buy [(2, 200), (0, a1), (0, a2), (0, a3), (9, 0)] iM_buy [(2, 305), (0, a1), (0, a2), (0, a3), (9, 0), (9, 0), (9, 0), (9, 0), (9, 0), (9, 0), (9, 0), (9, 0)] := by
      intro v g1 g2
      exact ⟨(0, v), τ2, τ5, cl _ g1, ha2, ml _ g2, ag_tr x2 (cg1_ag (c := 391) (fun _ => rfl) v2)⟩
    by_cases c0 : V < 0
    · refine fin (-1) ?_ ?_
      · rw [qC_buy_106, h275, if_neg (by unfold by_e; rw [if_pos c0]; decide)]
      · rw [qM_buy_151, if_pos (by decide), h35, if_pos c0]
    · have eV : by_e V = V := if_neg c0
      by_cases c1 : a3 = 0
      · refine fin V ?_ ?_
        · rw [qC_buy_106, h275, eV, if_pos (by omega), if_pos c1, qC_buy_142]
        · rw [qM_buy_151, if_pos (by decide), h35, if_neg c0, if_pos c1, xw_id (by omega) (by omega)]
      · have hVn : 0 ≤ (by_v (fun i => byF (byW σ.1 a1) (bk_many σ.1 0 a1 (σ.1 305 0) (σ.1 305 0)) (σ.1 305 124).toNat (i + 1)) (σ.1 305 121) (σ.1 305 122) (σ.1 305 123) a2.toNat a2.toNat 0).1 := by rw [hV]; omega
        have hlo := L_lotsOn hM3 hVn u3 (k := a3.toNat - 1) (by omega) (a3.toNat - 1) 0 (by omega)
        obtain ⟨r, g1, g2⟩ := M_287 hM3 hVn v2 v3 (wh := a3.toNat) (by omega) (0, a1) (0, ((a2.toNat : Nat) : Int)) a3.toNat 0 0 (xkl w4) z8 z9 z10 z11 (by omega) (fun h => absurd h (Nat.lt_irrefl 0))
        have g2 := g2 (by omega)
        have g1 : X iM_buy 287 [(2, 305), (0, a1), (0, ((a2.toNat : Nat) : Int)), (0, ((a3.toNat : Nat) : Int)), xkl w4, (0, 0), (0, 0), (0, 0), z8, z9, z10, z11] [] τ5 = some ((0, r), τ5) := g1
        have hlo : X iSupply_lotsOn 4 [(2, 272), (0, ((a3.toNat - 1 : Nat) : Int)), (0, 0), (0, 0)] [] τ2 = _ := hlo
        refine fin r ?_ ?_
        · rw [qC_buy_106, h275, eV, if_pos (by omega), if_neg c1, xw_id (x := a3 - 1) (by omega) (by omega), show a3 - 1 = ((a3.toNat - 1 : Nat) : Int) by omega, qSupply_lotsOn_0, hlo, Option.bind_some, qC_buy_142, g2]
        · rw [qM_buy_151, if_pos (by decide), h35, if_neg c0, if_neg c1]
          rw [← e3] at g1
          exact g1
  · refine rd_same (v := (0, -1)) ?_ ?_
    · rw [qC_buy_0, e5, w6]
      clear w6
      by_cases c1 : a1 < 0
      · rw [if_pos c1]
      by_cases c2 : σ.1 305 6 - 1 < a1
      · rw [if_neg c1, if_pos c2]
      by_cases c3 : a2 < 1
      · rw [if_neg c1, if_neg c2, if_pos c3]
      by_cases c4 : 10 < a2
      · rw [if_neg c1, if_neg c2, if_neg c3, if_pos c4]
      by_cases c5 : a3 < 0
      · rw [if_neg c1, if_neg c2, if_neg c3, if_neg c4, if_pos c5]
      rw [if_neg c1, if_neg c2, if_neg c3, if_neg c4, if_neg c5, if_pos (by omega)]
    · rw [qM_buy_0]
      clear w6
      by_cases c1 : a1 < 0
      · rw [if_pos c1]
      by_cases c2 : a1 < σ.1 305 6
      · rw [if_neg c1, if_pos c2]
        by_cases c3 : a2 < 1
        · rw [if_pos c3]
        by_cases c4 : 10 < a2
        · rw [if_neg c3, if_pos c4]
        by_cases c5 : a3 < 0
        · rw [if_neg c3, if_neg c4, if_pos c5]
        rw [if_neg c3, if_neg c4, if_neg c5, if_pos (by omega)]
      · rw [if_neg c1, if_neg c2]
end BUYG

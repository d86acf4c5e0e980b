/-! what is wanted -/
def wn_j (m : Nat → Nat → Int) (d : Int) : Int := if te_f m d < 0 then -1 else te_fe m (m 341 (te_f m d).toNat).toNat d (m 342 (te_f m d).toNat).toNat 0
def clp (w : Int) : Int := if w < 0 then 0 else if 1000 < w then 1000 else w
def wpc (m : Nat → Nat → Int) (so d : Int) (h : Nat) : Int := if wn_j m d < 0 then m 369 (42 * h + (7 * so.toNat + (d % 7).toNat)) else clp (Int.tdiv (m 369 (42 * h + (7 * so.toNat + (d % 7).toNat)) * sv m (xup (hSo m so (hB0 d)) 6 (m 311 h)) (m 341 (te_f m d).toNat).toNat (wn_j m d).toNat) 100)
def wnt (m : Nat → Nat → Int) (so d : Int) : Nat → Int
  | 0 => 0
  | h + 1 => wnt m so d h + wpc m so d h
section WANTS
variable {σ : xS}
theorem te_fe_ag {τ : xS} (h : ag σ τ) (F : Nat) (d : Int) : ∀ n j, te_fe τ.1 F d n j = te_fe σ.1 F d n j
  | 0, _ => rfl
  | n + 1, j => by
    show (if τ.1 344 (F + j) = 4 ∧ τ.1 345 (F + j) ≤ d ∧ d ≤ τ.1 346 (F + j) then (j : Int) else te_fe τ.1 F d n (j + 1)) = if σ.1 344 (F + j) = 4 ∧ σ.1 345 (F + j) ≤ d ∧ d ≤ σ.1 346 (F + j) then (j : Int) else te_fe σ.1 F d n (j + 1)
    rw [te_fe_ag h F d n (j + 1), (te_st_ag h).2.1 344 (by omega), (te_st_ag h).2.1 345 (by omega), (te_st_ag h).2.1 346 (by omega)]
theorem wn_j_ag {τ : xS} (h : ag σ τ) (d : Int) : wn_j τ.1 d = wn_j σ.1 d := by
  unfold wn_j
  rw [te_f_ag h, te_fe_ag h, (te_st_ag h).2.1 341 (by omega), (te_st_ag h).2.1 342 (by omega)]
theorem wpc_ag {τ : xS} (h : ag σ τ) (so d : Int) (i : Nat) : wpc τ.1 so d i = wpc σ.1 so d i := by
  unfold wpc
  rw [wn_j_ag h, te_f_ag h, sv_ag h, hSo_ag h, h.cl (a := 369) (by omega), h.cl (a := 311) (by omega), (te_st_ag h).2.1 341 (by omega)]
theorem wnt_ag {τ : xS} (h : ag σ τ) (so d : Int) : ∀ n, wnt τ.1 so d n = wnt σ.1 so d n
  | 0 => rfl
  | n + 1 => by
    show wnt τ.1 so d n + wpc τ.1 so d n = wnt σ.1 so d n + wpc σ.1 so d n
    rw [wnt_ag h so d n, wpc_ag h]
theorem wix (so d : Int) (h : Nat) (hh : h < 8) (hs : 0 ≤ so ∧ so < 6) (hd : 0 ≤ d) : 7 * so.toNat + (d % 7).toNat < 42 ∧ ((7 * so.toNat + (d % 7).toNat : Nat) : Int) = so * 7 + Int.tmod d 7 ∧ (0 ≤ Int.tmod d 7 ∧ Int.tmod d 7 < 7) ∧ 42 * h + (7 * so.toNat + (d % 7).toNat) < 336 := by
  have e : Int.tmod d 7 = d % 7 := Int.tmod_eq_emod_of_nonneg hd
  rw [e]
  omega
theorem clp_bd (w : Int) : 0 ≤ clp w ∧ clp w ≤ 1000 := by
  unfold clp
  split
  · omega
  · split <;> omega
theorem wpc_bd (hP : pJ σ.1) {so d : Int} (hs : 0 ≤ so ∧ so < σ.1 305 6) (hd : 0 ≤ d) {h : Nat} (hh : h < 8) : 0 ≤ wpc σ.1 so d h ∧ wpc σ.1 so d h ≤ 1000 := by
  have h6 := hP.1.2.1
  have hx := wix so d h hh (by omega) hd
  have hw := hP.2.2.2.2.2.2.2.1 h _ hh hx.1
  unfold wpc
  split
  · omega
  · exact clp_bd _
theorem wnt_bd (hP : pJ σ.1) {so d : Int} (hs : 0 ≤ so ∧ so < σ.1 305 6) (hd : 0 ≤ d) : ∀ n, n ≤ 8 → 0 ≤ wnt σ.1 so d n ∧ wnt σ.1 so d n ≤ 1000 * (n : Int)
  | 0, _ => ⟨Int.le_refl _, by show (0 : Int) ≤ 1000 * ((0 : Nat) : Int); decide⟩
  | n + 1, hn => by
    have ih := wnt_bd hP hs hd n (by omega)
    have := wpc_bd hP hs hd (h := n) (by omega)
    show 0 ≤ wnt σ.1 so d n + wpc σ.1 so d n ∧ wnt σ.1 so d n + wpc σ.1 so d n ≤ 1000 * ((n + 1 : Nat) : Int)
    omega
theorem clp_xmm (w : Int) : xmm 0 0 (xmm 1 1000 w) = clp w := by
  show (if 0 < (if w < 1000 then w else 1000) then (if w < 1000 then w else 1000) else 0) = clp w
  unfold clp
  by_cases c : w < 1000
  · rw [if_pos c]
    by_cases d : 0 < w
    · rw [if_pos d, if_neg (by omega), if_neg (by omega)]
    · rw [if_neg d]
      by_cases e : w < 0
      · rw [if_pos e]
      · rw [if_neg e, if_neg (by omega)]; omega
  · rw [if_neg c, if_pos (by decide), if_neg (by omega)]
    by_cases d : 1000 < w
    · rw [if_pos d]
    · rw [if_neg d]; omega
theorem w_prod {v s : Int} (hv : 0 ≤ v ∧ v ≤ 50) (hs : -1000000000000 ≤ s ∧ s ≤ 1000000000000) : -50000000000000 ≤ v * s ∧ v * s ≤ 50000000000000 := by
  constructor
  · have h1 : v * (-1000000000000) ≤ v * s := Int.mul_le_mul_of_nonneg_left hs.1 hv.1
    omega
  · have h1 : v * s ≤ v * 1000000000000 := Int.mul_le_mul_of_nonneg_left hs.2 hv.1
    omega
theorem hW_bd (hP : pJ σ.1) {so d : Int} (hs : 0 ≤ so ∧ so < σ.1 305 6) (hd : 0 ≤ d ∧ d ≤ 2000) {h : Nat} (hh : (h : Int) < σ.1 305 11) : hbd (xup (hSo σ.1 so (hB0 d)) 6 (σ.1 311 h)) := by
  have := (hP.2.1.2.2 h (by omega)).1
  exact hbd_xup (hSo_bd hP.1 hs (hB0_bd hd)) (by omega)
theorem xw_h {h : Nat} (hh : h < 8) : xw ((h : Int) + 1) = ((h + 1 : Nat) : Int) := xw_t (by omega)
theorem w245 {τ : xS} {h : Nat} (hh : h < 8) : xag xE1 τ 245 h = ((246 + h : Nat) : Int) ∧ xarr xE1 τ ((246 + h : Nat) : Int) 0 = some 42 ∧ ∀ k, xag xE1 τ ((246 + h : Nat) : Int) k = τ.1 (246 + h) k := by
  match h, hh with
  | 0, _ => exact ⟨rfl, rfl, fun _ => rfl⟩
  | 1, _ => exact ⟨rfl, rfl, fun _ => rfl⟩
  | 2, _ => exact ⟨rfl, rfl, fun _ => rfl⟩
  | 3, _ => exact ⟨rfl, rfl, fun _ => rfl⟩
  | 4, _ => exact ⟨rfl, rfl, fun _ => rfl⟩
  | 5, _ => exact ⟨rfl, rfl, fun _ => rfl⟩
  | 6, _ => exact ⟨rfl, rfl, fun _ => rfl⟩
  | 7, _ => exact ⟨rfl, rfl, fun _ => rfl⟩
  | n + 8, h => omega
theorem xw_ix {so d : Int} (hs : 0 ≤ so ∧ so < 6) (hd : 0 ≤ Int.tmod d 7 ∧ Int.tmod d 7 < 7) : xw (xw (so * 7) + Int.tmod d 7) = so * 7 + Int.tmod d 7 := by
  rw [xw_id (x := so * 7) (by omega) (by omega), xw_id (by omega) (by omega)]
theorem xw_ixM {so d : Int} {h : Nat} (hh : h < 8) (hs : 0 ≤ so ∧ so < 6) (hd : 0 ≤ Int.tmod d 7 ∧ Int.tmod d 7 < 7) : xw (xw (xw (42 * (h : Int)) + xw (7 * so)) + Int.tmod d 7) = 42 * (h : Int) + (so * 7 + Int.tmod d 7) := by
  rw [xw_id (x := 42 * (h : Int)) (by omega) (by omega), xw_id (x := 7 * so) (by omega) (by omega), xw_id (x := 42 * (h : Int) + 7 * so) (by omega) (by omega), xw_id (by omega) (by omega)]
  omega
theorem wn_j_lt (hJ : te_J σ.1 σ.2.1) {d : Int} {F M T N : Nat} {cs : Nat → Nat} (h0 : ¬ te_f σ.1 d < 0) (hB : te_B σ.1 σ.2.1 (te_f σ.1 d).toNat F M T N cs) : wn_j σ.1 d = te_fe σ.1 F d M 0 ∧ (wn_j σ.1 d < 0 ∧ wn_j σ.1 d = -1 ∨ 0 ≤ wn_j σ.1 d ∧ (wn_j σ.1 d).toNat < M ∧ σ.1 344 (F + (wn_j σ.1 d).toNat) = 4) := by
  have e : wn_j σ.1 d = te_fe σ.1 F d M 0 := by
    unfold wn_j
    rw [if_neg h0, hB.1.1, hB.1.2.1, Int.toNat_natCast, Int.toNat_natCast]
  refine ⟨e, ?_⟩
  rw [e]
  rcases te_fe_lt (m := σ.1) (F := F) (d := d) (n := M) (j := 0) with h | ⟨h1, h2, h3⟩
  · exact Or.inl ⟨by omega, h⟩
  · exact Or.inr ⟨by omega, by omega, h3⟩
/-- the class: house by house -/
theorem L_wn_27 (hP : pJ σ.1) (hJ : te_J σ.1 σ.2.1) (hdp : 800 ≤ xdp σ) {so d : Int} (hs : 0 ≤ so ∧ so < σ.1 305 6) (hd : 0 ≤ d ∧ d ≤ 2000) (Tr Nr : Int) (hT : (wn_j σ.1 d < 0 ∧ Nr = 0) ∨ (0 ≤ wn_j σ.1 d ∧ ∃ (F M T N : Nat) (cs : Nat → Nat), te_B σ.1 σ.2.1 (te_f σ.1 d).toNat F M T N cs ∧ Tr = (T : Int) ∧ Nr = (cs (wn_j σ.1 d).toNat : Int) ∧ (wn_j σ.1 d).toNat < M ∧ σ.1 344 (F + (wn_j σ.1 d).toNat) = 4)) : ∀ (n h : Nat) (τ : xS) (w8 w9 : xAV), h + n = (σ.1 305 11).toNat → ag σ τ → ∃ τ', X iLedger_wantedOn 27 [(2, 243), (0, so), (0, d), (2, Tr), (2, Nr), (1, wnt σ.1 so d h), (8, 0), (0, (h : Int)), w8, w9] [] τ = some ((0, wnt σ.1 so d (σ.1 305 11).toNat), τ') ∧ ag σ τ' ∧ τ'.1 273 = τ.1 273 := by
  have h6 := hP.1.2.1
  have h11 := hP.2.1.2.1
  have e4 := hP.2.1.1.2.2.2.2
  have e210 : σ.1 210 = σ.1 311 := hP.2.1.1.1
  intro n
  induction n with
  | zero =>
    intro h τ w8 w9 hh ha
    have hb := wnt_bd hP hs hd.1 h (by omega)
    refine ⟨τ, ?_, ha, rfl⟩
    rw [qLedger_wantedOn_27, ha.sl (a := 209) (k := 4) rfl, e4, if_neg (by omega), xw_id (by omega) (by omega), show h = (σ.1 305 11).toNat by omega]
  | succ n ih =>
    intro h τ w8 w9 hh ha
    have h8 : h < 8 := by omega
    have f0 : (h : Int) < σ.1 305 11 := by omega
    have hx : xin (h : Int) 8 := ⟨by omega, by omega⟩
    have hb := wnt_bd hP hs hd.1 h (by omega)
    have hpb := wpc_bd hP hs hd.1 (h := h) h8
    obtain ⟨i1, i2, i3, i4⟩ := wix so d h h8 (by omega) hd.1
    obtain ⟨r1, r2, r3⟩ := w245 (τ := τ) h8
    have hw := hP.2.2.2.2.2.2.2.1 h _ h8 i1
    have ev : τ.1 (246 + h) (7 * so.toNat + (d % 7).toNat) = σ.1 369 (42 * h + (7 * so.toNat + (d % 7).toNat)) := by
      rw [ha.cl (a := 246 + h) (by omega)]; exact hw.1
    have hxi : xin (((7 * so.toNat + (d % 7).toNat : Nat) : Int)) 42 := ⟨by omega, by omega⟩
    rw [qLedger_wantedOn_27, ha.sl (a := 209) (k := 4) rfl, e4, if_pos f0, if_pos hx, Int.toNat_natCast, r1, r2, xob_some, xw_ix (by omega) i3, ← i2, if_pos hxi, Int.toNat_natCast, r3, ev]
    have fin : ∀ (v : Int) (τ1 : xS) (w8 w9 : xAV), v = wpc σ.1 so d h → (ag σ τ1 ∧ τ1.1 273 = τ.1 273) → ∃ τ', X iLedger_wantedOn 27 [(2, 243), (0, so), (0, d), (2, Tr), (2, Nr), (1, xW (wnt σ.1 so d h + v)), (8, 0), (0, xw ((h : Int) + 1)), w8, w9] [] τ1 = some ((0, wnt σ.1 so d (σ.1 305 11).toNat), τ') ∧ ag σ τ' ∧ τ'.1 273 = τ.1 273 := by
      intro v τ1 w8 w9 hv ⟨ha1, hc1⟩
      rw [hv, xw_h h8, xW_id (by omega) (by omega)]
      obtain ⟨τ', y1, y2, y3⟩ := ih (h + 1) τ1 w8 w9 (by omega) ha1
      exact ⟨τ', y1, y2, y3.trans hc1⟩
    rcases hT with ⟨t1, t2⟩ | ⟨t1, F, M, T, N, cs, hB, t2, t3, t4, t5⟩
    · rw [if_pos t2]
      exact fin _ τ _ _ (by unfold wpc; rw [if_pos t1]) ⟨ha, rfl⟩
    · have hn := tB_n hB (j := (wn_j σ.1 d).toNat) t4
      obtain ⟨τ1, q1, q2, q3⟩ := C_holdDay (σ := τ) d
      obtain ⟨τ2, u1, u2, u3⟩ := C_holdSort (pJ_ag ha hP).1 (so := so) (by rw [ha.sl (a := 305) (k := 6) rfl]; exact hs) q2 q3
      rw [hSo_ag ha] at u3
      have ha2 : ag σ (xs τ2 254 6 (τ2.1 210 h)) := ag_tr ha (cg1_ag tm254 (cg1_s u2 _ _))
      have e6 : eqh ((xs τ2 254 6 (τ2.1 210 h)).1 254) (xup (hSo σ.1 so (hB0 d)) 6 (σ.1 311 h)) := by
        rw [xs_at, u2.2 210 (by decide), ha.cl (a := 210) (by omega), e210]
        exact eqh_xup u3 _ _
      have hbH := hW_bd hP hs hd f0
      obtain ⟨τ3, v1, v2, v3, _, v5⟩ := C_named hB hdp ha2 e6 hbH
      have hsv := sv_bd hB hbH t4 (by omega)
      have hpr := w_prod (v := σ.1 369 (42 * h + (7 * so.toNat + (d % 7).toNat))) hw.2 hsv
      have htd := tdiv_abs (b := 100) hpr
      rw [if_neg (by rw [t3]; exact nz hn.1), q1, Option.bind_some, qLedger_wantedOn_69, u1, Option.bind_some, qLedger_wantedOn_74, if_pos hx, Int.toNat_natCast, t2, tB_is (te_B_ag ha2 hB), cnd_t, v1, Option.bind_some, qLedger_wantedOn_84, tB_is (te_B_ag v2 hB), cnd_t, t3, v3 _ t4 (by omega), Option.bind_some, qLedger_wantedOn_92, clp_xmm, xW_id (x := σ.1 369 (42 * h + (7 * so.toNat + (d % 7).toNat)) * sv σ.1 (xup (hSo σ.1 so (hB0 d)) 6 (σ.1 311 h)) F (wn_j σ.1 d).toNat) (by omega) (by omega), xW_id (x := Int.tdiv _ 100) (by omega) (by omega), ← t2, ← t3]
      refine fin _ τ3 _ _ ?_ ⟨v2, by
        have hN := hB.2.2.2.1.2.2.2.1.1
        rw [v5 273 (by omega), xs_ne (by decide), u2.2 273 (by decide)]⟩
      unfold wpc
      rw [if_neg (by omega), hB.1.1, Int.toNat_natCast]
theorem L_wantedOn (hP : pJ σ.1) (hJ : te_J σ.1 σ.2.1) (hdp : 800 ≤ xdp σ) {so d : Int} (hs : 0 ≤ so ∧ so < σ.1 305 6) (hd : 0 ≤ d ∧ d ≤ 2000) : ∃ τ, X iLedger_wantedOn 0 [(2, 243), (0, so), (0, d), (9, 0), (9, 0), (9, 0), (9, 0), (9, 0), (9, 0), (9, 0)] [] σ = some ((0, wnt σ.1 so d (σ.1 305 11).toNat), τ) ∧ ag σ τ ∧ τ.1 273 = σ.1 273 := by
  have hf := te_f_lt hJ d
  rw [qLedger_wantedOn_0, C_inForce hJ, Option.bind_some, qLedger_wantedOn_5]
  by_cases ht : te_f σ.1 d < 0
  · rw [if_pos ht, if_pos rfl, qLedger_wantedOn_19]
    exact L_wn_27 hP hJ hdp hs hd 0 0 (Or.inl ⟨by unfold wn_j; rw [if_pos ht]; decide, rfl⟩) (σ.1 305 11).toNat 0 σ _ _ (by omega) (ag_rf σ)
  · obtain ⟨_, F, M, T, N, cs, hB⟩ := hJ.2.2.2.2 _ (hf.2.2 (by omega))
    obtain ⟨e1, e2⟩ := wn_j_lt hJ ht hB
    rw [if_neg ht, hB.2.1, if_neg (nz hB.2.2.2.1.1.1), tB_is hB, cnd_t, C_firstFeast hB, Option.bind_some, qLedger_wantedOn_19, ← e1]
    refine L_wn_27 hP hJ hdp hs hd T (ndo cs (wn_j σ.1 d)) ?_ (σ.1 305 11).toNat 0 σ _ _ (by omega) (ag_rf σ)
    rcases e2 with ⟨g1, g2⟩ | ⟨g1, g2, g3⟩
    · exact Or.inl ⟨g1, if_pos g1⟩
    · exact Or.inr ⟨g1, F, M, T, N, cs, hB, rfl, if_neg (by omega), g2, g3⟩
/-- the reference: house by house -/
theorem M_wn_93 (hP : pJ σ.1) (hJ : te_J σ.1 σ.2.1) {so d : Int} (hs : 0 ≤ so ∧ so < σ.1 305 6) (hd : 0 ≤ d ∧ d ≤ 2000) (Fr : Int) (hT : (wn_j σ.1 d < 0 ∧ Fr = -1) ∨ (0 ≤ wn_j σ.1 d ∧ ∃ (F M T N : Nat) (cs : Nat → Nat), te_B σ.1 σ.2.1 (te_f σ.1 d).toNat F M T N cs ∧ Fr = ((F + (wn_j σ.1 d).toNat : Nat) : Int) ∧ (wn_j σ.1 d).toNat < M ∧ σ.1 344 (F + (wn_j σ.1 d).toNat) = 4 ∧ 0 ≤ te_f σ.1 d)) : ∀ (n h : Nat) (τ : xS) (w8 w9 : xAV), h + n = (σ.1 305 11).toNat → ag σ τ → ∃ τ', X iM_wantedOn 93 [(2, 305), (0, so), (0, d), (0, te_f σ.1 d), (0, Fr), (0, wnt σ.1 so d h), (0, (h : Int)), w8, w9] [] τ = some ((0, wnt σ.1 so d (σ.1 305 11).toNat), τ') ∧ ag σ τ' ∧ τ'.1 390 = τ.1 390 := by
  have h6 := hP.1.2.1
  have h11 := hP.2.1.2.1
  have h57 := hJ.2.2.1
  have h49 := hJ.2.1
  have hf := te_f_lt hJ d
  intro n
  induction n with
  | zero =>
    intro h τ w8 w9 hh ha
    refine ⟨τ, ?_, ha, rfl⟩
    rw [qM_wantedOn_93, ha.sl (a := 305) (k := 11) rfl, if_neg (by omega), show h = (σ.1 305 11).toNat by omega]
  | succ n ih =>
    intro h τ w8 w9 hh ha
    have h8 : h < 8 := by omega
    have f0 : (h : Int) < σ.1 305 11 := by omega
    have hx : xin (h : Int) 8 := ⟨by omega, by omega⟩
    have hb := wnt_bd hP hs hd.1 h (by omega)
    have hpb := wpc_bd hP hs hd.1 (h := h) h8
    obtain ⟨i1, i2, i3, i4⟩ := wix so d h h8 (by omega) hd.1
    have hw := hP.2.2.2.2.2.2.2.1 h _ h8 i1
    have ei : 42 * (h : Int) + (so * 7 + Int.tmod d 7) = ((42 * h + (7 * so.toNat + (d % 7).toNat) : Nat) : Int) := by omega
    have hxi : xin (((42 * h + (7 * so.toNat + (d % 7).toNat) : Nat) : Int)) 336 := ⟨by omega, by omega⟩
    have fin : ∀ (v : Int) (τ1 : xS) (w8 w9 : xAV), v = wpc σ.1 so d h → (ag σ τ1 ∧ τ1.1 390 = τ.1 390) → ∃ τ', X iM_wantedOn 93 [(2, 305), (0, so), (0, d), (0, te_f σ.1 d), (0, Fr), (0, xw (wnt σ.1 so d h + v)), (0, xw ((h : Int) + 1)), w8, w9] [] τ1 = some ((0, wnt σ.1 so d (σ.1 305 11).toNat), τ') ∧ ag σ τ' ∧ τ'.1 390 = τ.1 390 := by
      intro v τ1 w8 w9 hv ⟨ha1, hc1⟩
      rw [hv, xw_h h8, xw_id (by omega) (by omega)]
      obtain ⟨τ', y1, y2, y3⟩ := ih (h + 1) τ1 w8 w9 (by omega) ha1
      exact ⟨τ', y1, y2, y3.trans hc1⟩
    rw [qM_wantedOn_93, ha.sl (a := 305) (k := 11) rfl, if_pos f0, xw_ixM h8 (by omega) i3, ei, if_pos hxi, Int.toNat_natCast, ha.cl (a := 369) (by omega)]
    rcases hT with ⟨t1, t2⟩ | ⟨t1, F, M, T, N, cs, hB, t2, t4, t5, t6⟩
    · rw [if_pos (by omega), xw_id (x := σ.1 369 (42 * h + (7 * so.toNat + (d % 7).toNat))) (by omega) (by omega)]
      exact fin _ τ _ _ (by unfold wpc; rw [if_pos t1]) ⟨ha, rfl⟩
    · obtain ⟨τ1, q1, q2, q3⟩ := M_bare (σ := τ) d
      obtain ⟨τ2, u1, u2, u3⟩ := M_ofSort (pJ_ag ha hP).1 (so := so) (by rw [ha.sl (a := 305) (k := 6) rfl]; exact hs) q2 q3
      rw [hSo_ag ha] at u3
      have ha2 : ag σ (xs τ2 365 6 (τ2.1 311 h)) := ag_tr ha (cg1_ag tm365 (cg1_s u2 _ _))
      have e6 : eqh ((xs τ2 365 6 (τ2.1 311 h)).1 365) (xup (hSo σ.1 so (hB0 d)) 6 (σ.1 311 h)) := by
        rw [xs_at, u2.2 311 (by decide), ha.cl (a := 311) (by omega)]
        exact eqh_xup u3 _ _
      have hbH := hW_bd hP hs hd f0
      obtain ⟨τ3, v1, v2, v5⟩ := M_named hB (by omega) (by omega) ha2 e6 hbH t4 (by omega)
      rw [show (((te_f σ.1 d).toNat : Nat) : Int) = te_f σ.1 d by omega] at v1
      have c390 : τ3.1 390 = τ.1 390 := by rw [v5 390 (by decide) (by decide), xs_ne (by decide), u2.2 390 (by decide)]
      have hsv := sv_bd hB hbH t4 (by omega)
      have hpr := w_prod (v := σ.1 369 (42 * h + (7 * so.toNat + (d % 7).toNat))) hw.2 hsv
      have htd := tdiv_abs (b := 100) hpr
      have ewp : wpc σ.1 so d h = clp (Int.tdiv (σ.1 369 (42 * h + (7 * so.toNat + (d % 7).toNat)) * sv σ.1 (xup (hSo σ.1 so (hB0 d)) 6 (σ.1 311 h)) F (wn_j σ.1 d).toNat) 100) := by
        unfold wpc
        rw [if_neg (by omega), hB.1.1, Int.toNat_natCast]
      rw [if_neg (by omega), q1, Option.bind_some, qM_wantedOn_135, u1, Option.bind_some, qM_wantedOn_140, if_pos hx, Int.toNat_natCast, t2, v1, Option.bind_some, qM_wantedOn_164, ← t2, xW_id (x := σ.1 369 (42 * h + (7 * so.toNat + (d % 7).toNat)) * sv σ.1 (xup (hSo σ.1 so (hB0 d)) 6 (σ.1 311 h)) F (wn_j σ.1 d).toNat) (by omega) (by omega), xW_id (x := Int.tdiv _ 100) (by omega) (by omega)]
      generalize Int.tdiv (σ.1 369 (42 * h + (7 * so.toNat + (d % 7).toNat)) * sv σ.1 (xup (hSo σ.1 so (hB0 d)) 6 (σ.1 311 h)) F (wn_j σ.1 d).toNat) 100 = W at ewp htd
      unfold clp at ewp
      by_cases c1 : W < 0
      · rw [if_pos c1] at ewp
        rw [if_pos c1]
        exact fin _ τ3 _ _ ewp.symm ⟨v2, c390⟩
      · rw [if_neg c1] at ewp
        rw [if_neg c1]
        by_cases c2 : 1000 < W
        · rw [if_pos c2] at ewp
          rw [if_pos c2]
          exact fin _ τ3 _ _ ewp.symm ⟨v2, c390⟩
        · rw [if_neg c2] at ewp
          rw [if_neg c2, xw_id (x := W) (by omega) (by omega)]
          exact fin _ τ3 _ _ ewp.symm ⟨v2, c390⟩
theorem M_wn_21 {x F M T N : Nat} {cs : Nat → Nat} (hJ : te_J σ.1 σ.2.1) (hx8 : x < 8) (hB : te_B σ.1 σ.2.1 x F M T N cs) (so d : Int) (w6 w7 w8 : xAV) : ∀ (n j : Nat), j + n = M → X iM_wantedOn 21 [(2, 305), (0, so), (0, d), (0, (x : Int)), (0, -1), (0, ((F + j : Nat) : Int)), w6, w7, w8] [] σ = X iM_wantedOn 93 [(2, 305), (0, so), (0, d), (0, (x : Int)), (0, abF F (te_fe σ.1 F d n j)), (0, 0), (0, 0), w7, w8] [] σ := by
  have hxx : xin (x : Int) 8 := ⟨by omega, by omega⟩
  obtain ⟨e1, e2, e3, e4⟩ := hB.1
  have h57 := hJ.2.2.1
  have h49 := hJ.2.1
  intro n
  induction n with
  | zero =>
    intro j hj
    rw [qM_wantedOn_21, if_pos hxx, if_pos hxx]
    simp only [Int.toNat_natCast]
    rw [e1, e2, xw_id (by omega) (by omega), if_neg (by omega)]
    rfl
  | succ n ih =>
    intro j hj
    have hxj : xin ((F + j : Nat) : Int) 200 := ⟨by omega, by omega⟩
    have kk := ih (j + 1) (by omega)
    have ef : te_fe σ.1 F d (n + 1) j = if σ.1 344 (F + j) = 4 ∧ σ.1 345 (F + j) ≤ d ∧ d ≤ σ.1 346 (F + j) then (j : Int) else te_fe σ.1 F d n (j + 1) := rfl
    rw [qM_wantedOn_21, if_pos hxx, if_pos hxx]
    simp only [Int.toNat_natCast]
    rw [e1, e2, xw_id (x := (F : Int) + (M : Int)) (by omega) (by omega), if_pos (by omega), if_pos (show (-1 : Int) < 0 by decide), if_pos hxj, xw_id (x := ((F + j : Nat) : Int) + 1) (by omega) (by omega), show ((F + j : Nat) : Int) + 1 = ((F + (j + 1) : Nat) : Int) by omega]
    by_cases c : σ.1 344 (F + j) = 4
    · rw [if_pos c, if_pos hxj]
      by_cases c1 : d < σ.1 345 (F + j)
      · rw [if_neg (by omega)] at ef
        rw [if_pos c1, kk, ef]
      · rw [if_neg c1, if_pos hxj]
        by_cases c2 : σ.1 346 (F + j) < d
        · rw [if_neg (by omega)] at ef
          rw [if_pos c2, kk, ef]
        · rw [if_pos (by omega)] at ef
          rw [if_neg c2, ef, qM_wantedOn_21, if_pos hxx, if_pos hxx]
          simp only [Int.toNat_natCast]
          rw [e1, e2, xw_id (x := (F : Int) + (M : Int)) (by omega) (by omega), show abF F (j : Int) = ((F + j : Nat) : Int) by
            unfold abF
            rw [if_neg (by omega)]; omega]
          by_cases c3 : ((F + (j + 1) : Nat) : Int) < (F : Int) + (M : Int)
          · rw [if_pos c3, if_neg (by omega)]
          · rw [if_neg c3]
    · rw [if_neg (fun q => c q.1)] at ef
      rw [if_neg c, kk, ef]
theorem M_wantedOn (hP : pJ σ.1) (hJ : te_J σ.1 σ.2.1) {so d : Int} (hs : 0 ≤ so ∧ so < σ.1 305 6) (hd : 0 ≤ d ∧ d ≤ 2000) : ∃ τ, X iM_wantedOn 0 [(2, 305), (0, so), (0, d), (9, 0), (9, 0), (9, 0), (9, 0), (9, 0), (9, 0)] [] σ = some ((0, wnt σ.1 so d (σ.1 305 11).toNat), τ) ∧ ag σ τ ∧ τ.1 390 = σ.1 390 := by
  have hf := te_f_lt hJ d
  rw [qM_wantedOn_0, M_termsOn hJ.2.1, Option.bind_some, qM_wantedOn_5]
  by_cases ht : te_f σ.1 d < 0
  · rw [if_pos ht]
    exact M_wn_93 hP hJ hs hd (-1) (Or.inl ⟨by unfold wn_j; rw [if_pos ht]; decide, rfl⟩) (σ.1 305 11).toNat 0 σ _ _ (by omega) (ag_rf σ)
  · obtain ⟨_, F, M, T, N, cs, hB⟩ := hJ.2.2.2.2 _ (hf.2.2 (by omega))
    obtain ⟨e1, e2⟩ := wn_j_lt hJ ht hB
    have et : te_f σ.1 d = (((te_f σ.1 d).toNat : Nat) : Int) := by omega
    have h21 := M_wn_21 hJ (show (te_f σ.1 d).toNat < 8 by omega) hB so d (9, 0) (9, 0) (9, 0) M 0 (by omega)
    rw [← et, ← e1] at h21
    have h21 : X iM_wantedOn 21 [(2, 305), (0, so), (0, d), (0, te_f σ.1 d), (0, -1), (0, (F : Int)), (9, 0), (9, 0), (9, 0)] [] σ = _ := h21
    rw [if_neg ht, if_pos (xin_of (by omega) (by omega)), hB.1.1, h21]
    refine M_wn_93 hP hJ hs hd (abF F (wn_j σ.1 d)) ?_ (σ.1 305 11).toNat 0 σ _ _ (by omega) (ag_rf σ)
    rcases e2 with ⟨g1, g2⟩ | ⟨g1, g2, g3⟩
    · exact Or.inl ⟨g1, if_pos g1⟩
    · exact Or.inr ⟨g1, F, M, T, N, cs, hB, by unfold abF; rw [if_neg (by omega)]; omega, g2, g3, by omega⟩
theorem rd_wanted (hP : pJ σ.1) (hJ : te_J σ.1 σ.2.1) (hdp : 800 ≤ xdp σ) (a1 a2 : Int) : rdOK σ iC_wanted [(2, 200), (0, a1), (0, a2)] iM_wanted [(2, 305), (0, a1), (0, a2)] := by
  have h6 := hP.1.2.1
  have e5 := hP.1.1.2.2.2.2.2
  have w6 : xw (σ.1 305 6 - 1) = σ.1 305 6 - 1 := xw_id (by omega) (by omega)
  by_cases hh : (0 ≤ a1 ∧ a1 < σ.1 305 6) ∧ 0 ≤ a2 ∧ a2 ≤ 1010
  · obtain ⟨τ, q1, q2, _⟩ := L_wantedOn hP hJ hdp hh.1 (d := a2) (by omega)
    obtain ⟨τ', r1, r2, _⟩ := M_wantedOn (pJ_ag q2 hP) (te_J_ag q2 hJ) (so := a1) (d := a2) (by rw [q2.sl (a := 305) (k := 6) rfl]; exact hh.1) (by omega)
    rw [wnt_ag q2, q2.sl (a := 305) (k := 11) rfl] at r1
    refine ⟨(0, wnt σ.1 a1 a2 (σ.1 305 11).toNat), τ, τ', ?_, q2, ?_, r2⟩
    · rw [qC_wanted_0, e5, w6, if_neg (by omega), if_neg (by omega), if_neg (by omega), if_neg (by omega), q1, Option.bind_some, qC_wanted_31]
    · rw [qM_wanted_0, q2.sl (a := 305) (k := 6) rfl, if_neg (by omega), if_pos (by omega), if_neg (by omega), if_neg (by omega), r1, Option.bind_some, qM_wanted_25]
  · refine rd_same (v := (0, -1)) ?_ ?_
    · rw [qC_wanted_0, e5, w6]
      clear w6
      by_cases c1 : a1 < 0
      · rw [if_pos c1]
      by_cases c2 : σ.1 305 6 - 1 < a1
      · rw [if_neg c1, if_pos c2]
      by_cases c3 : a2 < 0
      · rw [if_neg c1, if_neg c2, if_pos c3]
      rw [if_neg c1, if_neg c2, if_neg c3, if_pos (by omega)]
    · rw [qM_wanted_0]
      clear w6
      by_cases c1 : a1 < 0
      · rw [if_pos c1]
      by_cases c2 : a1 < σ.1 305 6
      · by_cases c3 : a2 < 0
        · rw [if_neg c1, if_pos c2, if_pos c3]
        rw [if_neg c1, if_pos c2, if_neg c3, if_pos (by omega)]
      · rw [if_neg c1, if_neg c2]
end WANTS

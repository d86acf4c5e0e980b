/-! parts of a loss: both sides -/
section PARTB
variable {σ : xS}
theorem C_st3 {x F M T N : Nat} {cs : Nat → Nat} {H : Nat → Int} (hB : te_B σ.1 σ.2.1 x F M T N cs) (hd : 800 ≤ xdp σ) {τ : xS} (ha : ag σ τ) (e : eqh (τ.1 254) H) (hh : hbd H) (h4 : ∀ i, i < M → σ.1 344 (F + i) = 0 → τ.1 N (lkc (σ.1 344) F i) = sv σ.1 H F i) {j : Nat} (hj : j < M) (hk : σ.1 344 (F + j) ≤ 4) : X iTerms_exOfStatement 0 [(2, (T : Int)), (2, (cs j : Int))] [] τ = some ((1, sv σ.1 H F j), τ) := by
  have hB' := te_B_ag ha hB
  have e344 : τ.1 344 = σ.1 344 := (te_st_ag ha).2.1 344 (by omega)
  have esv : ∀ j, j < M → σ.1 344 (F + j) ≤ 4 → sv τ.1 (τ.1 254) F j = sv σ.1 H F j := fun j hj hk => by
    rw [sv_hc hB' e hj (by rw [e344]; exact hk), sv_ag ha]
  rw [C_exOfStatement hB' (by rw [ag_2 ha]; exact hd) (hbd_eqh e hh) (ag_rf τ) (fun _ _ => rfl) (fun i hi h0 => by
    rw [e344] at h0 ⊢
    rw [esv i hi (by omega)]
    exact h4 i hi h0) hj (by rw [e344]; exact hk), esv j hj hk]
/-- names told, if there are terms -/
def ptN (σ τ : xS) (d : Int) (H : Nat → Int) (Tr : Int) : Prop := (te_f σ.1 d < 0 ∧ Tr = 0) ∨ (0 ≤ te_f σ.1 d ∧ ∃ (F M T N : Nat) (cs : Nat → Nat), te_B σ.1 σ.2.1 (te_f σ.1 d).toNat F M T N cs ∧ Tr = (T : Int) ∧ ∀ i, i < M → σ.1 344 (F + i) = 0 → τ.1 N (lkc (σ.1 344) F i) = sv σ.1 H F i)
theorem C_shareBy (hP : pJ σ.1) (hJ : te_J σ.1 σ.2.1) (hd : 800 ≤ xdp σ) {s d k : Int} (hs : 0 ≤ s ∧ s < σ.1 305 15) (hd2 : 0 ≤ d ∧ d ≤ 2000) {τ : xS} (ha : ag σ τ) (e : eqh (τ.1 254) (hPl σ.1 s d k)) {Tr : Int} (hN : ptN σ τ d (hPl σ.1 s d k) Tr) {P : Nat} (hP3 : P < 3) : X iLedger_shareBy 0 [(2, 243), (2, Tr), (2, 9 + (P : Int)), (0, if P = 0 then 1 else 0), (9, 0)] [] τ = some ((1, wtv σ.1 s d k P), τ) := by
  rw [qLedger_shareBy_0]
  rcases hN with ⟨t1, t2⟩ | ⟨t1, F, M, T, N, cs, hB, t2, t3⟩
  · rw [if_pos t2, qLedger_shareBy_13, if_pos rfl]
    unfold wtv wtj
    rw [if_pos (show (if te_f σ.1 d < 0 then (-1 : Int) else _) < 0 by rw [if_pos t1]; decide)]
  · obtain ⟨g1, g2, g3, g4⟩ := wtj_lt hJ (show ¬ te_f σ.1 d < 0 by omega) hB P
    have hB' := te_B_ag ha hB
    have hl := C_lastLoss hB' (P := (P : Int)) (by omega)
    rw [(te_st_ag ha).2.1 344 (by omega), (te_st_ag ha).2.1 345 (by omega), ← g1] at hl
    rw [t2, if_neg (nz hB.2.2.2.1.1.1), tB_is hB', cnd_t, hl, Option.bind_some, qLedger_shareBy_13]
    unfold wtv
    by_cases c : wtj σ.1 d P < 0
    · rw [show ndo cs (wtj σ.1 d P) = 0 from if_pos c, if_pos rfl, if_pos c]
    · have hn := tB_n hB (j := (wtj σ.1 d P).toNat) (by omega)
      rw [show ndo cs (wtj σ.1 d P) = (cs (wtj σ.1 d P).toNat : Int) from if_neg c, if_neg (nz hn.1), tB_is hB', cnd_t, C_st3 hB hd ha e (hPl_bd hP hs hd2) t3 (by omega) (by rw [g4 (by omega)]; decide), Option.bind_some, qLedger_shareBy_32, if_neg c, hB.1.1, Int.toNat_natCast]
      refine congrArg (fun z => some ((1, z), τ)) ?_
      show (if (0 : Int) < _ then _ else (0 : Int)) = mx0 _
      unfold mx0
      by_cases z : sv σ.1 (hPl σ.1 s d k) F (wtj σ.1 d P).toNat < 0
      · rw [if_pos z, if_neg (by omega)]
      · rw [if_neg z]
        by_cases z2 : 0 < sv σ.1 (hPl σ.1 s d k) F (wtj σ.1 d P).toNat
        · rw [if_pos z2]
        · rw [if_neg z2]; omega
theorem C_lostValue (hP : pJ σ.1) {s d k : Int} (hs : 0 ≤ s ∧ s < σ.1 305 15) {τ : xS} (ha : ag σ τ) : X iLedger_lostValue 0 [(2, 243), (0, s), (0, d), (0, k), (9, 0), (9, 0)] [] τ = some ((0, lsv σ.1 s d k), τ) := by
  have hBk := hP.2.2.1
  have hJ' := pJ_ag ha hP
  have h2 := hBk.1.2
  have hx : xin s 150 := ⟨by omega, by omega⟩
  have hw := bk_wa_bd hBk.1 s d k
  obtain ⟨l1, l2, l3, l4, l5, l6⟩ := lsv_bd hP (d := d) (k := k) hs
  have e217 : τ.1 217 = σ.1 315 := by rw [ha.cl (a := 217) (by omega)]; exact hBk.2.1.2.1.1
  have e205 : τ.1 205 = σ.1 309 := by rw [ha.cl (a := 205) (by omega)]; exact hP.1.1.2.2.2.1
  have e206 : τ.1 206 = σ.1 310 := by rw [ha.cl (a := 206) (by omega)]; exact hP.1.1.2.2.2.2.1
  rw [qLedger_lostValue_0, if_pos hx, e217, if_pos l2, B_washesAt hJ'.2.2.1 (by rw [ha.sl (a := 305) (k := 15) rfl]; exact hs), Option.bind_some, qLedger_lostValue_32, if_pos l2, e205, if_neg (by omega), if_pos l2, if_pos l2, if_neg (by omega), e206, bk_wa_ag ha, xw_id (x := σ.1 309 (σ.1 315 s.toNat).toNat - bk_wa σ.1 s d k) (by omega) (by omega)]
  have em : xmm 0 0 (σ.1 309 (σ.1 315 s.toNat).toNat - bk_wa σ.1 s d k) = mx0 (σ.1 309 (σ.1 315 s.toNat).toNat - bk_wa σ.1 s d k) := by
    show (if (0 : Int) < _ then _ else (0 : Int)) = mx0 _
    unfold mx0
    split
    · rw [if_neg (by omega)]
    · split <;> omega
  rw [em, xw_id (x := σ.1 310 (σ.1 315 s.toNat).toNat * mx0 (σ.1 309 (σ.1 315 s.toNat).toNat - bk_wa σ.1 s d k)) (by omega) (by omega)]
  show some ((0, xw (lsv σ.1 s d k)), τ) = _
  rw [xw_id (by omega) (by omega)]
/-- the sum, sheet by sheet -/
def pts (m : Nat → Nat → Int) (h : Int) (who : Nat) (d k : Int) : Nat → Int
  | 0 => 0
  | s + 1 => pts m h who d k s + if ev_ls m s h d k then ptf (lsv m s d k) (wtv m s d k) who else 0
theorem ev_db_ag {τ : xS} (h : ag σ τ) (s d k : Int) : ev_db τ.1 s d k ↔ ev_db σ.1 s d k := by
  unfold ev_db
  rw [ev_mi_ag h, h.cl (a := 329) (by omega), h.cl (a := 316) (by omega), h.sl (a := 305) (k := 32) rfl]
theorem ev_ls_ag {τ : xS} (h : ag σ τ) (s hh d k : Int) : ev_ls τ.1 s hh d k ↔ ev_ls σ.1 s hh d k := by
  unfold ev_ls bk_ask
  rw [ev_db_ag h, bk_pl_ag h, h.sl (a := 305) (k := 15) rfl, h.cl (a := 317) (by omega)]
theorem pts_ag {τ : xS} (g : ag σ τ) (h : Int) (who : Nat) (d k : Int) : ∀ n, pts τ.1 h who d k n = pts σ.1 h who d k n
  | 0 => rfl
  | n + 1 => by
    show pts τ.1 h who d k n + (if ev_ls τ.1 n h d k then ptf (lsv τ.1 n d k) (wtv τ.1 n d k) who else 0) = pts σ.1 h who d k n + if ev_ls σ.1 n h d k then ptf (lsv σ.1 n d k) (wtv σ.1 n d k) who else 0
    rw [pts_ag g h who d k n, lsv_ag g, wtv_ag g]
    by_cases c : ev_ls σ.1 n h d k
    · rw [if_pos c, if_pos ((ev_ls_ag g _ _ _ _).mpr c)]
    · rw [if_neg c, if_neg (fun q => c ((ev_ls_ag g _ _ _ _).mp q))]
theorem bms_le : ∀ (n : Nat) (p r : Nat → Int) (B : Int), (∀ i, i < 3 → 0 ≤ p i ∧ p i ≤ B) → ∀ i, i < 3 → 0 ≤ bms n p r i ∧ bms n p r i ≤ B + n
  | 0, p, r, B, h, i, hi => by have := h i hi; show 0 ≤ p i ∧ p i ≤ B + ((0 : Nat) : Int); omega
  | n + 1, p, r, B, h, i, hi => by
    have := bms_le n (xup p (gr r) (p (gr r) + 1)) (xup r (gr r) (-1)) (B + 1) (fun j hj => by
      rw [xup_at]
      have h1 := h j hj
      have h2 := h _ (gr_lt r)
      split <;> omega) i hi
    show 0 ≤ bms n _ _ i ∧ bms n _ _ i ≤ B + ((n + 1 : Nat) : Int)
    omega
theorem ptf_bd {L : Int} {W : Nat → Int} (hL : 0 ≤ L ∧ L ≤ 1000) (hb : ∀ i, i < 3 → 0 ≤ W i ∧ W i ≤ 1000000000000) {who : Nat} (hw : who < 3) : 0 ≤ ptf L W who ∧ ptf L W who ≤ 1010 := by
  have b0 := hb 0 (by decide)
  have b1 := hb 1 (by decide)
  have b2 := hb 2 (by decide)
  unfold ptf
  by_cases c : W 0 + W 1 + W 2 = 0
  · rw [if_pos c]; split <;> omega
  · rw [if_neg c]
    have hl := pt_left hL b0.1 b1.1 b2.1 (by omega)
    have := bms_le (ptl L (W 0 + W 1 + W 2) W).toNat (ptp L (W 0 + W 1 + W 2) W) (ptr L (W 0 + W 1 + W 2) W) 1000 (fun i hi => by
      have := (pt_in hL (A := W 0 + W 1 + W 2) (by omega) (w := W i) (by
        have : i = 0 ∨ i = 1 ∨ i = 2 := by omega
        rcases this with rfl | rfl | rfl <;> omega)).1
      show 0 ≤ Int.tdiv (L * W i) _ ∧ Int.tdiv (L * W i) _ ≤ 1000
      omega) who hw
    omega
theorem pts_bd (hP : pJ σ.1) (hJ : te_J σ.1 σ.2.1) {h : Int} {who : Nat} (hw : who < 3) {d k : Int} (hd : 0 ≤ d ∧ d ≤ 2000) : ∀ n : Nat, (n : Int) ≤ σ.1 305 15 → 0 ≤ pts σ.1 h who d k n ∧ pts σ.1 h who d k n ≤ 1010 * (n : Int)
  | 0, _ => ⟨Int.le_refl _, by show (0 : Int) ≤ 1010 * ((0 : Nat) : Int); decide⟩
  | n + 1, hn => by
    have ih := pts_bd hP hJ (h := h) hw (k := k) hd n (by omega)
    have hp := ptf_bd (lsv_bd hP (s := n) (d := d) (k := k) ⟨by omega, by omega⟩).1 (fun i _ => wtv_bd hP hJ (s := n) (k := k) ⟨by omega, by omega⟩ hd i) hw
    show 0 ≤ pts σ.1 h who d k n + (if ev_ls σ.1 n h d k then ptf (lsv σ.1 n d k) (wtv σ.1 n d k) who else 0) ∧ pts σ.1 h who d k n + (if ev_ls σ.1 n h d k then ptf (lsv σ.1 n d k) (wtv σ.1 n d k) who else 0) ≤ 1010 * ((n + 1 : Nat) : Int)
    split <;> omega
theorem L_pt_13 (hP : pJ σ.1) (hJ : te_J σ.1 σ.2.1) (hdp : 800 ≤ xdp σ) {h : Int} (hh : 0 ≤ h ∧ h < 8) {who : Nat} (hw : who < 3) {d k : Int} (hd : 0 ≤ d ∧ d ≤ 1000) (hk : 0 ≤ k ∧ k ≤ 1000) (Tr : Int) (hT : Tr = if te_f σ.1 d < 0 then 0 else σ.1 244 (te_f σ.1 d).toNat) : ∀ (n s : Nat) (τ : xS), s + n = (σ.1 305 15).toNat → ag σ τ → ∃ τ', X iLedger_partOf 13 [(2, 243), (0, h), (0, (who : Int)), (0, d), (0, k), (2, Tr), (1, pts σ.1 h who d k s), (8, 0), (0, (s : Int))] [] τ = some ((1, pts σ.1 h who d k (σ.1 305 15).toNat), τ') ∧ ag σ τ' := by
  have hBk := hP.2.2.1
  have h15 := hBk.1.2
  have e6 := hBk.2.1.2.2.2.1
  have hf := te_f_lt hJ d
  intro n
  induction n with
  | zero =>
    intro s τ hs ha
    refine ⟨τ, ?_, ha⟩
    rw [qLedger_partOf_13, ha.cl (a := 216) (by omega), e6, if_neg (by omega), show s = (σ.1 305 15).toNat by omega]
  | succ n ih =>
    intro s τ hs ha
    have hs6 : (s : Int) < 600 := by omega
    have f0 : (s : Int) < σ.1 305 15 := by omega
    have hss : 0 ≤ (s : Int) ∧ (s : Int) < σ.1 305 15 := ⟨by omega, f0⟩
    have r216 : τ.1 216 = σ.1 216 := ha.cl (by omega)
    have hl := E_isLostAt (pJ_ag ha hP) (s := s) (by rw [ha.sl (a := 305) (k := 15) rfl]; exact hss) hh hd hk
    have kk := ih (s + 1)
    rw [show pts σ.1 h who d k (s + 1) = pts σ.1 h who d k s + if ev_ls σ.1 s h d k then ptf (lsv σ.1 s d k) (wtv σ.1 s d k) who else 0 from rfl] at kk
    rw [qLedger_partOf_13, r216, e6, if_pos f0, hl, Option.bind_some, qLedger_partOf_38]
    by_cases c : ev_ls σ.1 s h d k
    · have c' := (ev_ls_ag ha s h d k).mpr c
      rw [if_pos c] at kk
      rw [if_pos c', if_neg (by decide)]
      obtain ⟨τ1, q1, q2, q3⟩ := C_holdSheetInPlace (pJ_ag ha hP) (s := s) (d := d) (k := k) (by rw [ha.sl (a := 305) (k := 15) rfl]; exact hss) (by omega)
      rw [hPl_ag ha] at q3
      have ha1 := ag_tr ha (cg1_ag tm254 q2)
      have hbH := hPl_bd hP (k := k) hss (d := d) (by omega)
      have hbp := pts_bd hP hJ (h := h) hw (k := k) (d := d) (by omega) s (by omega)
      have hL := lsv_bd hP (d := d) (k := k) hss
      have hpf := ptf_bd hL.1 (fun i _ => wtv_bd hP hJ (k := k) hss (d := d) (by omega) i) hw
      have mid : ∃ τ2, X iLedger_partOf 50 [(2, 243), (0, h), (0, (who : Int)), (0, d), (0, k), (2, Tr), (1, pts σ.1 h who d k s), (8, 0), (0, (s : Int))] [] τ1 = X iLedger_partOf 60 [(2, 243), (0, h), (0, (who : Int)), (0, d), (0, k), (2, Tr), (1, pts σ.1 h who d k s), (8, 0), (0, (s : Int))] [] τ2 ∧ ag σ τ2 ∧ eqh (τ2.1 254) (hPl σ.1 s d k) ∧ ptN σ τ2 d (hPl σ.1 s d k) Tr := by
        rw [qLedger_partOf_50]
        by_cases ht : te_f σ.1 d < 0
        · rw [if_pos ht] at hT
          rw [if_pos hT]
          exact ⟨τ1, rfl, ha1, q3, Or.inl ⟨ht, hT⟩⟩
        · obtain ⟨_, F, M, T, N, cs, hB⟩ := hJ.2.2.2.2 _ (hf.2.2 (by omega))
          rw [if_neg ht, hB.2.1] at hT
          obtain ⟨τ2, r1, r2, r3, r4, r5⟩ := C_named hB hdp ha1 q3 hbH
          rw [hT, if_neg (nz hB.2.2.2.1.1.1), tB_is (te_B_ag ha1 hB), cnd_t, r1, Option.bind_some]
          have hN := hB.2.2.2.1.2.2.2.1.1
          exact ⟨τ2, rfl, r2, by rw [r5 254 (by omega)]; exact q3, Or.inr ⟨by omega, F, M, T, N, cs, hB, rfl, r4⟩⟩
      obtain ⟨τ2, g1, g2, g3, g4⟩ := mid
      have stp : ∀ (τ3 : xS) (i : Nat) (v : Int), (ag σ τ3 ∧ eqh (τ3.1 254) (hPl σ.1 s d k) ∧ ptN σ τ3 d (hPl σ.1 s d k) Tr) → (ag σ (xs τ3 255 i v) ∧ eqh ((xs τ3 255 i v).1 254) (hPl σ.1 s d k) ∧ ptN σ (xs τ3 255 i v) d (hPl σ.1 s d k) Tr) := by
        intro τ3 i v ⟨z1, z2, z3⟩
        refine ⟨ag_tr z1 (ag_sS rfl), by rw [xs_ne (by decide)]; exact z2, ?_⟩
        rcases z3 with z3 | ⟨y1, F, M, T, N, cs, hB, y2, y3⟩
        · exact Or.inl z3
        · have hN := hB.2.2.2.1.2.2.2.1.1
          exact Or.inr ⟨y1, F, M, T, N, cs, hB, y2, fun i hi h0 => by rw [xs_ne (by omega)]; exact y3 i hi h0⟩
      have b1 := stp τ2 0 (wtv σ.1 s d k 0) ⟨g2, g3, g4⟩
      have b2 := stp _ 1 (wtv σ.1 s d k 1) b1
      have b3 := stp _ 2 (wtv σ.1 s d k 2) b2
      have s0 := C_shareBy hP hJ hdp hss (d := d) (by omega) g2 g3 g4 (P := 0) (by decide)
      have s1 := C_shareBy hP hJ hdp hss (d := d) (by omega) b1.1 b1.2.1 b1.2.2 (P := 1) (by decide)
      have s2 := C_shareBy hP hJ hdp hss (d := d) (by omega) b2.1 b2.2.1 b2.2.2 (P := 2) (by decide)
      have s0 : X iLedger_shareBy 0 [(2, 243), (2, Tr), (2, 9), (0, 1), (9, 0)] [] τ2 = _ := s0
      have s1 : X iLedger_shareBy 0 [(2, 243), (2, Tr), (2, 10), (0, 0), (9, 0)] [] (xs τ2 255 0 (wtv σ.1 s d k 0)) = _ := s1
      have s2 : X iLedger_shareBy 0 [(2, 243), (2, Tr), (2, 11), (0, 0), (9, 0)] [] (xs (xs τ2 255 0 (wtv σ.1 s d k 0)) 255 1 (wtv σ.1 s d k 1)) = _ := s2
      obtain ⟨τ4, u1, u2⟩ := C_partOfValue hw hL.1 (fun i _ => wtv_bd hP hJ (k := k) hss (d := d) (by omega) i) (τ := xs (xs (xs τ2 255 0 (wtv σ.1 s d k 0)) 255 1 (wtv σ.1 s d k 1)) 255 2 (wtv σ.1 s d k 2)) (fun i hi => by
        rw [xs_at, xs_at, xs_at]
        have : i = 0 ∨ i = 1 ∨ i = 2 := by omega
        rcases this with rfl | rfl | rfl <;> rfl)
      obtain ⟨τ', v1, v2⟩ := kk τ4 (by omega) (ag_tr b3.1 u2)
      refine ⟨τ', ?_, v2⟩
      rw [q1, Option.bind_some, g1, qLedger_partOf_60, s0, Option.bind_some, qLedger_partOf_75, if_pos (xin_of (by decide) (by decide))]
      show ((X iLedger_shareBy 0 [(2, 243), (2, Tr), (2, 10), (0, 0), (9, 0)] [] (xs τ2 255 0 (wtv σ.1 s d k 0))).bind _) = _
      rw [s1, Option.bind_some, qLedger_partOf_91, if_pos (xin_of (by decide) (by decide))]
      show ((X iLedger_shareBy 0 [(2, 243), (2, Tr), (2, 11), (0, 0), (9, 0)] [] (xs (xs τ2 255 0 (wtv σ.1 s d k 0)) 255 1 (wtv σ.1 s d k 1))).bind _) = _
      rw [s2, Option.bind_some, qLedger_partOf_107, if_pos (xin_of (by decide) (by decide))]
      show ((X iLedger_lostValue 0 [(2, 243), (0, (s : Int)), (0, d), (0, k), (9, 0), (9, 0)] [] (xs (xs (xs τ2 255 0 (wtv σ.1 s d k 0)) 255 1 (wtv σ.1 s d k 1)) 255 2 (wtv σ.1 s d k 2))).bind _) = _
      rw [C_lostValue hP hss b3.1, Option.bind_some, qLedger_partOf_120, u1, Option.bind_some, qLedger_partOf_124, xw_t hs6, xW_id (by omega) (by omega)]
      exact v1
    · rw [if_neg c, Int.add_zero] at kk
      rw [if_neg (fun q => c ((ev_ls_ag ha s h d k).mp q)), if_pos rfl, xw_t hs6]
      exact kk τ (by omega) ha
/-! the reference -/
theorem M_pt_251 : ∀ (n : Nat) (τ : xS) (w1 w2 w3 w4 w5 w6 w7 w8 w9 w12 w13 : xAV), n ≤ 3 → (∀ j, j < 3 → 0 ≤ τ.1 367 j ∧ τ.1 367 j ≤ 2000 - n) → ∃ τ', X iM_parts 251 [(2, 305), w1, w2, w3, w4, w5, w6, w7, w8, w9, (1, (n : Int)), (8, 0), w12, w13] [] τ = some ((9, 0), τ') ∧ ag τ τ' ∧ eq3 (τ'.1 367) (bms n (τ.1 367) (τ.1 368)) := by
  intro n
  induction n with
  | zero =>
    intro τ w1 w2 w3 w4 w5 w6 w7 w8 w9 w12 w13 _ _
    exact ⟨τ, by rw [qM_parts_251, if_neg (by decide)], ag_rf τ, fun _ _ => rfl⟩
  | succ n ih =>
    intro τ w1 w2 w3 w4 w5 w6 w7 w8 w9 w12 w13 hn hb
    have hg := gr_lt (τ.1 368)
    have hxg : xin (gr (τ.1 368) : Int) 3 := ⟨by omega, by omega⟩
    have hbg := hb _ hg
    have inner : X iM_parts 264 [(2, 305), w1, w2, w3, w4, w5, w6, w7, w8, w9, (1, ((n + 1 : Nat) : Int)), (8, 0), (0, 0), (0, 1)] [] τ = X iM_parts 264 [(2, 305), w1, w2, w3, w4, w5, w6, w7, w8, w9, (1, ((n + 1 : Nat) : Int)), (8, 0), (0, (gr (τ.1 368) : Int)), (0, 3)] [] τ := by
      have y1 : xw ((1 : Int) + 1) = 2 := rfl
      have y2 : xw ((2 : Int) + 1) = 3 := rfl
      rw [qM_parts_264, if_pos (by decide), if_pos (xin_of (by decide) (by decide)), if_pos (xin_of (by decide) (by decide)), y1]
      unfold gr
      show (if τ.1 368 0 < τ.1 368 1 then _ else _) = _
      by_cases c : τ.1 368 0 < τ.1 368 1
      · rw [if_pos c, if_pos c, qM_parts_264, if_pos (by decide), if_pos (xin_of (by decide) (by decide)), if_pos (xin_of (by decide) (by decide)), y2]
        show (if τ.1 368 1 < τ.1 368 2 then _ else _) = _
        by_cases d : τ.1 368 1 < τ.1 368 2
        · rw [if_pos d, if_pos d]; rfl
        · rw [if_neg d, if_neg d]; rfl
      · rw [if_neg c, if_neg c, qM_parts_264, if_pos (by decide), if_pos (xin_of (by decide) (by decide)), if_pos (xin_of (by decide) (by decide)), y2]
        show (if τ.1 368 0 < τ.1 368 2 then _ else _) = _
        by_cases d : τ.1 368 0 < τ.1 368 2
        · rw [if_pos d, if_pos d]; rfl
        · rw [if_neg d, if_neg d]; rfl
    rw [qM_parts_251, if_pos (by omega), inner, qM_parts_264, if_neg (by decide), if_pos hxg, if_pos hxg, if_pos hxg, Int.toNat_natCast, xW_id (x := τ.1 367 (gr (τ.1 368)) + 1) (by omega) (by omega), xW_id (x := ((n + 1 : Nat) : Int) - 1) (by omega) (by omega), show ((n + 1 : Nat) : Int) - 1 = (n : Int) by omega]
    obtain ⟨τ', q1, q2, q3⟩ := ih (xs (xs τ 367 (gr (τ.1 368)) (τ.1 367 (gr (τ.1 368)) + 1)) 368 (gr (τ.1 368)) (-1)) w1 w2 w3 w4 w5 w6 w7 w8 (xkl w9) (0, (gr (τ.1 368) : Int)) (0, 3) (by omega) (fun j hj => by
      rw [xs_ne (by decide), xs_at, xup_at]
      have := hb j hj
      split <;> omega)
    refine ⟨τ', q1, ag_tr (ag_tr (ag_sS rfl) (ag_sS rfl)) q2, ?_⟩
    rw [xs_at, xs_ne (a := 368) (b := 367) (by decide), xs_at, xs_ne (a := 367) (b := 368) (by decide)] at q3
    exact q3
theorem M_pt_187 {L A : Int} {W : Nat → Int} (hL : 0 ≤ L ∧ L ≤ 1000) (hA : 0 < A) (hWA : ∀ i, i < 3 → 0 ≤ W i ∧ W i ≤ A) (hA2 : A ≤ 3000000000000) (hlf : 0 ≤ ptl L A W ∧ ptl L A W ≤ 2) {τ : xS} (hW : ∀ i, i < 3 → τ.1 366 i = W i) (w1 w2 w3 w4 w5 w13 : xAV) : ∃ τ', X iM_parts 187 [(2, 305), w1, w2, w3, w4, w5, (1, L), (8, 0), (1, A), (8, 0), (1, L), (8, 0), (0, 0), w13] [] τ = some ((9, 0), τ') ∧ ag τ τ' ∧ eq3 (τ'.1 367) (bms (ptl L A W).toNat (ptp L A W) (ptr L A W)) := by
  have step : ∀ (i : Nat) (l : Int) (τ1 : xS), i < 3 → τ1.1 366 = τ.1 366 → (-3000 ≤ l ∧ l ≤ 3000) → X iM_parts 187 [(2, 305), w1, w2, w3, w4, w5, (1, L), (8, 0), (1, A), (8, 0), (1, l), (8, 0), (0, (i : Int)), w13] [] τ1 = X iM_parts 187 [(2, 305), w1, w2, w3, w4, w5, (1, L), (8, 0), (1, A), (8, 0), (1, l - ptp L A W i), (8, 0), (0, ((i + 1 : Nat) : Int)), w13] [] (xs (xs τ1 367 i (ptp L A W i)) 368 i (ptr L A W i)) := by
    intro i l τ1 hi e255 hl
    have hx : xin (i : Int) 3 := ⟨by omega, by omega⟩
    have hp := pt_in hL hA (hWA i hi)
    have h0 : 0 ≤ L * W i := Int.mul_nonneg hL.1 (hWA i hi).1
    have h1 : L * W i ≤ 1000 * W i := Int.mul_le_mul_of_nonneg_right hL.2 (hWA i hi).1
    have h2 := (hWA i hi).2
    rw [qM_parts_187, if_pos (by omega)]
    simp only [if_pos hx, Int.toNat_natCast]
    rw [e255, hW i hi, if_neg (by omega), if_neg (by omega), xW_id (x := L * W i) (by omega) (by omega), xW_id (x := Int.tdiv (L * W i) A) (by omega) (by omega), xs_at, xup_eq, xW_id (x := l - Int.tdiv (L * W i) A) (by omega) (by omega), xw_t (by omega)]
    rfl
  have p0 : 0 ≤ ptp L A W 0 ∧ ptp L A W 0 ≤ L := (pt_in hL hA (hWA 0 (by decide))).1
  have p1 : 0 ≤ ptp L A W 1 ∧ ptp L A W 1 ≤ L := (pt_in hL hA (hWA 1 (by decide))).1
  have p2 : 0 ≤ ptp L A W 2 ∧ ptp L A W 2 ≤ L := (pt_in hL hA (hWA 2 (by decide))).1
  have s0 := step 0 L τ (by decide) rfl (by omega)
  have s1 := step 1 (L - ptp L A W 0) (xs (xs τ 367 0 (ptp L A W 0)) 368 0 (ptr L A W 0)) (by decide) (by rw [xs_ne (by decide), xs_ne (by decide)]) (by omega)
  have s2 := step 2 (L - ptp L A W 0 - ptp L A W 1) (xs (xs (xs (xs τ 367 0 (ptp L A W 0)) 368 0 (ptr L A W 0)) 367 1 (ptp L A W 1)) 368 1 (ptr L A W 1)) (by decide) (by rw [xs_ne (by decide), xs_ne (by decide), xs_ne (by decide), xs_ne (by decide)]) (by omega)
  have e256 : eq3 ((xs (xs (xs (xs (xs (xs τ 367 0 (ptp L A W 0)) 368 0 (ptr L A W 0)) 367 1 (ptp L A W 1)) 368 1 (ptr L A W 1)) 367 2 (ptp L A W 2)) 368 2 (ptr L A W 2)).1 367) (ptp L A W) := by
    intro i hi
    rw [xs_ne (by decide), xs_at, xs_ne (by decide), xs_at, xs_ne (by decide), xs_at]
    have : i = 0 ∨ i = 1 ∨ i = 2 := by omega
    rcases this with rfl | rfl | rfl <;> rfl
  have e257 : eq3 ((xs (xs (xs (xs (xs (xs τ 367 0 (ptp L A W 0)) 368 0 (ptr L A W 0)) 367 1 (ptp L A W 1)) 368 1 (ptr L A W 1)) 367 2 (ptp L A W 2)) 368 2 (ptr L A W 2)).1 368) (ptr L A W) := by
    intro i hi
    rw [xs_at, xs_ne (by decide), xs_at, xs_ne (by decide), xs_at, xs_ne (by decide)]
    have : i = 0 ∨ i = 1 ∨ i = 2 := by omega
    rcases this with rfl | rfl | rfl <;> rfl
  have a3 : ag τ (xs (xs (xs (xs (xs (xs τ 367 0 (ptp L A W 0)) 368 0 (ptr L A W 0)) 367 1 (ptp L A W 1)) 368 1 (ptr L A W 1)) 367 2 (ptp L A W 2)) 368 2 (ptr L A W 2)) := ag_tr (ag_tr (ag_tr (ag_sS rfl) (ag_sS rfl)) (ag_tr (ag_sS rfl) (ag_sS rfl))) (ag_tr (ag_sS rfl) (ag_sS rfl))
  obtain ⟨τ', q1, q2, q3⟩ := M_pt_251 (ptl L A W).toNat (xs (xs (xs (xs (xs (xs τ 367 0 (ptp L A W 0)) 368 0 (ptr L A W 0)) 367 1 (ptp L A W 1)) 368 1 (ptr L A W 1)) 367 2 (ptp L A W 2)) 368 2 (ptr L A W 2)) w1 w2 w3 w4 w5 (1, L) (8, 0) (1, A) (8, 0) (0, 3) w13 (by omega) (fun j hj => by
    rw [e256 j hj]
    have : j = 0 ∨ j = 1 ∨ j = 2 := by omega
    rcases this with rfl | rfl | rfl <;> omega)
  refine ⟨τ', ?_, ag_tr a3 q2, fun i hi => by rw [q3 i hi]; exact bms_cg _ e256 e257 i hi⟩
  have s0 : X iM_parts 187 [(2, 305), w1, w2, w3, w4, w5, (1, L), (8, 0), (1, A), (8, 0), (1, L), (8, 0), (0, 0), w13] [] τ = _ := s0
  rw [s0, s1, s2, qM_parts_187, if_neg (by decide)]
  rw [show ((((ptl L A W).toNat : Nat)) : Int) = ptl L A W by omega] at q1
  exact q1
end PARTB

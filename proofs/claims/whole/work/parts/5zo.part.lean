/-! parts of a loss -/
def eq3 (f g : Nat → Int) : Prop := ∀ i, i < 3 → f i = g i
/-- the greatest rest, the first of several -/
def gr (r : Nat → Int) : Nat := if r (if r 0 < r 1 then 1 else 0) < r 2 then 2 else if r 0 < r 1 then 1 else 0
theorem gr_lt (r : Nat → Int) : gr r < 3 := by
  unfold gr
  by_cases c : r 0 < r 1
  · rw [if_pos c]
    split <;> decide
  · rw [if_neg c]
    split <;> decide
theorem gr_cg {r s : Nat → Int} (h : eq3 r s) : gr r = gr s := by
  unfold gr
  rw [h 0 (by decide), h 1 (by decide), h 2 (by decide)]
  by_cases c : s 0 < s 1
  · rw [if_pos c, h 1 (by decide)]
  · rw [if_neg c, h 0 (by decide)]
/-- one more to the greatest rest, so often -/
def bms : Nat → (Nat → Int) → (Nat → Int) → Nat → Int
  | 0, p, _ => p
  | n + 1, p, r => bms n (xup p (gr r) (p (gr r) + 1)) (xup r (gr r) (-1))
theorem xup_3 {f g : Nat → Int} (h : eq3 f g) (k : Nat) (v : Int) : eq3 (xup f k v) (xup g k v) := fun i hi => by rw [xup_at, xup_at, h i hi]
theorem bms_cg : ∀ (n : Nat) {p q r s : Nat → Int}, eq3 p q → eq3 r s → eq3 (bms n p r) (bms n q s)
  | 0, _, _, _, _, h, _ => h
  | n + 1, p, q, r, s, h, g => by
    show eq3 (bms n (xup p (gr r) (p (gr r) + 1)) (xup r (gr r) (-1))) (bms n (xup q (gr s) (q (gr s) + 1)) (xup s (gr s) (-1)))
    rw [gr_cg g, h (gr s) (gr_lt s)]
    exact bms_cg n (xup_3 h _ _) (xup_3 g _ _)
def ptp (L A : Int) (W : Nat → Int) : Nat → Int := fun i => Int.tdiv (L * W i) A
def ptr (L A : Int) (W : Nat → Int) : Nat → Int := fun i => Int.tmod (L * W i) A
def ptl (L A : Int) (W : Nat → Int) : Int := L - ptp L A W 0 - ptp L A W 1 - ptp L A W 2
/-- how a loss is parted -/
def ptf (L : Int) (W : Nat → Int) (who : Nat) : Int := if W 0 + W 1 + W 2 = 0 then (if who = 2 then L else 0) else bms (ptl L (W 0 + W 1 + W 2) W).toNat (ptp L (W 0 + W 1 + W 2) W) (ptr L (W 0 + W 1 + W 2) W) who
theorem pt_in {L A w : Int} (hL : 0 ≤ L ∧ L ≤ 1000) (hA : 0 < A) (hw : 0 ≤ w ∧ w ≤ A) : (0 ≤ Int.tdiv (L * w) A ∧ Int.tdiv (L * w) A ≤ L) ∧ (0 ≤ Int.tmod (L * w) A ∧ Int.tmod (L * w) A < A) ∧ L * w = Int.tdiv (L * w) A * A + Int.tmod (L * w) A := by
  have h0 : 0 ≤ L * w := Int.mul_nonneg hL.1 hw.1
  have h1 : L * w ≤ L * A := Int.mul_le_mul_of_nonneg_left hw.2 hL.1
  rw [Int.tdiv_eq_ediv_of_nonneg h0, Int.tmod_eq_emod_of_nonneg h0]
  refine ⟨⟨Int.ediv_nonneg h0 (by omega), ?_⟩, ⟨Int.emod_nonneg _ (by omega), Int.emod_lt_of_pos _ hA⟩, ?_⟩
  · have h2 : L * w / A ≤ L * A / A := Int.ediv_le_ediv hA h1
    rw [Int.mul_ediv_cancel _ (by omega)] at h2
    exact h2
  · have := Int.mul_ediv_add_emod (L * w) A
    rw [Int.mul_comm (L * w / A) A]
    omega
theorem pt_left {L : Int} {W : Nat → Int} (hL : 0 ≤ L ∧ L ≤ 1000) (h0 : 0 ≤ W 0) (h1 : 0 ≤ W 1) (h2 : 0 ≤ W 2) (hA : 0 < W 0 + W 1 + W 2) : 0 ≤ ptl L (W 0 + W 1 + W 2) W ∧ ptl L (W 0 + W 1 + W 2) W ≤ 2 := by
  have a0 := pt_in hL hA (w := W 0) (by omega)
  have a1 := pt_in hL hA (w := W 1) (by omega)
  have a2 := pt_in hL hA (w := W 2) (by omega)
  unfold ptl ptp
  have hs : L * W 0 + L * W 1 + L * W 2 = L * (W 0 + W 1 + W 2) := by rw [Int.mul_add, Int.mul_add]
  generalize W 0 + W 1 + W 2 = A at *
  generalize Int.tdiv (L * W 0) A = p0 at *
  generalize Int.tdiv (L * W 1) A = p1 at *
  generalize Int.tdiv (L * W 2) A = p2 at *
  generalize Int.tmod (L * W 0) A = r0 at *
  generalize Int.tmod (L * W 1) A = r1 at *
  generalize Int.tmod (L * W 2) A = r2 at *
  have e : (L - p0 - p1 - p2) * A = r0 + r1 + r2 := by
    rw [Int.sub_mul, Int.sub_mul, Int.sub_mul]
    omega
  constructor
  · have : 0 ≤ (L - p0 - p1 - p2) * A := by omega
    exact Int.nonneg_of_mul_nonneg_left this hA
  · have h3 : (L - p0 - p1 - p2) * A < 3 * A := by omega
    have := Int.lt_of_mul_lt_mul_right h3 (by omega)
    omega
/-- weights, loss -/
def wtj (m : Nat → Nat → Int) (d i : Int) : Int := if te_f m d < 0 then -1 else lp (fun j => m 344 ((m 341 (te_f m d).toNat).toNat + j) = 2 ∧ m 345 ((m 341 (te_f m d).toNat).toNat + j) = i) (m 342 (te_f m d).toNat).toNat
def mx0 (x : Int) : Int := if x < 0 then 0 else x
def wtv (m : Nat → Nat → Int) (s d k : Int) (i : Nat) : Int := if wtj m d i < 0 then (if i = 0 then 1 else 0) else mx0 (sv m (hPl m s d k) (m 341 (te_f m d).toNat).toNat (wtj m d i).toNat)
def lsv (m : Nat → Nat → Int) (s d k : Int) : Int := Int.tdiv (m 310 (m 315 s.toNat).toNat * mx0 (m 309 (m 315 s.toNat).toNat - bk_wa m s d k)) (m 309 (m 315 s.toNat).toNat)
section PART
variable {σ : xS}
theorem mx0_bd {x B : Int} (h : x ≤ B) (hB : 0 ≤ B) : 0 ≤ mx0 x ∧ mx0 x ≤ B := by
  unfold mx0
  split <;> omega
theorem wtj_ag {τ : xS} (h : ag σ τ) (d i : Int) : wtj τ.1 d i = wtj σ.1 d i := by
  unfold wtj
  rw [te_f_ag h, (te_st_ag h).2.1 344 (by omega), (te_st_ag h).2.1 345 (by omega), (te_st_ag h).2.1 341 (by omega), (te_st_ag h).2.1 342 (by omega)]
theorem wtv_ag {τ : xS} (h : ag σ τ) (s d k : Int) : wtv τ.1 s d k = wtv σ.1 s d k := by
  funext i
  unfold wtv
  rw [wtj_ag h, te_f_ag h, sv_ag h, hPl_ag h, (te_st_ag h).2.1 341 (by omega)]
theorem lsv_ag {τ : xS} (h : ag σ τ) (s d k : Int) : lsv τ.1 s d k = lsv σ.1 s d k := by
  unfold lsv
  rw [bk_wa_ag h, h.cl (a := 310) (by omega), h.cl (a := 309) (by omega), h.cl (a := 315) (by omega)]
theorem wtj_lt (hJ : te_J σ.1 σ.2.1) {d : Int} {F M T N : Nat} {cs : Nat → Nat} (h0 : ¬ te_f σ.1 d < 0) (hB : te_B σ.1 σ.2.1 (te_f σ.1 d).toNat F M T N cs) (i : Int) : wtj σ.1 d i = lp (fun j => σ.1 344 (F + j) = 2 ∧ σ.1 345 (F + j) = i) M ∧ -1 ≤ wtj σ.1 d i ∧ wtj σ.1 d i < M ∧ (0 ≤ wtj σ.1 d i → σ.1 344 (F + (wtj σ.1 d i).toNat) = 2) := by
  have e : wtj σ.1 d i = lp (fun j => σ.1 344 (F + j) = 2 ∧ σ.1 345 (F + j) = i) M := by
    unfold wtj
    rw [if_neg h0, hB.1.1, hB.1.2.1, Int.toNat_natCast, Int.toNat_natCast]
  have h := lp_lt (p := fun j => σ.1 344 (F + j) = 2 ∧ σ.1 345 (F + j) = i) (D := fun _ => inferInstance) (n := M)
  refine ⟨e, ?_⟩
  rw [e]
  exact ⟨h.1, h.2.1, fun q => (h.2.2 q).1⟩
theorem wtv_bd (hP : pJ σ.1) (hJ : te_J σ.1 σ.2.1) {s d k : Int} (hs : 0 ≤ s ∧ s < σ.1 305 15) (hd : 0 ≤ d ∧ d ≤ 2000) (i : Nat) : 0 ≤ wtv σ.1 s d k i ∧ wtv σ.1 s d k i ≤ 1000000000000 := by
  have hf := te_f_lt hJ d
  unfold wtv
  by_cases c : wtj σ.1 d i < 0
  · rw [if_pos c]
    split <;> decide
  · rw [if_neg c]
    have ht : ¬ te_f σ.1 d < 0 := fun q => c (by unfold wtj; rw [if_pos q]; decide)
    obtain ⟨_, F, M, T, N, cs, hB⟩ := hJ.2.2.2.2 _ (hf.2.2 (by omega))
    obtain ⟨e1, e2, e3, e4⟩ := wtj_lt hJ ht hB i
    rw [hB.1.1, Int.toNat_natCast]
    exact mx0_bd (sv_bd hB (hPl_bd hP (k := k) hs hd) (by omega) (by rw [e4 (by omega)]; decide)).2 (by decide)
theorem lsv_bd (hP : pJ σ.1) {s d k : Int} (hs : 0 ≤ s ∧ s < σ.1 305 15) : (0 ≤ lsv σ.1 s d k ∧ lsv σ.1 s d k ≤ 1000) ∧ xin (σ.1 315 s.toNat) 6 ∧ (1 ≤ σ.1 309 (σ.1 315 s.toNat).toNat ∧ σ.1 309 (σ.1 315 s.toNat).toNat ≤ 250) ∧ (1 ≤ σ.1 310 (σ.1 315 s.toNat).toNat ∧ σ.1 310 (σ.1 315 s.toNat).toNat ≤ 1000) ∧ (0 ≤ mx0 (σ.1 309 (σ.1 315 s.toNat).toNat - bk_wa σ.1 s d k) ∧ mx0 (σ.1 309 (σ.1 315 s.toNat).toNat - bk_wa σ.1 s d k) ≤ σ.1 309 (σ.1 315 s.toNat).toNat) ∧ (0 ≤ σ.1 310 (σ.1 315 s.toNat).toNat * mx0 (σ.1 309 (σ.1 315 s.toNat).toNat - bk_wa σ.1 s d k) ∧ σ.1 310 (σ.1 315 s.toNat).toNat * mx0 (σ.1 309 (σ.1 315 s.toNat).toNat - bk_wa σ.1 s d k) ≤ 250000) := by
  have hB := hP.2.2.1
  have h2 := hB.1.2
  obtain ⟨c1, c2, c3⟩ := hB.2.2.2.2.2.2 s.toNat (by omega)
  have h6 := hP.1.2.1
  have hw := bk_wa_bd hB.1 s d k
  obtain ⟨b1, b2, b3, b4, b5⟩ := hP.1.2.2 (σ.1 315 s.toNat).toNat (by omega)
  have hm := mx0_bd (x := σ.1 309 (σ.1 315 s.toNat).toNat - bk_wa σ.1 s d k) (B := σ.1 309 (σ.1 315 s.toNat).toNat) (by omega) (by omega)
  unfold lsv
  generalize σ.1 309 (σ.1 315 s.toNat).toNat = life at *
  generalize σ.1 310 (σ.1 315 s.toNat).toNat = worth at *
  generalize mx0 (life - bk_wa σ.1 s d k) = x at *
  have p0 : 0 ≤ worth * x := Int.mul_nonneg (by omega) (by omega)
  have p1 : worth * x ≤ worth * life := Int.mul_le_mul_of_nonneg_left hm.2 (by omega)
  have p2 : worth * life ≤ 1000 * life := Int.mul_le_mul_of_nonneg_right b5.2 (by omega)
  refine ⟨?_, ⟨by omega, by omega⟩, b4, b5, hm, p0, by omega⟩
  rw [Int.tdiv_eq_ediv_of_nonneg p0]
  refine ⟨Int.ediv_nonneg p0 (by omega), ?_⟩
  have h3 : worth * x / life ≤ 1000 * life / life := Int.ediv_le_ediv (by omega) (by omega)
  rw [Int.mul_ediv_cancel _ (by omega)] at h3
  exact h3
/-! the class -/
theorem C_gr : X iLedger_greatestRest 0 [(2, 243), (9, 0), (9, 0)] [] σ = some ((0, (gr (σ.1 257) : Int)), σ) := by
  have w1 : xw ((1 : Int) + 1) = 2 := rfl
  have w2 : xw ((2 : Int) + 1) = 3 := rfl
  rw [qLedger_greatestRest_0, qLedger_greatestRest_4, if_pos (by decide), if_pos (xin_of (by decide) (by decide)), if_pos (xin_of (by decide) (by decide)), w1]
  unfold gr
  show (if σ.1 257 0 < σ.1 257 1 then _ else _) = _
  by_cases c : σ.1 257 0 < σ.1 257 1
  · rw [if_pos c, if_pos c, qLedger_greatestRest_4, if_pos (by decide), if_pos (xin_of (by decide) (by decide)), if_pos (xin_of (by decide) (by decide)), w2]
    show (if σ.1 257 1 < σ.1 257 2 then _ else _) = _
    by_cases d : σ.1 257 1 < σ.1 257 2
    · rw [if_pos d, if_pos d, qLedger_greatestRest_4, if_neg (by decide)]
      rfl
    · rw [if_neg d, if_neg d, qLedger_greatestRest_4, if_neg (by decide)]
      rfl
  · rw [if_neg c, if_neg c, qLedger_greatestRest_4, if_pos (by decide), if_pos (xin_of (by decide) (by decide)), if_pos (xin_of (by decide) (by decide)), w2]
    show (if σ.1 257 0 < σ.1 257 2 then _ else _) = _
    by_cases d : σ.1 257 0 < σ.1 257 2
    · rw [if_pos d, if_pos d, qLedger_greatestRest_4, if_neg (by decide)]
      rfl
    · rw [if_neg d, if_neg d, qLedger_greatestRest_4, if_neg (by decide)]
      rfl
theorem C_pv_111 {who : Nat} (hw : who < 3) (w1 w3 w4 : xAV) {left : Int} (hl : 0 ≤ left ∧ left ≤ 2) : ∀ (n i : Nat) (τ : xS) (w8 : xAV), (i : Int) + n = left → (∀ j, j < 3 → 0 ≤ τ.1 256 j ∧ τ.1 256 j ≤ 1000 + (i : Int)) → ∃ τ', X iLedger_partOfValue 111 [(2, 243), w1, (0, (who : Int)), w3, w4, (1, left), (8, 0), (0, (i : Int)), w8] [] τ = some ((1, bms n (τ.1 256) (τ.1 257) who), τ') ∧ ag τ τ' := by
  have hx : xin (who : Int) 3 := ⟨by omega, by omega⟩
  intro n
  induction n with
  | zero =>
    intro i τ w8 hi hb
    refine ⟨τ, ?_, ag_rf τ⟩
    rw [qLedger_partOfValue_111, if_pos (by omega), if_neg (by omega), if_pos hx, Int.toNat_natCast]
    rfl
  | succ n ih =>
    intro i τ w8 hi hb
    have hg := gr_lt (τ.1 257)
    have hxg : xin (gr (τ.1 257) : Int) 3 := ⟨by omega, by omega⟩
    have hbg := hb _ hg
    rw [qLedger_partOfValue_111, if_pos (by omega), if_pos (by omega), C_gr, Option.bind_some, qLedger_partOfValue_130, if_pos hxg, if_pos hxg, if_pos hxg, Int.toNat_natCast, xW_id (x := τ.1 256 (gr (τ.1 257)) + 1) (by omega) (by omega), xw_t (by omega)]
    obtain ⟨τ', q1, q2⟩ := ih (i + 1) (xs (xs τ 256 (gr (τ.1 257)) (τ.1 256 (gr (τ.1 257)) + 1)) 257 (gr (τ.1 257)) (-1)) _ (by omega) (fun j hj => by
      rw [xs_ne (by decide), xs_at, xup_at]
      have := hb j hj
      split <;> omega)
    refine ⟨τ', ?_, ag_tr (ag_tr (ag_sS rfl) (ag_sS rfl)) q2⟩
    rw [q1]
    rw [xs_at, xs_ne (a := 257) (b := 256) (by decide), xs_at, xs_ne (a := 256) (b := 257) (by decide)]
    rfl
theorem C_pv_46 {who : Nat} (hw : who < 3) {L A : Int} {W : Nat → Int} (hL : 0 ≤ L ∧ L ≤ 1000) (hA : 0 < A) (hWA : ∀ i, i < 3 → 0 ≤ W i ∧ W i ≤ A) (hA2 : A ≤ 3000000000000) (hlf : 0 ≤ ptl L A W ∧ ptl L A W ≤ 2) {τ : xS} (hW : ∀ i, i < 3 → τ.1 255 i = W i) (w8 : xAV) : ∃ τ', X iLedger_partOfValue 46 [(2, 243), (0, L), (0, (who : Int)), (1, A), (8, 0), (1, L), (8, 0), (0, 0), w8] [] τ = some ((1, bms (ptl L A W).toNat (ptp L A W) (ptr L A W) who), τ') ∧ ag τ τ' := by
  have step : ∀ (i : Nat) (l : Int) (τ1 : xS), i < 3 → ag τ τ1 → τ1.1 255 = τ.1 255 → (0 ≤ l ∧ l ≤ 1000 ∨ -3000 ≤ l ∧ l ≤ 3000) → X iLedger_partOfValue 46 [(2, 243), (0, L), (0, (who : Int)), (1, A), (8, 0), (1, l), (8, 0), (0, (i : Int)), w8] [] τ1 = X iLedger_partOfValue 46 [(2, 243), (0, L), (0, (who : Int)), (1, A), (8, 0), (1, l - ptp L A W i), (8, 0), (0, ((i + 1 : Nat) : Int)), w8] [] (xs (xs τ1 256 i (ptp L A W i)) 257 i (ptr L A W i)) := by
    intro i l τ1 hi ha e255 hl
    have hx : xin (i : Int) 3 := ⟨by omega, by omega⟩
    have hp := pt_in hL hA (hWA i hi)
    have h0 : 0 ≤ L * W i := Int.mul_nonneg hL.1 (hWA i hi).1
    have h1 : L * W i ≤ 1000 * W i := Int.mul_le_mul_of_nonneg_right hL.2 (hWA i hi).1
    have h2 := (hWA i hi).2
    rw [qLedger_partOfValue_46, if_pos (by omega)]
    simp only [if_pos hx, Int.toNat_natCast]
    rw [e255, hW i hi, if_neg (by omega), if_neg (by omega), xW_id (x := L * W i) (by omega) (by omega), xW_id (x := Int.tdiv (L * W i) A) (by omega) (by omega), xs_at, xup_eq, xW_id (x := l - Int.tdiv (L * W i) A) (by omega) (by omega), xw_t (by omega)]
    rfl
  have p0 := (pt_in hL hA (hWA 0 (by decide))).1
  have p1 := (pt_in hL hA (hWA 1 (by decide))).1
  have p2 := (pt_in hL hA (hWA 2 (by decide))).1
  have p0 : 0 ≤ ptp L A W 0 ∧ ptp L A W 0 ≤ L := p0
  have p1 : 0 ≤ ptp L A W 1 ∧ ptp L A W 1 ≤ L := p1
  have p2 : 0 ≤ ptp L A W 2 ∧ ptp L A W 2 ≤ L := p2
  have s0 := step 0 L τ (by decide) (ag_rf τ) rfl (by omega)
  have a1 : ag τ (xs (xs τ 256 0 (ptp L A W 0)) 257 0 (ptr L A W 0)) := ag_tr (ag_sS rfl) (ag_sS rfl)
  have s1 := step 1 (L - ptp L A W 0) (xs (xs τ 256 0 (ptp L A W 0)) 257 0 (ptr L A W 0)) (by decide) a1 (by rw [xs_ne (by decide), xs_ne (by decide)]) (by omega)
  have a2 : ag τ (xs (xs (xs (xs τ 256 0 (ptp L A W 0)) 257 0 (ptr L A W 0)) 256 1 (ptp L A W 1)) 257 1 (ptr L A W 1)) := ag_tr a1 (ag_tr (ag_sS rfl) (ag_sS rfl))
  have s2 := step 2 (L - ptp L A W 0 - ptp L A W 1) (xs (xs (xs (xs τ 256 0 (ptp L A W 0)) 257 0 (ptr L A W 0)) 256 1 (ptp L A W 1)) 257 1 (ptr L A W 1)) (by decide) a2 (by rw [xs_ne (by decide), xs_ne (by decide), xs_ne (by decide), xs_ne (by decide)]) (by omega)
  have e256 : eq3 ((xs (xs (xs (xs (xs (xs τ 256 0 (ptp L A W 0)) 257 0 (ptr L A W 0)) 256 1 (ptp L A W 1)) 257 1 (ptr L A W 1)) 256 2 (ptp L A W 2)) 257 2 (ptr L A W 2)).1 256) (ptp L A W) := by
    intro i hi
    rw [xs_ne (by decide), xs_at, xs_ne (by decide), xs_at, xs_ne (by decide), xs_at]
    have : i = 0 ∨ i = 1 ∨ i = 2 := by omega
    rcases this with rfl | rfl | rfl <;> rfl
  have e257 : eq3 ((xs (xs (xs (xs (xs (xs τ 256 0 (ptp L A W 0)) 257 0 (ptr L A W 0)) 256 1 (ptp L A W 1)) 257 1 (ptr L A W 1)) 256 2 (ptp L A W 2)) 257 2 (ptr L A W 2)).1 257) (ptr L A W) := by
    intro i hi
    rw [xs_at, xs_ne (by decide), xs_at, xs_ne (by decide), xs_at, xs_ne (by decide)]
    have : i = 0 ∨ i = 1 ∨ i = 2 := by omega
    rcases this with rfl | rfl | rfl <;> rfl
  have a3 : ag τ (xs (xs (xs (xs (xs (xs τ 256 0 (ptp L A W 0)) 257 0 (ptr L A W 0)) 256 1 (ptp L A W 1)) 257 1 (ptr L A W 1)) 256 2 (ptp L A W 2)) 257 2 (ptr L A W 2)) := ag_tr a2 (ag_tr (ag_sS rfl) (ag_sS rfl))
  obtain ⟨τ', q1, q2⟩ := C_pv_111 hw (0, L) (1, A) (8, 0) hlf (ptl L A W).toNat 0 (xs (xs (xs (xs (xs (xs τ 256 0 (ptp L A W 0)) 257 0 (ptr L A W 0)) 256 1 (ptp L A W 1)) 257 1 (ptr L A W 1)) 256 2 (ptp L A W 2)) 257 2 (ptr L A W 2)) w8 (by omega) (fun j hj => by
    rw [e256 j hj]
    have : j = 0 ∨ j = 1 ∨ j = 2 := by omega
    rcases this with rfl | rfl | rfl <;> omega)
  refine ⟨τ', ?_, ag_tr a3 q2⟩
  have s0 : X iLedger_partOfValue 46 [(2, 243), (0, L), (0, (who : Int)), (1, A), (8, 0), (1, L), (8, 0), (0, 0), w8] [] τ = _ := s0
  rw [s0, s1, s2, qLedger_partOfValue_46, if_neg (by decide)]
  refine q1.trans ?_
  rw [bms_cg _ e256 e257 who hw]
theorem C_partOfValue {who : Nat} (hw : who < 3) {L : Int} {W : Nat → Int} (hL : 0 ≤ L ∧ L ≤ 1000) (hb : ∀ i, i < 3 → 0 ≤ W i ∧ W i ≤ 1000000000000) {τ : xS} (hW : ∀ i, i < 3 → τ.1 255 i = W i) : ∃ τ', X iLedger_partOfValue 0 [(2, 243), (0, L), (0, (who : Int)), (9, 0), (9, 0), (9, 0), (9, 0), (9, 0), (9, 0)] [] τ = some ((1, ptf L W who), τ') ∧ ag τ τ' := by
  have b0 := hb 0 (by decide)
  have b1 := hb 1 (by decide)
  have b2 := hb 2 (by decide)
  rw [qLedger_partOfValue_0, hW 0 (by decide), hW 1 (by decide), hW 2 (by decide), xW_id (x := W 0 + W 1) (by omega) (by omega), xW_id (by omega) (by omega)]
  unfold ptf
  by_cases c : W 0 + W 1 + W 2 = 0
  · rw [if_pos c, if_neg (by omega)]
    by_cases e : who = 2
    · rw [if_pos (by omega), if_pos e]
      exact ⟨τ, rfl, ag_rf τ⟩
    · rw [if_neg (by omega), if_neg e]
      exact ⟨τ, rfl, ag_rf τ⟩
  · rw [if_neg c, if_pos (by omega)]
    exact C_pv_46 hw hL (by omega) (fun i hi => by
      have : i = 0 ∨ i = 1 ∨ i = 2 := by omega
      rcases this with rfl | rfl | rfl <;> omega) (by omega) (pt_left hL b0.1 b1.1 b2.1 (by omega)) hW _
end PART

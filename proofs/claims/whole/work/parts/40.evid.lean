/-! evidence: misses, doubt, counts -/
theorem M_min {σ : xS} (a b : Int) : X iM_min 0 [(0, a), (0, b)] [] σ = some ((0, if a < b then a else b), σ) := by
  rw [qM_min_0]
  split <;> rfl
theorem M_max {σ : xS} (a b : Int) : X iM_max 0 [(0, a), (0, b)] [] σ = some ((0, if b < a then a else b), σ) := by
  rw [qM_max_0]
  split <;> rfl
def ev_cb (m : Nat → Nat → Int) (h y d k : Int) : Nat → Int
  | 0 => 0
  | n + 1 => ev_cb m h y d k n + if m 330 n = h ∧ m 332 n ≤ k ∧ y < m 331 n ∧ m 331 n ≤ d then 1 else 0
theorem ev_cb_le {m : Nat → Nat → Int} {h y d k : Int} : ∀ {n : Nat}, 0 ≤ ev_cb m h y d k n ∧ ev_cb m h y d k n ≤ n
  | 0 => ⟨Int.le_refl _, Int.le_refl _⟩
  | n + 1 => by
    have := ev_cb_le (m := m) (h := h) (y := y) (d := d) (k := k) (n := n)
    show 0 ≤ ev_cb m h y d k n + _ ∧ ev_cb m h y d k n + _ ≤ ((n + 1 : Nat) : Int)
    split <;> omega
def cap12 (x : Int) : Int := if 12 < x then 12 else x
def ev_mi (m : Nat → Nat → Int) (s d k : Int) : Int := if bk_pl m s d k < 10 then 0 else cap12 (ev_cb m (bk_pl m s d k - 10) (bk_si m s d k) d k (m 305 36).toNat)
theorem ev_mi_le {m : Nat → Nat → Int} {s d k : Int} : 0 ≤ ev_mi m s d k ∧ ev_mi m s d k ≤ 12 := by
  unfold ev_mi cap12
  have := (ev_cb_le (m := m) (h := bk_pl m s d k - 10) (y := bk_si m s d k) (d := d) (k := k) (n := (m 305 36).toNat)).1
  split
  · omega
  · split <;> omega
section EVID
variable {σ : xS}
theorem bk_pl_le (hV : bk_V σ.1) (hH : ho_J σ.1) (s d k : Int) : 0 ≤ bk_pl σ.1 s d k ∧ bk_pl σ.1 s d k < 18 ∧ (10 ≤ bk_pl σ.1 s d k → bk_pl σ.1 s d k < 10 + σ.1 305 11) := by
  unfold bk_pl
  have h11 := hH.2.1
  split
  · omega
  · have h2 := bk_last_lt (m := σ.1) (s := s) (d := d) (k := k)
    have := (hV.2.2.1 (bk_last σ.1 s d k).toNat (by omega)).2.2.1
    omega
theorem M_missesOf_33 (hE : ev_J σ.1) {h y d k : Int} (hh : 0 ≤ h ∧ h < 18) (w1 : xAV) : ∀ (t i : Nat), i + t = (σ.1 305 36).toNat → X iM_missesOf 33 [(2, 305), w1, (0, d), (0, k), (0, h), (0, y), (0, ev_cb σ.1 (h - 10) y d k i), (0, (i : Int))] [] σ = some ((0, cap12 (ev_cb σ.1 (h - 10) y d k (σ.1 305 36).toNat)), σ) := by
  intro t
  have h36 := hE.2.2.1
  induction t with
  | zero =>
    intro i hi
    rw [qM_missesOf_33, if_neg (by omega), M_min, Option.bind_some, qM_missesOf_107, show i = (σ.1 305 36).toNat by omega]
    rfl
  | succ t ih =>
    intro i hi
    have hx : xin (i : Int) 60 := ⟨by omega, by omega⟩
    have nx : xw ((i : Int) + 1) = ((i + 1 : Nat) : Int) := by rw [xw_id (by omega) (by omega)]; omega
    have hl := ev_cb_le (m := σ.1) (h := h - 10) (y := y) (d := d) (k := k) (n := i)
    have nc : xw (ev_cb σ.1 (h - 10) y d k i + 1) = ev_cb σ.1 (h - 10) y d k i + 1 := xw_id (by omega) (by omega)
    have k1 := ih (i + 1) (by omega)
    rw [show ev_cb σ.1 (h - 10) y d k (i + 1) = ev_cb σ.1 (h - 10) y d k i + if σ.1 330 i = h - 10 ∧ σ.1 332 i ≤ k ∧ y < σ.1 331 i ∧ σ.1 331 i ≤ d then 1 else 0 from rfl] at k1
    rw [qM_missesOf_33, if_pos (by omega)]
    simp only [if_pos hx, Int.toNat_natCast, nx, nc]
    rw [xw_id (x := h - 10) (by omega) (by omega)]
    by_cases hc : σ.1 330 i = h - 10 ∧ σ.1 332 i ≤ k ∧ y < σ.1 331 i ∧ σ.1 331 i ≤ d
    · rw [if_pos hc] at k1
      rw [if_pos hc.1, if_neg (by omega), if_pos hc.2.2.1, if_neg (by omega)]
      exact k1
    · rw [if_neg hc, Int.add_zero] at k1
      repeat' split
      all_goals first | exact k1 | (exfalso; omega)
theorem M_missesOf (hP : pJ σ.1) {s : Int} (hs : xin s 150) (d k : Int) : X iM_missesOf 0 [(2, 305), (0, s), (0, d), (0, k), (9, 0), (9, 0), (9, 0), (9, 0)] [] σ = some ((0, ev_mi σ.1 s d k), σ) := by
  have hB := hP.2.2.1
  have hpl := bk_pl_le hB.2.2.2 hP.2.1 s d k
  rw [qM_missesOf_0, M_placeOf hB.1, Option.bind_some, qM_missesOf_7]
  unfold ev_mi
  by_cases h : bk_pl σ.1 s d k < 10
  · rw [if_pos h, if_pos h]
  · rw [if_neg h, if_neg h, M_sinceOf hB.1 hs, Option.bind_some, qM_missesOf_25]
    exact M_missesOf_33 hP.2.2.2.2.1 ⟨hpl.1, hpl.2.1⟩ _ (σ.1 305 36).toNat 0 (by omega)
theorem E_missesOf_56 (hP : pJ σ.1) {q h d k : Int} (hq : xin q 600) (w1 : xAV) : ∀ (t i : Nat), i + t = (σ.1 305 36).toNat → X iEvidence_missesOf 56 [(2, 229), w1, (0, d), (0, k), (0, q), (0, h), (0, ev_cb σ.1 h (σ.1 319 q.toNat) d k i), (0, (i : Int))] [] σ = some ((0, cap12 (ev_cb σ.1 h (σ.1 319 q.toNat) d k (σ.1 305 36).toNat)), σ) := by
  intro t
  have hE := hP.2.2.2.2.1
  have h36 := hE.2.2.1
  obtain ⟨e1, e2, e3, e4, e5, e6⟩ := hE.1
  have e7 := hP.2.2.1.2.1.1.2.1
  induction t with
  | zero =>
    intro i hi
    rw [qEvidence_missesOf_56, if_neg (by rw [e6]; omega), show i = (σ.1 305 36).toNat by omega]
    rfl
  | succ t ih =>
    intro i hi
    have hx : xin (i : Int) 60 := ⟨by omega, by omega⟩
    have nx : xw ((i : Int) + 1) = ((i + 1 : Nat) : Int) := by rw [xw_id (by omega) (by omega)]; omega
    have hl := ev_cb_le (m := σ.1) (h := h) (y := σ.1 319 q.toNat) (d := d) (k := k) (n := i)
    have nc : xw (ev_cb σ.1 h (σ.1 319 q.toNat) d k i + 1) = ev_cb σ.1 h (σ.1 319 q.toNat) d k i + 1 := xw_id (by omega) (by omega)
    have nc0 : xw (ev_cb σ.1 h (σ.1 319 q.toNat) d k i + 0) = ev_cb σ.1 h (σ.1 319 q.toNat) d k i := by rw [xw_id (by omega) (by omega)]; omega
    have k1 := ih (i + 1) (by omega)
    rw [show ev_cb σ.1 h (σ.1 319 q.toNat) d k (i + 1) = ev_cb σ.1 h (σ.1 319 q.toNat) d k i + if σ.1 330 i = h ∧ σ.1 332 i ≤ k ∧ σ.1 319 q.toNat < σ.1 331 i ∧ σ.1 331 i ≤ d then 1 else 0 from rfl] at k1
    rw [qEvidence_missesOf_56, if_pos (by rw [e6]; omega)]
    simp only [if_pos hx, if_pos hq, Int.toNat_natCast, nx, nc, nc0, e3, e4, e5, e7]
    by_cases hc : σ.1 330 i = h ∧ σ.1 332 i ≤ k ∧ σ.1 319 q.toNat < σ.1 331 i ∧ σ.1 331 i ≤ d
    · rw [if_pos hc] at k1
      rw [if_pos hc.1, if_neg (by omega), if_pos hc.2.2.1, if_neg (by omega)]
      exact k1
    · rw [if_neg hc, Int.add_zero] at k1
      repeat' split
      all_goals first | exact k1 | (exfalso; omega)
theorem E_missesOf (hP : pJ σ.1) {s : Int} (hs : 0 ≤ s ∧ s < σ.1 305 15) (d k : Int) : X iEvidence_missesOf 0 [(2, 229), (0, s), (0, d), (0, k), (9, 0), (9, 0), (9, 0), (9, 0)] [] σ = some ((0, ev_mi σ.1 s d k), σ) := by
  have hB := hP.2.2.1
  have hpl := bk_pl_le hB.2.2.2 hP.2.1 s d k
  have hN : ((bk_n σ.1 : Nat) : Int) = σ.1 305 22 := Int.toNat_of_nonneg hB.1.1.1
  have h2 := bk_last_lt (m := σ.1) (s := s) (d := d) (k := k)
  have h3 := (bk_lf_lt (m := σ.1) (s := s) (p := bk_H σ.1 d k) (n := bk_n σ.1)).2
  have h3 : -1 ≤ bk_last σ.1 s d k := h3
  rw [qEvidence_missesOf_0, B_lastOf hB hs, Option.bind_some, qEvidence_missesOf_10]
  unfold ev_mi
  by_cases h : bk_last σ.1 s d k < 0
  · have e0 : bk_pl σ.1 s d k = 0 := if_pos h
    rw [if_pos (by omega), e0, if_pos (by decide)]
  · have e0 : bk_pl σ.1 s d k = σ.1 320 (bk_last σ.1 s d k).toNat := if_neg h
    have e1 : bk_si σ.1 s d k = σ.1 319 (bk_last σ.1 s d k).toNat := if_neg h
    have hx : xin (bk_last σ.1 s d k) 600 := ⟨by omega, by have := hB.1.1.2; omega⟩
    rw [if_neg (by omega), if_pos hx, if_pos hx, hB.2.1.1.2.2.1, ← e0]
    by_cases h4 : bk_pl σ.1 s d k < 10
    · rw [if_pos h4, if_pos h4]
    · rw [if_neg h4, if_neg h4, xw_id (by omega) (by omega), e1]
      exact E_missesOf_56 hP hx _ (σ.1 305 36).toNat 0 (by omega)
/-- doubt -/
def pw (b : Int) : Nat → Int
  | 0 => 1
  | n + 1 => pw b n * b
theorem pw_le {b : Int} (hb : 0 ≤ b ∧ b ≤ 15) : ∀ n : Nat, 0 ≤ pw b n ∧ pw b n ≤ pw 15 n
  | 0 => ⟨by show (0 : Int) ≤ 1; decide, Int.le_refl _⟩
  | n + 1 => by
    have h := pw_le hb n
    exact ⟨Int.mul_nonneg h.1 hb.1, Int.mul_le_mul h.2 hb.2 hb.1 (by omega)⟩
theorem pw_15 : ∀ n : Nat, n ≤ 12 → pw 15 n ≤ 129746337890625 := by decide
theorem pw_16 : ∀ n : Nat, n ≤ 12 → 0 ≤ pw 16 n ∧ pw 16 n ≤ 281474976710656 := by decide
abbrev ev_db (m : Nat → Nat → Int) (s d k : Int) : Prop := m 305 32 * pw (m 329 (m 316 s.toNat).toNat) (ev_mi m s d k).toNat < pw 16 (ev_mi m s d k).toNat
theorem M_isDoubt_18 {s : Int} {b : Int} (hs : xin s 150) (hl : xin (σ.1 316 s.toNat) 4) (hb : b = σ.1 329 (σ.1 316 s.toNat).toNat) (hb2 : 0 ≤ b ∧ b ≤ 15) (h32 : 2 ≤ σ.1 305 32 ∧ σ.1 305 32 ≤ 10000) {n : Nat} (hn : n ≤ 12) (w2 w3 : xAV) : ∀ (t i : Nat), i + t = n → X iM_isDoubt 18 [(2, 305), (0, s), w2, w3, (0, (n : Int)), (1, pw b i), (8, 0), (1, pw 16 i), (8, 0), (0, (i : Int))] [] σ = some ((0, if σ.1 305 32 * pw b n < pw 16 n then 1 else 0), σ) := by
  intro t
  have b1 := pw_le hb2 n
  have b2 := pw_15 n hn
  induction t with
  | zero =>
    intro i hi
    have e : i = n := by omega
    subst e
    have hm : 0 ≤ pw b i * σ.1 305 32 ∧ pw b i * σ.1 305 32 ≤ 129746337890625 * 10000 := ⟨Int.mul_nonneg b1.1 (by omega), Int.mul_le_mul (by omega) h32.2 (by omega) (by decide)⟩
    rw [qM_isDoubt_18, if_neg (by omega), xW_id (by omega) (by omega), Int.mul_comm]
    split <;> rfl
  | succ t ih =>
    intro i hi
    have c1 := pw_le hb2 (i + 1)
    have c2 := pw_15 (i + 1) (by omega)
    have c3 := pw_16 (i + 1) (by omega)
    rw [qM_isDoubt_18, if_pos (by omega), if_pos hs, show σ.1 316 s.toNat = σ.1 316 s.toNat from rfl, if_pos hl, ← hb]
    rw [show pw b i * b = pw b (i + 1) from rfl, show pw 16 i * 16 = pw 16 (i + 1) from rfl, xW_id (by omega) (by omega), xW_id (by omega) (by omega), xw_id (x := (i : Int) + 1) (by omega) (by omega), show (i : Int) + 1 = ((i + 1 : Nat) : Int) by omega]
    exact ih (i + 1) (by omega)
theorem M_isDoubt (hP : pJ σ.1) {s : Int} (hs : 0 ≤ s ∧ s < σ.1 305 15) (d k : Int) : X iM_isDoubt 0 [(2, 305), (0, s), (0, d), (0, k), (9, 0), (9, 0), (9, 0), (9, 0), (9, 0), (9, 0)] [] σ = some ((0, if ev_db σ.1 s d k then 1 else 0), σ) := by
  have hB := hP.2.2.1
  have hE := hP.2.2.2.2.1
  have hl := (hB.2.2.2.2.2.2 s.toNat (by omega)).2.2
  have hm := ev_mi_le (m := σ.1) (s := s) (d := d) (k := k)
  have hb := hE.2.2.2.2.2.1 (σ.1 316 s.toNat).toNat (by omega)
  rw [qM_isDoubt_0, M_missesOf hP (hB.xs hs), Option.bind_some, qM_isDoubt_7]
  obtain ⟨n, hn⟩ : ∃ n : Nat, ev_mi σ.1 s d k = n := ⟨(ev_mi σ.1 s d k).toNat, by omega⟩
  unfold ev_db
  rw [hn, Int.toNat_natCast]
  exact M_isDoubt_18 (hB.xs hs) (xin_of hl.1 (by omega)) rfl hb hE.2.2.2.2.1 (by omega) _ _ n 0 (by omega)
theorem E_isDoubted_22 {s : Int} {b : Int} (hs : xin s 150) (hl : xin (σ.1 218 s.toNat) 4) (hb : b = σ.1 230 (σ.1 218 s.toNat).toNat) (hb2 : 0 ≤ b ∧ b ≤ 15) {y : Int} (hy : 2 ≤ y ∧ y ≤ 10000) {n : Nat} (hn : n ≤ 12) (w2 w3 : xAV) : ∀ (t i : Nat), i + t = n → X iEvidence_isDoubted 22 [(2, 229), (0, s), w2, w3, (0, (n : Int)), (1, y * pw b i), (8, 0), (1, pw 16 i), (8, 0), (0, (i : Int))] [] σ = some ((0, if y * pw b n < pw 16 n then 1 else 0), σ) := by
  intro t
  induction t with
  | zero =>
    intro i hi
    have e : i = n := by omega
    subst e
    rw [qEvidence_isDoubted_22, if_neg (by omega)]
    split <;> rfl
  | succ t ih =>
    intro i hi
    have c1 := pw_le hb2 (i + 1)
    have c2 := pw_15 (i + 1) (by omega)
    have c3 := pw_16 (i + 1) (by omega)
    have hm : 0 ≤ y * pw b (i + 1) ∧ y * pw b (i + 1) ≤ 10000 * 129746337890625 := ⟨Int.mul_nonneg (by omega) c1.1, Int.mul_le_mul hy.2 (by omega) c1.1 (by decide)⟩
    rw [qEvidence_isDoubted_22, if_pos (by omega), if_pos hs, show σ.1 218 s.toNat = σ.1 218 s.toNat from rfl, if_pos hl, ← hb, Int.mul_assoc]
    rw [show pw b i * b = pw b (i + 1) from rfl, show pw 16 i * 16 = pw 16 (i + 1) from rfl, xW_id (by omega) (by omega), xW_id (by omega) (by omega), xw_id (x := (i : Int) + 1) (by omega) (by omega), show (i : Int) + 1 = ((i + 1 : Nat) : Int) by omega]
    exact ih (i + 1) (by omega)
theorem E_isDoubted (hP : pJ σ.1) {s : Int} (hs : 0 ≤ s ∧ s < σ.1 305 15) (d k : Int) : X iEvidence_isDoubted 0 [(2, 229), (0, s), (0, d), (0, k), (9, 0), (9, 0), (9, 0), (9, 0), (9, 0), (9, 0)] [] σ = some ((0, if ev_db σ.1 s d k then 1 else 0), σ) := by
  have hB := hP.2.2.1
  have hE := hP.2.2.2.2.1
  have hl := (hB.2.2.2.2.2.2 s.toNat (by omega)).2.2
  have hm := ev_mi_le (m := σ.1) (s := s) (d := d) (k := k)
  have hb := hE.2.2.2.2.2.1 (σ.1 316 s.toNat).toNat (by omega)
  have e8 := hB.2.1.2.1.2.1
  have e30 := hE.1.1
  rw [qEvidence_isDoubted_0, E_missesOf hP hs, Option.bind_some, qEvidence_isDoubted_7, hE.1.2.1]
  obtain ⟨n, hn⟩ : ∃ n : Nat, ev_mi σ.1 s d k = n := ⟨(ev_mi σ.1 s d k).toNat, by omega⟩
  unfold ev_db
  rw [hn, Int.toNat_natCast]
  have := E_isDoubted_22 (σ := σ) (b := σ.1 329 (σ.1 316 s.toNat).toNat) (hB.xs hs) (by rw [e8]; exact xin_of hl.1 (by omega)) (by rw [e8, e30]) hb hE.2.2.2.2.1 (n := n) (by omega) (0, d) (xkl (0, k)) n 0 (by omega)
  rw [show σ.1 305 32 * pw (σ.1 329 (σ.1 316 s.toNat).toNat) 0 = σ.1 305 32 from Int.mul_one _] at this
  exact this
/-- those lost at a house -/
abbrev ev_ls (m : Nat → Nat → Int) (s h d k : Int) : Prop := (bk_ask m s d k ∧ bk_pl m s d k = 10 + h) ∧ ev_db m s d k
theorem M_isLost (hP : pJ σ.1) (s : Int) {h : Int} (hh : 0 ≤ h ∧ h < 8) (d k : Int) : X iM_isLost 0 [(2, 305), (0, s), (0, h), (0, d), (0, k)] [] σ = some ((0, if ev_ls σ.1 s h d k then 1 else 0), σ) := by
  have hB := hP.2.2.1
  rw [qM_isLost_0, M_isAsked hB.1, Option.bind_some, qM_isLost_8]
  by_cases h1 : bk_ask σ.1 s d k
  · rw [if_pos h1, if_neg (by decide), M_placeOf hB.1, Option.bind_some, qM_isLost_19, xw_id (x := 10 + h) (by omega) (by omega)]
    by_cases h2 : bk_pl σ.1 s d k = 10 + h
    · rw [if_pos h2, M_isDoubt hP h1.1, Option.bind_some, qM_isLost_34]
      by_cases h3 : ev_db σ.1 s d k
      · rw [if_pos h3, if_neg (by decide), if_pos ⟨⟨h1, h2⟩, h3⟩]
      · rw [if_neg h3, if_pos rfl, if_neg fun q => h3 q.2]
    · rw [if_neg h2, if_neg fun q => h2 q.1.2]
  · rw [if_neg h1, if_pos rfl, if_neg fun q => h1 q.1.1]
theorem E_isLostAt (hP : pJ σ.1) {s : Int} (hs : 0 ≤ s ∧ s < σ.1 305 15) {h : Int} (hh : 0 ≤ h ∧ h < 8) {d k : Int} (hd : 0 ≤ d ∧ d ≤ 1000) (hk : 0 ≤ k ∧ k ≤ 1000) : X iEvidence_isLostAt 0 [(2, 229), (0, h), (0, s), (0, d), (0, k)] [] σ = some ((0, if ev_ls σ.1 s h d k then 1 else 0), σ) := by
  have hB := hP.2.2.1
  rw [qEvidence_isLostAt_0, xw_id (x := 10 + h) (by omega) (by omega), B_isAt hB hs _ hd hk, Option.bind_some, qEvidence_isLostAt_15]
  by_cases h1 : bk_ask σ.1 s d k ∧ bk_pl σ.1 s d k = 10 + h
  · rw [if_pos h1, if_neg (by decide), E_isDoubted hP hs, Option.bind_some, qEvidence_isLostAt_26]
    by_cases h3 : ev_db σ.1 s d k
    · rw [if_pos h3, if_neg (by decide), if_pos ⟨h1, h3⟩]
    · rw [if_neg h3, if_pos rfl, if_neg fun q => h3 q.2]
  · rw [if_neg h1, if_pos rfl, if_neg fun q => h1 q.1]
def ev_lo (m : Nat → Nat → Int) (h so d k : Int) : Nat → Int
  | 0 => 0
  | n + 1 => ev_lo m h so d k n + if m 315 n = so ∧ ev_ls m n h d k then 1 else 0
theorem ev_lo_le {m : Nat → Nat → Int} {h so d k : Int} : ∀ {n : Nat}, 0 ≤ ev_lo m h so d k n ∧ ev_lo m h so d k n ≤ n
  | 0 => ⟨Int.le_refl _, Int.le_refl _⟩
  | n + 1 => by
    have := ev_lo_le (m := m) (h := h) (so := so) (d := d) (k := k) (n := n)
    show 0 ≤ ev_lo m h so d k n + _ ∧ ev_lo m h so d k n + _ ≤ ((n + 1 : Nat) : Int)
    split <;> omega
theorem M_lost_39 (hP : pJ σ.1) {h : Int} (hh : 0 ≤ h ∧ h < 8) (so d k : Int) : ∀ (t i : Nat), i + t = (σ.1 305 15).toNat → X iM_lost 39 [(2, 305), (0, h), (0, so), (0, d), (0, k), (0, ev_lo σ.1 h so d k i), (0, (i : Int))] [] σ = some ((0, ev_lo σ.1 h so d k (σ.1 305 15).toNat), σ) := by
  intro t
  have h15 := hP.2.2.1.1.2
  induction t with
  | zero =>
    intro i hi
    rw [qM_lost_39, if_neg (by omega), show i = (σ.1 305 15).toNat by omega]
  | succ t ih =>
    intro i hi
    have hx : xin (i : Int) 150 := ⟨by omega, by omega⟩
    have nx : xw ((i : Int) + 1) = ((i + 1 : Nat) : Int) := by rw [xw_id (by omega) (by omega)]; omega
    have hl := ev_lo_le (m := σ.1) (h := h) (so := so) (d := d) (k := k) (n := i)
    have nc : xw (ev_lo σ.1 h so d k i + 1) = ev_lo σ.1 h so d k i + 1 := xw_id (by omega) (by omega)
    have k1 := ih (i + 1) (by omega)
    rw [show ev_lo σ.1 h so d k (i + 1) = ev_lo σ.1 h so d k i + if σ.1 315 i = so ∧ ev_ls σ.1 i h d k then 1 else 0 from rfl] at k1
    rw [qM_lost_39, if_pos (by omega), if_pos hx, Int.toNat_natCast, nx]
    by_cases a1 : σ.1 315 i = so
    · rw [if_pos a1, M_isLost hP _ hh, Option.bind_some, qM_lost_69, nx, nc]
      by_cases a2 : ev_ls σ.1 i h d k
      · rw [if_pos a2, if_neg (by decide)]
        rw [if_pos ⟨a1, a2⟩] at k1
        exact k1
      · rw [if_neg a2, if_pos rfl]
        rw [if_neg fun q => a2 q.2, Int.add_zero] at k1
        exact k1
    · rw [if_neg a1]
      rw [if_neg fun q => a1 q.1, Int.add_zero] at k1
      exact k1
theorem E_lostAt_6 (hP : pJ σ.1) {h : Int} (hh : 0 ≤ h ∧ h < 8) (so : Int) {d k : Int} (hd : 0 ≤ d ∧ d ≤ 1000) (hk : 0 ≤ k ∧ k ≤ 1000) : ∀ (t i : Nat), i + t = (σ.1 305 15).toNat → X iEvidence_lostAt 6 [(2, 229), (0, h), (0, so), (0, d), (0, k), (0, ev_lo σ.1 h so d k i), (0, (i : Int))] [] σ = some ((0, ev_lo σ.1 h so d k (σ.1 305 15).toNat), σ) := by
  intro t
  have hJ := hP.2.2.1
  have h15 := hJ.1.2
  have e11 := hJ.2.1.2.2.2.1
  have e7 := hJ.2.1.2.1.1
  induction t with
  | zero =>
    intro i hi
    rw [qEvidence_lostAt_6, if_neg (by rw [e11]; omega), show i = (σ.1 305 15).toNat by omega]
  | succ t ih =>
    intro i hi
    have hx : xin (i : Int) 150 := ⟨by omega, by omega⟩
    have nx : xw ((i : Int) + 1) = ((i + 1 : Nat) : Int) := by rw [xw_id (by omega) (by omega)]; omega
    have hl := ev_lo_le (m := σ.1) (h := h) (so := so) (d := d) (k := k) (n := i)
    have nc : xw (ev_lo σ.1 h so d k i + 1) = ev_lo σ.1 h so d k i + 1 := xw_id (by omega) (by omega)
    have nc0 : xw (ev_lo σ.1 h so d k i + 0) = ev_lo σ.1 h so d k i := by rw [xw_id (by omega) (by omega)]; omega
    have k1 := ih (i + 1) (by omega)
    rw [show ev_lo σ.1 h so d k (i + 1) = ev_lo σ.1 h so d k i + if σ.1 315 i = so ∧ ev_ls σ.1 i h d k then 1 else 0 from rfl] at k1
    rw [qEvidence_lostAt_6, if_pos (by rw [e11]; omega), if_pos hx, Int.toNat_natCast, nx, e7, nc0]
    by_cases a1 : σ.1 315 i = so
    · rw [if_pos a1, E_isLostAt hP (by omega) hh hd hk, Option.bind_some, qEvidence_lostAt_44, nx, nc, nc0]
      by_cases a2 : ev_ls σ.1 i h d k
      · rw [if_pos a2, if_neg (by decide)]
        rw [if_pos ⟨a1, a2⟩] at k1
        exact k1
      · rw [if_neg a2, if_pos rfl]
        rw [if_neg fun q => a2 q.2, Int.add_zero] at k1
        exact k1
    · rw [if_neg a1]
      rw [if_neg fun q => a1 q.1, Int.add_zero] at k1
      exact k1
/-- shortness -/
def ev_sh (m : Nat → Nat → Int) (h so d k : Int) : Nat → Int
  | 0 => 0
  | n + 1 => if m 333 n = h ∧ m 334 n = so ∧ m 337 n ≤ k ∧ m 335 n ≤ d then (if bk_many m (10 + h) so (m 335 n) k - m 336 n < ev_sh m h so d k n then ev_sh m h so d k n else bk_many m (10 + h) so (m 335 n) k - m 336 n) else ev_sh m h so d k n
theorem M_shortOf_39 (hP : pJ σ.1) {h : Int} (hh : 0 ≤ h ∧ h < 8) (so d k : Int) : ∀ (t i : Nat), i + t = (σ.1 305 42).toNat → X iM_shortOf 39 [(2, 305), (0, h), (0, so), (0, d), (0, k), (0, ev_sh σ.1 h so d k i), (0, (i : Int))] [] σ = some ((0, ev_sh σ.1 h so d k (σ.1 305 42).toNat), σ) := by
  intro t
  have hB := hP.2.2.1.1
  have hE := hP.2.2.2.2.1
  have h42 := hE.2.2.2.1
  induction t with
  | zero =>
    intro i hi
    rw [qM_shortOf_39, if_neg (by omega), show i = (σ.1 305 42).toNat by omega]
  | succ t ih =>
    intro i hi
    have hx : xin (i : Int) 60 := ⟨by omega, by omega⟩
    have nx : xw ((i : Int) + 1) = ((i + 1 : Nat) : Int) := by rw [xw_id (by omega) (by omega)]; omega
    have hc := hE.2.2.2.2.2.2.2 i (by omega)
    have hm := bk_many_le hB (P := 10 + h) (so := so) (d := σ.1 335 i) (k := k)
    have k1 := ih (i + 1) (by omega)
    rw [show ev_sh σ.1 h so d k (i + 1) = if σ.1 333 i = h ∧ σ.1 334 i = so ∧ σ.1 337 i ≤ k ∧ σ.1 335 i ≤ d then (if bk_many σ.1 (10 + h) so (σ.1 335 i) k - σ.1 336 i < ev_sh σ.1 h so d k i then ev_sh σ.1 h so d k i else bk_many σ.1 (10 + h) so (σ.1 335 i) k - σ.1 336 i) else ev_sh σ.1 h so d k i from rfl] at k1
    rw [qM_shortOf_39, if_pos (by omega)]
    simp only [if_pos hx, Int.toNat_natCast, nx]
    rw [xw_id (x := 10 + h) (by omega) (by omega)]
    by_cases hq : σ.1 333 i = h ∧ σ.1 334 i = so ∧ σ.1 337 i ≤ k ∧ σ.1 335 i ≤ d
    · rw [if_pos hq] at k1
      rw [if_pos hq.1, if_pos hq.2.1, if_neg (by omega), if_neg (by omega), M_manyAt hB]
      simp only [Option.bind_some]
      rw [qM_shortOf_116, if_pos hx, Int.toNat_natCast, xw_id (by omega) (by omega), M_max]
      simp only [Option.bind_some]
      rw [qM_shortOf_127, nx]
      exact k1
    · rw [if_neg hq] at k1
      repeat' split
      all_goals first | exact k1 | (exfalso; omega)
theorem E_shortAt_6 (hP : pJ σ.1) {h : Int} (hh : 0 ≤ h ∧ h < 8) (so d : Int) {k : Int} (hk : 0 ≤ k ∧ k ≤ 1000) : ∀ (t i : Nat) (w : xAV), i + t = (σ.1 305 42).toNat → X iEvidence_shortAt 6 [(2, 229), (0, h), (0, so), (0, d), (0, k), (0, ev_sh σ.1 h so d k i), (0, (i : Int)), w] [] σ = some ((0, ev_sh σ.1 h so d k (σ.1 305 42).toNat), σ) := by
  intro t
  have hB := hP.2.2.1
  have hE := hP.2.2.2.2.1
  have h42 := hE.2.2.2.1
  obtain ⟨e1, e2, e3, e4, e5, e6⟩ := hE.2.1
  induction t with
  | zero =>
    intro i w hi
    rw [qEvidence_shortAt_6, if_neg (by rw [e6]; omega), show i = (σ.1 305 42).toNat by omega]
  | succ t ih =>
    intro i w hi
    have hx : xin (i : Int) 60 := ⟨by omega, by omega⟩
    have nx : xw ((i : Int) + 1) = ((i + 1 : Nat) : Int) := by rw [xw_id (by omega) (by omega)]; omega
    have hc := hE.2.2.2.2.2.2.2 i (by omega)
    have hm := bk_many_le hB.1 (P := 10 + h) (so := so) (d := σ.1 335 i) (k := k)
    have k1 := fun w => ih (i + 1) w (by omega)
    rw [show ev_sh σ.1 h so d k (i + 1) = if σ.1 333 i = h ∧ σ.1 334 i = so ∧ σ.1 337 i ≤ k ∧ σ.1 335 i ≤ d then (if bk_many σ.1 (10 + h) so (σ.1 335 i) k - σ.1 336 i < ev_sh σ.1 h so d k i then ev_sh σ.1 h so d k i else bk_many σ.1 (10 + h) so (σ.1 335 i) k - σ.1 336 i) else ev_sh σ.1 h so d k i from rfl] at k1
    rw [qEvidence_shortAt_6, if_pos (by rw [e6]; omega)]
    simp only [if_pos hx, Int.toNat_natCast, nx, e1, e2, e3, e5]
    rw [xw_id (x := 10 + h) (by omega) (by omega)]
    by_cases hq : σ.1 333 i = h ∧ σ.1 334 i = so ∧ σ.1 337 i ≤ k ∧ σ.1 335 i ≤ d
    · rw [if_pos hq] at k1
      rw [if_pos hq.1, if_pos hq.2.1, if_neg (by omega), if_neg (by omega), B_manyAt hB _ _ hc.1 hk]
      simp only [Option.bind_some]
      rw [qEvidence_shortAt_81, if_pos hx, Int.toNat_natCast, e4, xw_id (x := bk_many σ.1 (10 + h) so (σ.1 335 i) k - σ.1 336 i) (by omega) (by omega), nx]
      have e0 : ∀ a b : Int, xmm 0 a b = if b < a then a else b := fun a b => by
        show (if a < b then b else a) = _
        split <;> split <;> omega
      rw [e0]
      exact k1 _
    · rw [if_neg hq] at k1
      repeat' split
      all_goals first | exact k1 _ | (exfalso; omega)
end EVID

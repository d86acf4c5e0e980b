/-! the k-th sheet of a kind -/
noncomputable def kthf (P : Nat → Prop) : Nat → Nat → Int → Int
  | 0, _, _ => -1
  | n + 1, s, l => @ite _ (P s) (Classical.propDecidable _) (if l = 0 then (s : Int) else kthf P n (s + 1) (l - 1)) (kthf P n (s + 1) l)
theorem kthf_y {P : Nat → Prop} {n s : Nat} {l : Int} (h : P s) : kthf P (n + 1) s l = if l = 0 then (s : Int) else kthf P n (s + 1) (l - 1) := if_pos h
theorem kthf_n {P : Nat → Prop} {n s : Nat} {l : Int} (h : ¬ P s) : kthf P (n + 1) s l = kthf P n (s + 1) l := if_neg h
theorem kthf_neg {P : Nat → Prop} : ∀ (n s : Nat) (l : Int), l < 0 → kthf P n s l = -1
  | 0, _, _, _ => rfl
  | n + 1, s, l, h => by
    by_cases c : P s
    · rw [kthf_y c, if_neg (by omega)]; exact kthf_neg n _ _ (by omega)
    · rw [kthf_n c]; exact kthf_neg n _ _ h
theorem kthf_cg {P Q : Nat → Prop} (h : ∀ s, P s ↔ Q s) : ∀ (n s : Nat) (l : Int), kthf P n s l = kthf Q n s l
  | 0, _, _ => rfl
  | n + 1, s, l => by
    by_cases c : P s
    · rw [kthf_y c, kthf_y ((h s).mp c), kthf_cg h n]
    · rw [kthf_n c, kthf_n (fun q => c ((h s).mpr q)), kthf_cg h n]
/-- into the wash -/
def bk_W (m : Nat → Nat → Int) (d k : Int) (i : Nat) : Bool := decide (m 320 i = 2) && bk_H m d k i
def bk_wl (m : Nat → Nat → Int) (s d k : Int) : Int := bk_l (-1) ((bk_ch m s (bk_n m)).filter (bk_W m d k))
abbrev usf (m : Nat → Nat → Int) (k : Int) (s : Nat) : Prop := bk_ask m s (m 305 0) k ∧ (bk_pl m s (m 305 0) k = 0 ∨ 10 ≤ bk_pl m s (m 305 0) k) ∧ 0 ≤ bk_wl m s (m 305 0) k ∧ pvn m (m 319 (bk_wl m s (m 305 0) k).toNat) k = false
section USF
variable {σ : xS}
theorem bk_Wf_step {m : Nat → Nat → Int} {s d k : Int} {n : Nat} {b : Int} (hb : b = bk_l (-1) ((bk_ch m s n).filter (bk_W m d k))) : bk_l (-1) ((bk_ch m s (n + 1)).filter (bk_W m d k)) = if m 318 n = s then (if bk_W m d k n then (if b < 0 then (n : Int) else if m 319 n < m 319 b.toNat then b else (n : Int)) else b) else b := by
  subst hb
  rw [show bk_ch m s (n + 1) = if m 318 n = s then bk_ins (m 319) n (bk_ch m s n) else bk_ch m s n from rfl]
  by_cases h1 : m 318 n = s
  · rw [if_pos h1, if_pos h1, bk_ins_filter bk_ch_so]
    by_cases h2 : bk_W m d k n = true
    · rw [if_pos h2, if_pos h2, bk_l_step (bk_so_filter bk_ch_so)]
    · rw [if_neg h2, if_neg h2]
  · rw [if_neg h1, if_neg h1]
theorem B_lastInto_14 (hJ : bk_J σ.1) {s : Int} (hs : 0 ≤ s ∧ s < σ.1 305 15) (d k : Int) : ∀ (l l0 : List Nat) (b v : Int), bk_ch σ.1 s (bk_n σ.1) = l0 ++ l → lnk (σ.1 228) l v → X iBook_lastInto 14 [(2, 216), (0, 2), (0, s), (0, d), (0, k), (0, b), (0, v), (0, (l0.length : Int))] [] σ = some ((0, bk_l b (l.filter (bk_W σ.1 d k))), σ) := by
  intro l
  have hlen := (hJ.fst hs).2
  have hx := hJ.xs hs
  obtain ⟨⟨e1, e2, e3, e4, e5, e6⟩, ⟨e7, e8, e9⟩, e10, e11, e12, e13⟩ := hJ.2.1
  have h600 : (bk_ch σ.1 s (bk_n σ.1)).length ≤ 600 := by
    have := bk_ch_len (m := σ.1) (s := s) (n := bk_n σ.1)
    have := hJ.1.1
    unfold bk_n at *
    omega
  induction l with
  | nil =>
    intro l0 b v he hv
    rw [List.append_nil] at he
    rw [qBook_lastInto_14, if_pos hx, hlen, he, if_neg (by omega)]
    rfl
  | cons i l ih =>
    intro l0 b v he hv
    obtain ⟨rfl, hv⟩ := hv
    have hi : i ∈ bk_ch σ.1 s (bk_n σ.1) := by rw [he]; simp
    have hi6 := hJ.lt hi
    have hun := hJ.un hi
    rw [he, List.length_append, List.length_cons] at hlen h600
    have hxi : xin (i : Int) 600 := ⟨by omega, by omega⟩
    have nx : xw ((l0.length : Int) + 1) = (((l0 ++ [i]).length : Nat) : Int) := by rw [List.length_append, xw_id (by omega) (by omega)]; simp
    have k1 := fun b => ih (l0 ++ [i]) b (σ.1 228 i) (by rw [he]; simp) hv
    rw [qBook_lastInto_14, if_pos hx, if_pos (by rw [hlen]; omega), if_neg (by omega)]
    simp only [if_pos hxi, Int.toNat_natCast, e1, e2, e3, e4, e5, nx]
    rw [List.filter_cons]
    unfold bk_W bk_H at *
    simp only [Bool.and_eq_true, Bool.or_eq_true, decide_eq_true_eq] at *
    clear nx
    repeat' split
    all_goals first
      | (exfalso; omega)
      | exact k1 _
theorem B_lastInto (hJ : bk_J σ.1) {s : Int} (hs : 0 ≤ s ∧ s < σ.1 305 15) (d k : Int) : X iBook_lastInto 0 [(2, 216), (0, 2), (0, s), (0, d), (0, k), (9, 0), (9, 0), (9, 0)] [] σ = some ((0, bk_wl σ.1 s d k), σ) := by
  rw [qBook_lastInto_0, if_pos (hJ.xs hs)]
  exact B_lastInto_14 hJ hs d k _ [] (-1) _ rfl (hJ.fst hs).1
/-- the reference looks for the last wash -/
theorem M_us_74 (hB : bk_B σ.1) (kk k s v3 : Int) : ∀ (t n : Nat) (b : Int) (w5 : xAV), n + t = bk_n σ.1 → b = bk_l (-1) ((bk_ch σ.1 s n).filter (bk_W σ.1 (σ.1 305 0) k)) → ∃ w, X iM_unsafe 74 [(2, 305), (0, kk), (0, k), (0, v3), (0, s), w5, (0, b), (0, (n : Int))] [] σ = X iM_unsafe 74 [(2, 305), (0, kk), (0, k), (0, v3), (0, s), w, (0, bk_wl σ.1 s (σ.1 305 0) k), (0, ((bk_n σ.1 : Nat) : Int))] [] σ := by
  intro t
  have hN : ((bk_n σ.1 : Nat) : Int) = σ.1 305 22 := Int.toNat_of_nonneg hB.1.1
  induction t with
  | zero =>
    intro n b w5 hn hb
    refine ⟨w5, ?_⟩
    rw [hb, show n = bk_n σ.1 by omega]
    rfl
  | succ t ih =>
    intro n b w5 hn hb
    have hx : xin (n : Int) 600 := ⟨by omega, by have := hB.1.2; omega⟩
    have hi6 := hx.2
    have hlt := bk_lf_lt (m := σ.1) (s := s) (p := bk_W σ.1 (σ.1 305 0) k) (n := n)
    rw [← hb] at hlt
    have hst := bk_Wf_step hb
    have f0 : (n : Int) < σ.1 305 22 := by omega
    have hbx : ¬ b < 0 → xin b 600 := fun q => ⟨by omega, by omega⟩
    have eW : bk_W σ.1 (σ.1 305 0) k n = true ↔ σ.1 320 n = 2 ∧ σ.1 319 n ≤ σ.1 305 0 ∧ σ.1 321 n ≤ k ∧ (σ.1 322 n < 0 ∨ k < σ.1 322 n) := by
      unfold bk_W bk_H
      simp only [Bool.and_eq_true, Bool.or_eq_true, decide_eq_true_eq]
    by_cases c : σ.1 318 n = s ∧ σ.1 320 n = 2 ∧ σ.1 319 n ≤ σ.1 305 0 ∧ σ.1 321 n ≤ k ∧ (σ.1 322 n < 0 ∨ k < σ.1 322 n)
    · obtain ⟨c1, c2, c3, c4, c5⟩ := c
      rw [if_pos c1, if_pos (eW.mpr ⟨c2, c3, c4, c5⟩)] at hst
      have f1 : ¬ σ.1 305 0 < σ.1 319 n := by omega
      have f2 : ¬ k < σ.1 321 n := by omega
      have f3 : ¬ σ.1 322 n < 0 → k < σ.1 322 n := by omega
      have go : ∃ w b', b' = (if b < 0 then (n : Int) else if σ.1 319 n < σ.1 319 b.toNat then b else (n : Int)) ∧ X iM_unsafe 74 [(2, 305), (0, kk), (0, k), (0, v3), (0, s), w5, (0, b), (0, (n : Int))] [] σ = X iM_unsafe 74 [(2, 305), (0, kk), (0, k), (0, v3), (0, s), w, (0, b'), (0, ((n + 1 : Nat) : Int))] [] σ := by
        rw [qM_unsafe_74, if_pos f0]
        simp only [if_pos hx, Int.toNat_natCast, xw_t hi6]
        rw [if_pos c1, if_pos c2, if_neg f1, if_neg f2]
        by_cases b0 : b < 0
        · refine ⟨xkl w5, (n : Int), (if_pos b0).symm, ?_⟩
          by_cases z : σ.1 322 n < 0
          · rw [if_pos z, if_pos b0]
          · rw [if_neg z, if_pos (f3 z), if_pos b0]
        · by_cases b1 : σ.1 319 n < σ.1 319 b.toNat
          · refine ⟨w5, b, by rw [if_neg b0, if_pos b1], ?_⟩
            by_cases z : σ.1 322 n < 0
            · rw [if_pos z, if_neg b0, if_pos (hbx b0), if_pos b1]
            · rw [if_neg z, if_pos (f3 z), if_neg b0, if_pos (hbx b0), if_pos b1]
          · refine ⟨xkl w5, (n : Int), by rw [if_neg b0, if_neg b1], ?_⟩
            by_cases z : σ.1 322 n < 0
            · rw [if_pos z, if_neg b0, if_pos (hbx b0), if_neg b1]
            · rw [if_neg z, if_pos (f3 z), if_neg b0, if_pos (hbx b0), if_neg b1]
      obtain ⟨w, b', g1, g2⟩ := go
      rw [g2]
      exact ih (n + 1) b' w (by omega) (by rw [hst, g1])
    · have hst' : bk_l (-1) ((bk_ch σ.1 s (n + 1)).filter (bk_W σ.1 (σ.1 305 0) k)) = b := by
        rw [hst]
        by_cases c1 : σ.1 318 n = s
        · rw [if_pos c1, if_neg (fun q => c ⟨c1, eW.mp q⟩)]
        · rw [if_neg c1]
      have key : X iM_unsafe 74 [(2, 305), (0, kk), (0, k), (0, v3), (0, s), w5, (0, b), (0, (n : Int))] [] σ = X iM_unsafe 74 [(2, 305), (0, kk), (0, k), (0, v3), (0, s), w5, (0, b), (0, ((n + 1 : Nat) : Int))] [] σ := by
        rw [qM_unsafe_74, if_pos f0]
        simp only [if_pos hx, Int.toNat_natCast, xw_t hi6]
        clear hst hst' ih eW hlt hb hN
        repeat' split
        all_goals first | rfl | (exfalso; omega)
      rw [key]
      exact ih (n + 1) b w5 (by omega) hst'.symm
theorem bk_wl_lt (hB : bk_B σ.1) (s d k : Int) : -1 ≤ bk_wl σ.1 s d k ∧ bk_wl σ.1 s d k < (bk_n σ.1 : Int) ∧ bk_n σ.1 ≤ 600 := by
  have h := bk_lf_lt (m := σ.1) (s := s) (p := bk_W σ.1 d k) (n := bk_n σ.1)
  have h2 := hB.1
  refine ⟨h.2, h.1, ?_⟩
  unfold bk_n
  omega
theorem M_us_14 (hP : pJ σ.1) (hJ : te_J σ.1 σ.2.1) (kk : Int) {k : Int} (hk : 0 ≤ k ∧ k ≤ 1000) : ∀ (n s : Nat) (l : Int) (w5 w6 w7 : xAV), s + n = (σ.1 305 15).toNat → (0 ≤ kk - l ∧ kk - l ≤ s) → X iM_unsafe 14 [(2, 305), (0, kk), (0, k), (0, kk - l), (0, (s : Int)), w5, w6, w7] [] σ = some ((0, kthf (usf σ.1 k) n s l), σ) := by
  have hBk := hP.2.2.1
  have h15 := hBk.1.2
  have hpl := fun (s : Nat) => bk_pl_le hBk.2.2.2 hP.2.1 (s : Int) (σ.1 305 0) k
  have hN : ((bk_n σ.1 : Nat) : Int) = σ.1 305 22 := Int.toNat_of_nonneg hBk.1.1.1
  intro n
  induction n with
  | zero =>
    intro s l w5 w6 w7 hs hl
    rw [qM_unsafe_14, if_neg (by omega)]
    rfl
  | succ n ih =>
    intro s l w5 w6 w7 hs hl
    have hs6 : (s : Int) < 600 := by omega
    have f0 : (s : Int) < σ.1 305 15 := by omega
    have no : ¬ usf σ.1 k s → ∀ w5 w6 w7, X iM_unsafe 14 [(2, 305), (0, kk), (0, k), (0, kk - l), (0, ((s + 1 : Nat) : Int)), w5, w6, w7] [] σ = some ((0, kthf (usf σ.1 k) (n + 1) s l), σ) := fun c w5 w6 w7 => by
      rw [kthf_n c]
      exact ih (s + 1) l w5 w6 w7 (by omega) (by omega)
    rw [qM_unsafe_14, if_pos f0, M_isAsked hBk.1, Option.bind_some, qM_unsafe_34]
    by_cases c1 : bk_ask σ.1 s (σ.1 305 0) k
    · rw [if_pos c1, if_neg (by decide), M_placeOf hBk.1, Option.bind_some, qM_unsafe_51]
      have go : (bk_pl σ.1 s (σ.1 305 0) k = 0 ∨ 10 ≤ bk_pl σ.1 s (σ.1 305 0) k) → ∀ w5, X iM_unsafe 74 [(2, 305), (0, kk), (0, k), (0, kk - l), (0, (s : Int)), w5, (0, -1), (0, 0)] [] σ = some ((0, kthf (usf σ.1 k) (n + 1) s l), σ) := by
        intro c2 w5
        obtain ⟨w, g⟩ := M_us_74 hBk.1 kk k s (kk - l) (bk_n σ.1) 0 (-1) w5 (by omega) rfl
        have g : X iM_unsafe 74 [(2, 305), (0, kk), (0, k), (0, kk - l), (0, (s : Int)), w5, (0, -1), (0, 0)] [] σ = _ := g
        have hw := bk_wl_lt hBk.1 s (σ.1 305 0) k
        rw [g, qM_unsafe_74, if_neg (by omega)]
        by_cases c3 : bk_wl σ.1 s (σ.1 305 0) k < 0
        · rw [if_pos c3, xw_t hs6]
          exact no (fun q => by have := q.2.2.1; omega) _ _ _
        · rw [if_neg c3, if_pos (xin_of (by omega) (by omega)), M_isProven hP hJ, Option.bind_some, qM_unsafe_182]
          cases hpv : pvn σ.1 (σ.1 319 (bk_wl σ.1 s (σ.1 305 0) k).toNat) k with
          | true =>
            rw [if_pos rfl, if_neg (by decide), xw_t hs6]
            exact no (fun q => by have := q.2.2.2; rw [hpv] at this; cases this) _ _ _
          | false =>
            have yes : usf σ.1 k s := ⟨c1, c2, by omega, hpv⟩
            rw [if_neg (show ¬ (false = true) by decide), if_pos rfl, kthf_y yes]
            by_cases e : l = 0
            · rw [if_pos (by omega), if_pos e]
            · rw [if_neg (by omega), if_neg e, xw_t hs6, xw_id (x := kk - l + 1) (by omega) (by omega), show kk - l + 1 = kk - (l - 1) by omega]
              exact ih (s + 1) (l - 1) _ _ _ (by omega) (by omega)
      by_cases c2 : bk_pl σ.1 s (σ.1 305 0) k = 0
      · rw [if_pos c2]
        exact go (Or.inl c2) _
      · rw [if_neg c2]
        by_cases c4 : bk_pl σ.1 s (σ.1 305 0) k < 10
        · rw [if_pos c4, xw_t hs6]
          exact no (fun q => by have := q.2.1; omega) _ _ _
        · rw [if_neg c4]
          exact go (Or.inr (by omega)) _
    · rw [if_neg c1, if_pos rfl, xw_t hs6]
      exact no (fun q => c1 q.1) _ _ _
theorem L_us (hP : pJ σ.1) (hJ : te_J σ.1 σ.2.1) {k : Int} {s : Nat} (ha : bk_ask σ.1 s (σ.1 305 0) k) : ∃ v, X iLedger_isUnsafe 0 [(2, 243), (0, (s : Int)), (0, k), (9, 0), (9, 0)] [] σ = some ((0, v), σ) ∧ (v = 0 ∧ ¬ usf σ.1 k s ∨ v = 1 ∧ usf σ.1 k s) := by
  have hBk := hP.2.2.1
  have e0 := hBk.2.1.2.2.2.2.1
  have e223 : σ.1 223 = σ.1 319 := hBk.2.1.1.2.1
  have hw := bk_wl_lt hBk.1 s (σ.1 305 0) k
  rw [qLedger_isUnsafe_0, e0, B_placeAt hBk ha.1, Option.bind_some, qLedger_isUnsafe_16, e0]
  have go : (bk_pl σ.1 s (σ.1 305 0) k = 0 ∨ 10 ≤ bk_pl σ.1 s (σ.1 305 0) k) → ∀ w3 w4, ∃ v, ((X iBook_lastInto 0 [(2, 216), (0, 2), (0, (s : Int)), (0, σ.1 305 0), (0, k), (9, 0), (9, 0), (9, 0)] [] σ).bind fun q1 => X iLedger_isUnsafe 46 [(2, 243), (0, (s : Int)), (0, k), w3, w4] [q1.1] q1.2) = some ((0, v), σ) ∧ (v = 0 ∧ ¬ usf σ.1 k s ∨ v = 1 ∧ usf σ.1 k s) := by
    intro c2 w3 w4
    rw [B_lastInto hBk ha.1, Option.bind_some, qLedger_isUnsafe_46]
    by_cases c3 : bk_wl σ.1 s (σ.1 305 0) k < 0
    · rw [if_pos (by omega)]
      exact ⟨0, rfl, Or.inl ⟨rfl, fun q => by have := q.2.2.1; omega⟩⟩
    · rw [if_neg (by omega), if_pos (xin_of (by omega) (by omega)), e223, L_isProven hP hJ, Option.bind_some, qLedger_isUnsafe_69]
      cases hpv : pvn σ.1 (σ.1 319 (bk_wl σ.1 s (σ.1 305 0) k).toNat) k with
      | true => exact ⟨0, rfl, Or.inl ⟨rfl, fun q => by have := q.2.2.2; rw [hpv] at this; cases this⟩⟩
      | false => exact ⟨1, rfl, Or.inr ⟨rfl, ha, c2, by omega, hpv⟩⟩
  by_cases c2 : bk_pl σ.1 s (σ.1 305 0) k = 0
  · rw [if_pos c2]
    exact go (Or.inl c2) _ _
  · rw [if_neg c2]
    by_cases c4 : bk_pl σ.1 s (σ.1 305 0) k < 10
    · rw [if_pos c4]
      exact ⟨0, rfl, Or.inl ⟨rfl, fun q => by have := q.2.1; omega⟩⟩
    · rw [if_neg c4]
      exact go (Or.inr (by omega)) _ _
theorem L_us_5 (hP : pJ σ.1) (hJ : te_J σ.1 σ.2.1) {k : Int} (hk : 0 ≤ k ∧ k ≤ 1000) (w1 : xAV) : ∀ (n s : Nat) (l : Int), s + n = (σ.1 305 15).toNat → (0 ≤ l ∧ l ≤ 2147483647) → X iLedger_unsafeSheet 5 [(2, 243), w1, (0, k), (0, l), (0, (s : Int))] [] σ = some ((0, kthf (usf σ.1 k) n s l), σ) := by
  have hBk := hP.2.2.1
  have h15 := hBk.1.2
  have e0 := hBk.2.1.2.2.2.2.1
  have e6 := hBk.2.1.2.2.2.1
  have e219 := hBk.2.1.2.1.2.2
  have h00 := hBk.2.2.2.1
  intro n
  induction n with
  | zero =>
    intro s l hs hl
    rw [qLedger_unsafeSheet_5, e6, if_neg (by omega)]
    rfl
  | succ n ih =>
    intro s l hs hl
    have hs6 : (s : Int) < 600 := by omega
    have f0 : (s : Int) < σ.1 305 15 := by omega
    have hx : xin (s : Int) 150 := ⟨by omega, by omega⟩
    rw [qLedger_unsafeSheet_5, e6, if_pos f0, if_pos hx, e0, e219, Int.toNat_natCast]
    have no : ¬ usf σ.1 k s → X iLedger_unsafeSheet 5 [(2, 243), w1, (0, k), (0, l), (0, ((s + 1 : Nat) : Int))] [] σ = some ((0, kthf (usf σ.1 k) (n + 1) s l), σ) := fun c => by
      rw [kthf_n c]
      exact ih (s + 1) l (by omega) hl
    by_cases c1 : σ.1 305 0 < σ.1 317 s
    · rw [if_pos c1, xw_t hs6]
      exact no (fun q => by have := q.1.2.2.1; rw [Int.toNat_natCast] at this; omega)
    · rw [if_neg c1, if_pos hx]
      by_cases c2 : k < σ.1 317 s
      · rw [if_pos c2, xw_t hs6]
        exact no (fun q => by have := q.1.2.2.2; rw [Int.toNat_natCast] at this; omega)
      · have hask : bk_ask σ.1 s (σ.1 305 0) k := ⟨⟨by omega, f0⟩, ⟨h00, hk⟩, by rw [Int.toNat_natCast]; omega, by rw [Int.toNat_natCast]; omega⟩
        obtain ⟨v, q1, q2⟩ := L_us hP hJ hask
        rw [if_neg c2, q1, Option.bind_some, qLedger_unsafeSheet_44]
        rcases q2 with ⟨rfl, q2⟩ | ⟨rfl, q2⟩
        · rw [if_pos rfl, xw_t hs6]
          exact no q2
        · rw [if_neg (by decide), kthf_y q2]
          by_cases e : l = 0
          · rw [if_pos e, if_pos e]
          · rw [if_neg e, if_neg e, xw_t hs6, xw_id (x := l + -1) (by omega) (by omega), show l + -1 = l - 1 by omega]
            exact ih (s + 1) (l - 1) (by omega) (by omega)
theorem rd_us (hP : pJ σ.1) (hJ : te_J σ.1 σ.2.1) {a1 a2 : Int} (h1 : -2147483648 ≤ a1 ∧ a1 ≤ 2147483647) : rdOK σ iC_unsafe [(2, 200), (0, a1), (0, a2)] iM_unsafe [(2, 305), (0, a1), (0, a2), (9, 0), (9, 0), (9, 0), (9, 0), (9, 0)] := by
  by_cases c2 : a2 < 0
  · refine rd_same (v := (0, -1)) ?_ ?_
    · rw [qC_unsafe_0]
      by_cases c1 : a1 < 0
      · rw [if_pos c1]
      · rw [if_neg c1, if_pos c2]
    · rw [qM_unsafe_0, if_pos c2]
  by_cases c3 : 1000 < a2
  · refine rd_same (v := (0, -1)) ?_ ?_
    · rw [qC_unsafe_0]
      by_cases c1 : a1 < 0
      · rw [if_pos c1]
      · rw [if_neg c1, if_neg c2, if_pos c3]
    · rw [qM_unsafe_0, if_neg c2, if_pos c3]
  have hM := M_us_14 hP hJ a1 (k := a2) (by omega) (σ.1 305 15).toNat 0 a1 (9, 0) (9, 0) (9, 0) (by omega) (by omega)
  rw [Int.sub_self] at hM
  have hM : X iM_unsafe 14 [(2, 305), (0, a1), (0, a2), (0, 0), (0, 0), (9, 0), (9, 0), (9, 0)] [] σ = some ((0, kthf (usf σ.1 a2) (σ.1 305 15).toNat 0 a1), σ) := hM
  by_cases c1 : a1 < 0
  · refine rd_same (v := (0, -1)) ?_ ?_
    · rw [qC_unsafe_0, if_pos c1]
    · rw [qM_unsafe_0, if_neg c2, if_neg c3, hM, kthf_neg _ _ _ c1]
  · refine rd_same (v := (0, kthf (usf σ.1 a2) (σ.1 305 15).toNat 0 a1)) ?_ ?_
    · have hL := L_us_5 hP hJ (k := a2) (by omega) (0, a1) (σ.1 305 15).toNat 0 a1 (by omega) (by omega)
      have hL : X iLedger_unsafeSheet 5 [(2, 243), (0, a1), (0, a2), (0, a1), (0, 0)] [] σ = some ((0, kthf (usf σ.1 a2) (σ.1 305 15).toNat 0 a1), σ) := hL
      rw [qC_unsafe_0, if_neg c1, if_neg c2, if_neg c3, qLedger_unsafeSheet_0, hL, Option.bind_some, qC_unsafe_20]
    · rw [qM_unsafe_0, if_neg c2, if_neg c3, hM]
end USF

/-! what statements are: names first -/
def abF (F : Nat) (r : Int) : Int := if r < 0 then -1 else (F : Int) + r
section LASTOF
variable {σ : xS} {x F M T N : Nat} {cs : Nat → Nat}
theorem M_lastOf_18 (hJ : te_J σ.1 σ.2.1) (hx8 : x < 8) (hB : te_B σ.1 σ.2.1 x F M T N cs) (k a : Int) : ∀ (n j : Nat), j + n = M → X iM_lastOf 18 [(2, 305), (0, (x : Int)), (0, k), (0, a), (0, abF F (lp (fun j => σ.1 344 (F + j) = k ∧ σ.1 345 (F + j) = a) j)), (0, ((F + j : Nat) : Int))] [] σ = some ((0, abF F (lp (fun j => σ.1 344 (F + j) = k ∧ σ.1 345 (F + j) = a) M)), σ) := by
  have hxx : xin (x : Int) 8 := ⟨by omega, by omega⟩
  obtain ⟨e1, e2, e3, e4⟩ := hB.1
  have h3 := hJ.2.2.1
  have h4 := hJ.2.1
  intro n
  induction n with
  | zero =>
    intro j hj
    rw [qM_lastOf_18, if_pos hxx, if_pos hxx]
    simp only [Int.toNat_natCast]
    rw [e1, e2, xw_id (by omega) (by omega), if_neg (by omega), show j = M by omega]
  | succ n ih =>
    intro j hj
    have hxj : xin ((F + j : Nat) : Int) 200 := ⟨by omega, by omega⟩
    have kk := ih (j + 1) (by omega)
    rw [show lp (fun j => σ.1 344 (F + j) = k ∧ σ.1 345 (F + j) = a) (j + 1) = if σ.1 344 (F + j) = k ∧ σ.1 345 (F + j) = a then (j : Int) else lp (fun j => σ.1 344 (F + j) = k ∧ σ.1 345 (F + j) = a) j from rfl] at kk
    rw [qM_lastOf_18, if_pos hxx, if_pos hxx]
    simp only [Int.toNat_natCast]
    rw [e1, e2, xw_id (x := (F : Int) + (M : Int)) (by omega) (by omega), if_pos (by omega), if_pos hxj, xw_id (x := ((F + j : Nat) : Int) + 1) (by omega) (by omega), show ((F + j : Nat) : Int) + 1 = ((F + (j + 1) : Nat) : Int) by omega]
    by_cases c : σ.1 344 (F + j) = k
    · rw [if_pos c, if_pos hxj]
      by_cases d : σ.1 345 (F + j) = a
      · rw [if_pos d]
        rw [if_pos ⟨c, d⟩] at kk
        rw [← kk]
        unfold abF
        rw [if_neg (show ¬ (j : Int) < 0 by omega), show ((F + j : Nat) : Int) = (F : Int) + (j : Int) by omega]
      · rw [if_neg d]
        rw [if_neg (fun q => d q.2)] at kk
        exact kk
    · rw [if_neg c]
      rw [if_neg (fun q => c q.1)] at kk
      exact kk
theorem M_lastOf (hJ : te_J σ.1 σ.2.1) (hx8 : x < 8) (hB : te_B σ.1 σ.2.1 x F M T N cs) (k a : Int) : X iM_lastOf 0 [(2, 305), (0, (x : Int)), (0, k), (0, a), (9, 0), (9, 0)] [] σ = some ((0, abF F (lp (fun j => σ.1 344 (F + j) = k ∧ σ.1 345 (F + j) = a) M)), σ) := by
  rw [qM_lastOf_0, if_neg (by omega), if_pos (xin_of (by omega) (by omega)), Int.toNat_natCast, hB.1.1]
  exact M_lastOf_18 hJ hx8 hB k a M 0 (by omega)
theorem M_lastOf_no (k a : Int) : X iM_lastOf 0 [(2, 305), (0, -1), (0, k), (0, a), (9, 0), (9, 0)] [] σ = some ((0, -1), σ) := by
  rw [qM_lastOf_0, if_pos (by decide)]
end LASTOF
/-- names, behind so many statements -/
def nmv (m : Nat → Nat → Int) (h : Nat → Int) (F : Nat) : Nat → Nat → Int
  | 0 => fun _ => 0
  | n + 1 => if m 344 (F + n) = 0 then xup (nmv m h F n) n (EV (rws m) h (nmv m h F n) (m 347 (F + n)).toNat) else nmv m h F n
/-- a statement's EX -/
def sv (m : Nat → Nat → Int) (h : Nat → Int) (F j : Nat) : Int := EV (rws m) h (nmv m h F j) (m 347 (F + j)).toNat
theorem nmv_at {m : Nat → Nat → Int} {h : Nat → Int} {F j : Nat} (h0 : m 344 (F + j) = 0) : ∀ {n : Nat}, j < n → nmv m h F n j = sv m h F j
  | 0, hj => absurd hj (Nat.not_lt_zero _)
  | n + 1, hj => by
    show (if m 344 (F + n) = 0 then xup (nmv m h F n) n (EV (rws m) h (nmv m h F n) (m 347 (F + n)).toNat) else nmv m h F n) j = _
    by_cases e : j = n
    · rw [← e, if_pos h0, xup_eq]; rfl
    · have ih := nmv_at (m := m) (h := h) (F := F) h0 (n := n) (by omega)
      by_cases c : m 344 (F + n) = 0
      · rw [if_pos c, xup_ne e]; exact ih
      · rw [if_neg c]; exact ih
theorem nmv_cg {m m' : Nat → Nat → Int} {h : Nat → Int} {F : Nat} (hc : ∀ a, 341 ≤ a → a ≤ 356 → m' a = m a) : ∀ (n : Nat), nmv m' h F n = nmv m h F n
  | 0 => rfl
  | n + 1 => by
    show (if m' 344 (F + n) = 0 then xup (nmv m' h F n) n (EV (rws m') h (nmv m' h F n) (m' 347 (F + n)).toNat) else nmv m' h F n) = if m 344 (F + n) = 0 then xup (nmv m h F n) n (EV (rws m) h (nmv m h F n) (m 347 (F + n)).toNat) else nmv m h F n
    rw [nmv_cg hc n, hc 344 (by decide) (by decide), hc 347 (by decide) (by decide), EV_fc (f := rws m) (f' := rws m') (fun c h5 => hc (351 + c) (by omega) (by omega))]
theorem sv_cg {m m' : Nat → Nat → Int} {h : Nat → Int} {F j : Nat} (hc : ∀ a, 341 ≤ a → a ≤ 356 → m' a = m a) : sv m' h F j = sv m h F j := by
  unfold sv
  rw [nmv_cg hc, hc 347 (by decide) (by decide), EV_fc (f := rws m) (f' := rws m') (fun c h5 => hc (351 + c) (by omega) (by omega))]
section NAMES
variable {x F M T N : Nat} {cs : Nat → Nat}
/-- bounds of what is asked by -/
def hbd (h : Nat → Int) : Prop := ∀ j, j < 10 → -1000000000000 ≤ h j ∧ h j ≤ 1000000000000
theorem te_X_of {m : Nat → Nat → Int} {t : List (Nat × Nat)} (hB : te_B m t x F M T N cs) {j : Nat} (hj : j < M) (hk : m 344 (F + j) ≤ 4) : te_X m t F (F + j) (m (cs j) 6) := (hB.2.2.2.2.2 j hj).1.2.2.2.2.2.2.2.2.1 hk
theorem nmv_bd {m : Nat → Nat → Int} {t : List (Nat × Nat)} {h : Nat → Int} (hB : te_B m t x F M T N cs) (hh : hbd h) : ∀ (n : Nat), n ≤ M → ∀ i, -1000000000000 ≤ nmv m h F n i ∧ nmv m h F n i ≤ 1000000000000 := by
  intro n
  induction n with
  | zero => intro _ i; show (-1000000000000 : Int) ≤ 0 ∧ (0 : Int) ≤ 1000000000000; decide
  | succ n ih =>
    intro hn i
    have b := ih (by omega)
    show -1000000000000 ≤ (if m 344 (F + n) = 0 then xup (nmv m h F n) n (EV (rws m) h (nmv m h F n) (m 347 (F + n)).toNat) else nmv m h F n) i ∧ (if m 344 (F + n) = 0 then xup (nmv m h F n) n (EV (rws m) h (nmv m h F n) (m 347 (F + n)).toNat) else nmv m h F n) i ≤ 1000000000000
    by_cases c : m 344 (F + n) = 0
    · rw [if_pos c]
      by_cases e : i = n
      · rw [e, xup_eq]
        obtain ⟨lo, hi, root, nn, cl, ch, cc, ⟨g1, g2, g3⟩, g4, g5, g6, g7, g8⟩ := te_X_of hB (j := n) (by omega) (by omega)
        rw [g3, Int.toNat_natCast]
        exact EV_le g7 hh (fun j _ _ => b j) root g4.1 g4.2.1
      · rw [xup_ne e]; exact b i
    · rw [if_neg c]; exact b i
theorem sv_bd {m : Nat → Nat → Int} {t : List (Nat × Nat)} {h : Nat → Int} (hB : te_B m t x F M T N cs) (hh : hbd h) {j : Nat} (hj : j < M) (hk : m 344 (F + j) ≤ 4) : -1000000000000 ≤ sv m h F j ∧ sv m h F j ≤ 1000000000000 := by
  obtain ⟨lo, hi, root, nn, cl, ch, cc, ⟨g1, g2, g3⟩, g4, g5, g6, g7, g8⟩ := te_X_of hB hj hk
  unfold sv
  rw [g3, Int.toNat_natCast]
  exact EV_le g7 hh (fun i _ _ => nmv_bd hB hh j (by omega) i) root g4.1 g4.2.1
variable {σ : xS}
/-- the reference: one statement, names ahead of it told -/
theorem M_stmt (hB : te_B σ.1 σ.2.1 x F M T N cs) (h57 : σ.1 305 57 ≤ 192) (hh : hbd (σ.1 365)) {τ : xS} (h2 : τ.2 = σ.2) (h3 : ∀ a, a ≠ 363 → a ≠ 364 → τ.1 a = σ.1 a) {j : Nat} (hj : j < M) (hk : σ.1 344 (F + j) ≤ 4) (hn : ∀ i, i < j → σ.1 344 (F + i) = 0 → τ.1 364 i = sv σ.1 (σ.1 365) F i) : ∃ τ', X iM_rooted 0 [(2, 305), (0, ((F + j : Nat) : Int)), (9, 0), (9, 0), (9, 0), (9, 0), (9, 0), (9, 0), (9, 0), (9, 0), (9, 0)] [] τ = some ((1, sv σ.1 (σ.1 365) F j), τ') ∧ τ'.2 = σ.2 ∧ (∀ a, a ≠ 363 → a ≠ 364 → τ'.1 a = σ.1 a) ∧ τ'.1 364 = τ.1 364 := by
  obtain ⟨lo, hi, root, nn, cl, ch, cc, ⟨g1, g2, g3⟩, g4, g5, g6, g7, g8⟩ := te_X_of hB hj hk
  obtain ⟨e1, e2, e3, e4⟩ := hB.1
  have ef : ∀ c, c ≤ 5 → rws τ.1 c = rws σ.1 c := fun c hc => h3 (351 + c) (by omega) (by omega)
  have en : ∀ i, F + i < F + j → σ.1 344 (F + i) = 0 → τ.1 364 i = nmv σ.1 (σ.1 365) F j i := fun i a1 a2 => by rw [hn i (by omega) a2, nmv_at a2 (by omega)]
  obtain ⟨τ', q1, q2, q3⟩ := M_rooted (τ := τ) (s := F + j) (lo := lo) (hi := hi) (F := F) (S := F + j) (sk := σ.1 344) (by omega) g4.2.2 (by rw [h3 348 (by decide) (by decide)]; exact g1) (by rw [h3 349 (by decide) (by decide)]; exact g2) (by omega) (wfs_fc ef (fun _ _ _ => rfl) g7) (by rw [h3 347 (by decide) (by decide)]; exact g3) ⟨g4.1, g4.2.1⟩ (by rw [h3 365 (by decide) (by decide)]; exact hh) (fun i a1 a2 => by rw [en i a1 a2]; exact nmv_bd hB hh j (by omega) i)
  refine ⟨τ', ?_, q2.trans h2, fun a b1 b2 => by rw [q3 a b1, h3 a b1 b2], q3 364 (by decide)⟩
  rw [q1, h3 365 (by decide) (by decide), EV_fc ef, EV_cg g7 en g4.1 g4.2.1]
  unfold sv
  rw [g3, Int.toNat_natCast]
theorem M_worked_7 (hB : te_B σ.1 σ.2.1 x F M T N cs) (hx8 : x < 8) (h57 : σ.1 305 57 ≤ 192) (hh : hbd (σ.1 365)) {j : Nat} (hj : j < M) (hk : σ.1 344 (F + j) ≤ 4) : ∀ (n i : Nat) (τ : xS), i + n = j → τ.2 = σ.2 → (∀ a, a ≠ 363 → a ≠ 364 → τ.1 a = σ.1 a) → (∀ i', i' < i → σ.1 344 (F + i') = 0 → τ.1 364 i' = sv σ.1 (σ.1 365) F i') → ∃ τ', X iM_worked 7 [(2, 305), (0, (x : Int)), (0, ((F + j : Nat) : Int)), (0, ((F + i : Nat) : Int))] [] τ = some ((1, sv σ.1 (σ.1 365) F j), τ') ∧ τ'.2 = σ.2 ∧ ∀ a, a ≠ 363 → a ≠ 364 → τ'.1 a = σ.1 a := by
  obtain ⟨e1, e2, e3, e4⟩ := hB.1
  intro n
  induction n with
  | zero =>
    intro i τ hi h2 h3 h4
    obtain ⟨τ', q1, q2, q3, _⟩ := M_stmt hB h57 hh h2 h3 hj hk (fun i' a1 a2 => h4 i' (by omega) a2)
    refine ⟨τ', ?_, q2, q3⟩
    rw [qM_worked_7, if_neg (by omega), q1, Option.bind_some, qM_worked_50]
  | succ n ih =>
    intro i τ hi h2 h3 h4
    have hxi : xin ((F + i : Nat) : Int) 200 := ⟨by omega, by omega⟩
    have hxx : xin (x : Int) 8 := ⟨by omega, by omega⟩
    rw [qM_worked_7, if_pos (by omega), if_pos hxi, Int.toNat_natCast, h3 344 (by decide) (by decide)]
    by_cases c : σ.1 344 (F + i) = 0
    · obtain ⟨τ1, q1, q2, q3, q4⟩ := M_stmt hB h57 hh h2 h3 (j := i) (by omega) (by omega) h4
      rw [if_pos c, if_pos hxx, q1, Option.bind_some]
      simp only [Int.toNat_natCast]
      rw [h3 341 (by decide) (by decide), e1, xw_id (x := ((F + i : Nat) : Int) - (F : Int)) (by omega) (by omega), show ((F + i : Nat) : Int) - (F : Int) = (i : Int) by omega, qM_worked_38, if_pos (xin_of (by omega) (by omega)), Int.toNat_natCast, xw_id (by omega) (by omega), show ((F + i : Nat) : Int) + 1 = ((F + (i + 1) : Nat) : Int) by omega]
      refine ih (i + 1) (xs τ1 364 i (sv σ.1 (σ.1 365) F i)) (by omega) q2 (fun a a1 a2 => by rw [xs_ne a2]; exact q3 a a1 a2) (fun i' a1 a2 => ?_)
      rw [xs_at]
      by_cases e : i' = i
      · rw [e, xup_eq]
      · rw [xup_ne e, q4]; exact h4 i' (by omega) a2
    · rw [if_neg c, xw_id (by omega) (by omega), show ((F + i : Nat) : Int) + 1 = ((F + (i + 1) : Nat) : Int) by omega]
      exact ih (i + 1) τ (by omega) h2 h3 (fun i' a1 a2 => h4 i' (by
        by_cases e : i' = i
        · rw [e] at a2; exact absurd a2 c
        · omega) a2)
theorem M_worked (hB : te_B σ.1 σ.2.1 x F M T N cs) (hx8 : x < 8) (h57 : σ.1 305 57 ≤ 192) (hh : hbd (σ.1 365)) {j : Nat} (hj : j < M) (hk : σ.1 344 (F + j) ≤ 4) : ∃ τ', X iM_worked 0 [(2, 305), (0, (x : Int)), (0, ((F + j : Nat) : Int)), (9, 0)] [] σ = some ((1, sv σ.1 (σ.1 365) F j), τ') ∧ τ'.2 = σ.2 ∧ ∀ a, a ≠ 363 → a ≠ 364 → τ'.1 a = σ.1 a := by
  rw [qM_worked_0, if_pos (xin_of (by omega) (by omega)), Int.toNat_natCast, hB.1.1]
  exact M_worked_7 hB hx8 h57 hh hj hk j 0 σ (by omega) rfl (fun _ _ _ => rfl) (fun i' a1 _ => absurd a1 (Nat.not_lt_zero _))
/-- the class: one statement, names ahead of it told -/
theorem C_stmt (hB : te_B σ.1 σ.2.1 x F M T N cs) (hd : 800 ≤ xdp σ) (hh : hbd (σ.1 254)) {j : Nat} (hj : j < M) (hk : σ.1 344 (F + j) ≤ 4) (hn : ∀ i, i < j → σ.1 344 (F + i) = 0 → σ.1 N (lkc (σ.1 344) F i) = sv σ.1 (σ.1 254) F i) : ∃ c : Nat, σ.1 (cs j) 6 = (c : Int) ∧ 392 ≤ c ∧ X iTerms_exOf 0 [(2, (T : Int)), (2, (c : Int))] [] σ = some ((1, sv σ.1 (σ.1 254) F j), σ) := by
  obtain ⟨lo, hi, root, nn, cl, ch, c, ⟨g1, g2, g3⟩, g4, g5, g6, g7, g8, g9⟩ := te_X_of hB hj hk
  have hC : evC σ (rws σ.1) (σ.1 344) (nmv σ.1 (σ.1 254) F j) F (F + j) lo hi T N (lkc (σ.1 344) F M) := by
    refine ⟨hB.2.2.2.1, g7, fun i a1 a2 => EV_le g7 hh (fun i' _ _ => nmv_bd hB hh j (by omega) i') i a1 a2, fun i a1 a2 => ⟨lkc_lt (by omega) a2, ?_⟩⟩
    rw [hn i (by omega) a2, nmv_at a2 (by omega)]
  refine ⟨c, g6, (rl_nd g9).2.2.1, ?_⟩
  have := ((C_ev (sn := σ.1 350) hC nn) σ rfl rfl (by omega) cl ch c root g9 g4.1 g4.2.1).1 g8
  rw [this]
  unfold sv
  rw [g3, Int.toNat_natCast]
theorem tmp_N (hB : te_B σ.1 σ.2.1 x F M T N cs) (k : Nat) : tmp σ N k = true := by
  obtain ⟨h1, h2⟩ := hB.2.2.2.1.2.2.2.1
  have h3 : Nat.ble 392 N = true := Nat.ble_eq_true_of_le h1
  unfold tmp
  rw [h3, h2]
  show (tmS N k || (true && Nat.beq 101 101)) = true
  cases tmS N k <;> rfl
theorem C_nameAll_7 (hB : te_B σ.1 σ.2.1 x F M T N cs) (hd : 800 ≤ xdp σ) (hh : hbd (σ.1 254)) : ∀ (n j : Nat) (τ : xS), j + n = M → ag σ τ → (∀ a, a ≠ N → τ.1 a = σ.1 a) → (∀ i, i < j → σ.1 344 (F + i) = 0 → τ.1 N (lkc (σ.1 344) F i) = sv σ.1 (σ.1 254) F i) → ∃ τ', X iTerms_nameAll 7 [(2, (T : Int)), (0, (lkc (σ.1 344) F j : Int)), (2, cn cs M j)] [] τ = some ((9, 0), τ') ∧ ag σ τ' ∧ (∀ a, a ≠ N → τ'.1 a = σ.1 a) ∧ ∀ i, i < M → σ.1 344 (F + i) = 0 → τ'.1 N (lkc (σ.1 344) F i) = sv σ.1 (σ.1 254) F i := by
  have hN := hB.2.2.2.1.2.2.2.1
  have hnn := hB.2.2.2.1.2.2.2.2
  intro n
  induction n with
  | zero =>
    intro j τ hj ha h3 h4
    refine ⟨τ, ?_, ha, h3, fun i a1 a2 => h4 i (by omega) a2⟩
    rw [qTerms_nameAll_7, cn_ge (by omega), if_pos rfl]
  | succ n ih =>
    intro j τ hj ha h3 h4
    have hB' := te_B_ag ha hB
    have hn := tB_n hB' (j := j) (by omega)
    have e344 : τ.1 344 = σ.1 344 := h3 344 (by omega)
    have eTy : xnth τ.2.1 (N - 392) = some (100 + 1, lkc (σ.1 344) F M) := by rw [ha.1]; exact hN.2
    have hk := tB_k hB (j := j) (by omega)
    have hN4 : τ.1 T 4 = (N : Int) := hB'.2.2.2.1.2.2.1
    rw [qTerms_nameAll_7, cn_lt (by omega), if_neg (nz hn.1), nd_f hn, xob_some, tB_0 hB' (by omega), e344, xcm_k (by omega), xcm_k (by decide), show (true && true) = true from rfl, cnd_t]
    by_cases c : σ.1 344 (F + j) = 0
    · have hlt := lkc_lt (sk := σ.1 344) (F := F) (n := j) (m := M) (by omega) c
      have esv : ∀ i, sv τ.1 (τ.1 254) F i = sv σ.1 (σ.1 254) F i := fun i => by
        rw [h3 254 (by omega)]
        exact sv_cg fun a b1 b2 => h3 a (by omega)
      obtain ⟨cc, k1, k2, k3⟩ := C_stmt hB' (by rw [show xdp τ = xdp σ from congrArg (fun z => z.2.2.1) ha.1]; exact hd) (by rw [h3 254 (by omega)]; exact hh) (j := j) (by omega) (by rw [e344]; omega) (fun i a1 a2 => by rw [e344] at a2 ⊢; rw [esv]; exact h4 i a1 a2)
      rw [if_pos (by omega), tB_T hB', xob_some, hN4, xlen_new hN.1 eTy (by decide), xob_some, if_pos (by omega), xob_some, nd_f hn, xob_some, tB_is hB', cnd_t, k1, k3, Option.bind_some, esv, qTerms_nameAll_43, xarr_new hN.1 eTy, xob_some, if_pos (xin_of (by omega) (by omega)), Int.toNat_natCast, xwr_new hN.1, xob_some]
      have ha1 : ag σ (xs τ N (lkc (σ.1 344) F j) (sv σ.1 (σ.1 254) F j)) := ag_tr ha (ag_s (tmp_N hB' _))
      have hn1 : nd (xs τ N (lkc (σ.1 344) F j) (sv σ.1 (σ.1 254) F j)).2.1 (cs j) := hn
      have hneN : cs j ≠ N := fun q => by
        have := hn.2
        rw [q, eTy] at this
        exact absurd (congrArg Prod.fst (Option.some.inj this)) (show ¬ (100 + 1 = 7) by decide)
      rw [nd_f hn1, xob_some, xs_ne hneN, tB_7 hB' (by omega), xw_id (by omega) (by omega), show (lkc (σ.1 344) F j : Int) + 1 = (lkc (σ.1 344) F (j + 1) : Int) by
        show _ = ((lkc (σ.1 344) F j + (if σ.1 344 (F + j) = 0 then 1 else 0) : Nat) : Int)
        rw [if_pos c]; omega]
      refine ih (j + 1) _ (by omega) ha1 (fun a a1 => by rw [xs_ne a1]; exact h3 a a1) (fun i a1 a2 => ?_)
      rw [xs_at]
      by_cases e : i = j
      · rw [e, xup_eq]
      · rw [xup_ne (fun q => e (lkc_inj a2 c q))]
        exact h4 i (by omega) a2
    · rw [if_neg (by omega), nd_f hn, xob_some, tB_7 hB' (by omega), show (lkc (σ.1 344) F j : Int) = (lkc (σ.1 344) F (j + 1) : Int) by
        show _ = ((lkc (σ.1 344) F j + (if σ.1 344 (F + j) = 0 then 1 else 0) : Nat) : Int)
        rw [if_neg c]; rfl]
      exact ih (j + 1) τ (by omega) ha h3 (fun i a1 a2 => h4 i (by
        by_cases e : i = j
        · rw [e] at a2; exact absurd a2 c
        · omega) a2)
theorem C_nameAll (hB : te_B σ.1 σ.2.1 x F M T N cs) (hd : 800 ≤ xdp σ) (hh : hbd (σ.1 254)) : ∃ τ', X iTerms_nameAll 0 [(2, (T : Int)), (9, 0), (9, 0)] [] σ = some ((9, 0), τ') ∧ ag σ τ' ∧ (∀ a, a ≠ N → τ'.1 a = σ.1 a) ∧ ∀ i, i < M → σ.1 344 (F + i) = 0 → τ'.1 N (lkc (σ.1 344) F i) = sv σ.1 (σ.1 254) F i := by
  rw [qTerms_nameAll_0, tB_T hB, xob_some, hB.2.2.2.2.1]
  exact C_nameAll_7 hB hd hh M 0 σ (by omega) (ag_rf σ) (fun _ _ => rfl) (fun i a1 _ => absurd a1 (Nat.not_lt_zero _))
/-- a statement's EX, behind all names -/
theorem C_exOfStatement (hB : te_B σ.1 σ.2.1 x F M T N cs) (hd : 800 ≤ xdp σ) (hh : hbd (σ.1 254)) {τ : xS} (ha : ag σ τ) (h3 : ∀ a, a ≠ N → τ.1 a = σ.1 a) (h4 : ∀ i, i < M → σ.1 344 (F + i) = 0 → τ.1 N (lkc (σ.1 344) F i) = sv σ.1 (σ.1 254) F i) {j : Nat} (hj : j < M) (hk : σ.1 344 (F + j) ≤ 4) : X iTerms_exOfStatement 0 [(2, (T : Int)), (2, (cs j : Int))] [] τ = some ((1, sv σ.1 (σ.1 254) F j), τ) := by
  have hN := hB.2.2.2.1.2.2.2.1
  have hB' := te_B_ag ha hB
  have hn := tB_n hB' hj
  have e344 : τ.1 344 = σ.1 344 := h3 344 (by omega)
  have esv : ∀ i, sv τ.1 (τ.1 254) F i = sv σ.1 (σ.1 254) F i := fun i => by
    rw [h3 254 (by omega)]
    exact sv_cg fun a b1 b2 => h3 a (by omega)
  obtain ⟨cc, k1, k2, k3⟩ := C_stmt hB' (by rw [show xdp τ = xdp σ from congrArg (fun z => z.2.2.1) ha.1]; exact hd) (by rw [h3 254 (by omega)]; exact hh) hj (by rw [e344]; omega) (fun i a1 a2 => by rw [e344] at a2 ⊢; rw [esv]; exact h4 i (by omega) a2)
  rw [qTerms_exOfStatement_0, nd_f hn, xob_some, tB_is hB', cnd_t, k1, k3, Option.bind_some, esv, qTerms_exOfStatement_8]
end NAMES

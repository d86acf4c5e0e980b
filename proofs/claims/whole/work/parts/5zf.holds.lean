/-! what holds where an EX is asked -/
/-- only the row of moves is reckoned with -/
def agW (σ τ : xS) : Prop := ag σ τ ∧ ∀ a, a ≠ 324 → a ≠ 305 → τ.1 a = σ.1 a
theorem agW_tr {a b c : xS} (h : agW a b) (g : agW b c) : agW a c := ⟨ag_tr h.1 g.1, fun x h1 h2 => by rw [g.2 x h1 h2, h.2 x h1 h2]⟩
theorem agW_s {σ : xS} {a k : Nat} {v : Int} (h : tmS a k = true) (h2 : a = 324 ∨ a = 305) : agW σ (xs σ a k v) := ⟨ag_sS h, fun x h3 h4 => xs_ne (by omega)⟩
theorem MW_gather_58 {σ : xS} (hB : bk_B σ.1) (s d k : Int) {n : Nat} (hn : n < 600) {l : List Nat} (hl : l.length ≤ n) (hln : ∀ i ∈ l, i < n) (hso : bk_so (σ.1 319) l) : ∀ (p : Nat) (τ : xS), agW σ τ → p ≤ l.length → τ.1 305 25 = (l.length : Int) → (∀ i, i < p → τ.1 324 i = ((l.getD i 0 : Nat) : Int)) → (∀ i, p ≤ i → i < l.length → τ.1 324 (i + 1) = ((l.getD i 0 : Nat) : Int) ∧ σ.1 319 n < σ.1 319 (l.getD i 0)) →
    ∃ τ' w, X iM_gather 58 [(2, 305), (0, s), (0, d), (0, k), (0, (n : Int)), (0, (p : Int))] [] τ = X iM_gather 8 [(2, 305), (0, s), (0, d), (0, k), (0, ((n + 1 : Nat) : Int)), w] [] τ' ∧ agW σ τ' ∧ bk_rw τ' (bk_ins (σ.1 319) n l) := by
  intro p
  have nx : xw ((n : Int) + 1) = ((n + 1 : Nat) : Int) := by rw [xw_id (by omega) (by omega)]; omega
  -- the end of it
  have fin : ∀ (p : Nat) (τ : xS), agW σ τ → p ≤ l.length → τ.1 305 25 = (l.length : Int) → (∀ i, i < p → τ.1 324 i = ((l.getD i 0 : Nat) : Int)) → (∀ i, p ≤ i → i < l.length → τ.1 324 (i + 1) = ((l.getD i 0 : Nat) : Int) ∧ σ.1 319 n < σ.1 319 (l.getD i 0)) → (∀ i, i < p → σ.1 319 (l.getD i 0) ≤ σ.1 319 n) →
      agW σ (xs (xs τ 324 p (n : Int)) 305 25 (xw ((τ.1 305 25) + 1))) ∧ bk_rw (xs (xs τ 324 p (n : Int)) 305 25 (xw ((τ.1 305 25) + 1))) (bk_ins (σ.1 319) n l) := by
    intro p τ hτ hp h25 h1 h2 h3
    refine ⟨agW_tr hτ (agW_tr (agW_s rfl (Or.inl rfl)) (agW_s rfl (Or.inr rfl))), ?_, ?_⟩
    · rw [xs_at, xup_eq, h25, bk_ins_len, xw_id (by omega) (by omega)]
      omega
    · intro i hi
      rw [bk_ins_len] at hi
      rw [xs_ne (by decide), xs_at, xup_at, bk_ins_at hp h3 (fun i a b => (h2 i a b).2), getD_ins _ _ _ _ hp]
      by_cases e : i = p
      · subst e
        rw [if_pos rfl, if_neg (by omega), if_pos rfl]
      · rw [if_neg e]
        by_cases e2 : i < p
        · rw [if_pos e2]
          exact h1 i e2
        · rw [if_neg e2, if_neg e]
          have := (h2 (i - 1) (by omega) (by omega)).1
          rwa [show i - 1 + 1 = i by omega] at this
  induction p with
  | zero =>
    intro τ hτ hp h25 h1 h2
    rw [qM_gather_58, if_neg (by omega), if_pos (xin_of (by omega) (by omega)), nx]
    have := fin 0 τ hτ hp h25 h1 h2 (fun i hi => absurd hi (Nat.not_lt_zero i))
    exact ⟨_, _, rfl, this.1, this.2⟩
  | succ p ih =>
    intro τ hτ hp h25 h1 h2
    have e1 : xw (((p + 1 : Nat) : Int) - 1) = (p : Int) := by rw [xw_id (by omega) (by omega)]; omega
    have e2 : xw (((p + 1 : Nat) : Int) + (-1)) = (p : Int) := by rw [xw_id (by omega) (by omega)]; omega
    have hr : τ.1 324 p = ((l.getD p 0 : Nat) : Int) := h1 p (Nat.lt_succ_self p)
    have hlp := hln _ (getD_mem' (l := l) (i := p) (by omega))
    have e9 : τ.1 319 = σ.1 319 := hτ.1.at fun _ => rfl
    rw [qM_gather_58, if_pos (by omega), e1, e2, nx, if_pos (xin_of (by omega) (by omega)), Int.toNat_natCast, hr, if_pos (xin_of (by omega) (by omega)), if_pos (xin_of (by omega) (by omega)), Int.toNat_natCast, Int.toNat_natCast, e9, Int.toNat_natCast]
    by_cases hc : σ.1 319 n < σ.1 319 (l.getD p 0)
    · rw [if_pos hc, if_pos (xin_of (by omega) (by omega)), if_pos (xin_of (by omega) (by omega))]
      refine ih _ (agW_tr hτ (agW_s rfl (Or.inl rfl))) (by omega) ?_ ?_ ?_
      · rw [xs_ne (by decide)]; exact h25
      · intro i hi
        rw [xs_at, xup_ne (by omega)]
        exact h1 i (by omega)
      · intro i hi hi2
        rw [xs_at, xup_at]
        by_cases e : i = p
        · subst e
          rw [if_pos rfl]
          exact ⟨rfl, hc⟩
        · rw [if_neg (by omega)]
          exact h2 i (by omega) hi2
    · rw [if_neg hc, if_pos (xin_of (by omega) (by omega))]
      have := fin (p + 1) τ hτ hp h25 h1 h2 (fun i hi => by
        have := bk_so_get hso (i := i) (j := p) (by omega) (by omega)
        omega)
      exact ⟨_, _, rfl, this.1, this.2⟩
theorem MW_gather_8 {σ : xS} (hB : bk_B σ.1) (s d k : Int) : ∀ (t n : Nat) (w : xAV) (τ : xS), n + t = bk_n σ.1 → agW σ τ → bk_rw τ ((bk_ch σ.1 s n).filter (bk_H σ.1 d k)) → ∃ τ', X iM_gather 8 [(2, 305), (0, s), (0, d), (0, k), (0, (n : Int)), w] [] τ = some ((9, 0), τ') ∧ agW σ τ' ∧ bk_rw τ' (bk_hl σ.1 s d k) := by
  intro t
  have hN : ((bk_n σ.1 : Nat) : Int) = σ.1 305 22 := Int.toNat_of_nonneg hB.1.1
  induction t with
  | zero =>
    intro n w τ hn hτ hr
    rw [qM_gather_8, if_neg (by rw [hτ.1.sl (a := 305) (k := 22) rfl]; omega)]
    rw [show n = bk_n σ.1 by omega] at hr
    exact ⟨τ, rfl, hτ, hr⟩
  | succ t ih =>
    intro n w τ hn hτ hr
    have hx : xin (n : Int) 600 := ⟨by omega, by have := hB.1.2; omega⟩
    have nx : xw ((n : Int) + 1) = ((n + 1 : Nat) : Int) := by rw [xw_id (by omega) (by have := hx.2; omega)]; omega
    rw [qM_gather_8, if_pos (by rw [hτ.1.sl (a := 305) (k := 22) rfl]; omega)]
    simp only [if_pos hx, Int.toNat_natCast, nx, hτ.1.at (a := 318) (fun _ => rfl), hτ.1.at (a := 319) (fun _ => rfl), hτ.1.at (a := 321) (fun _ => rfl), hτ.1.at (a := 322) (fun _ => rfl), hr.1]
    have e0 : bk_ch σ.1 s (n + 1) = if σ.1 318 n = s then bk_ins (σ.1 319) n (bk_ch σ.1 s n) else bk_ch σ.1 s n := rfl
    have skip : ¬ (σ.1 318 n = s ∧ bk_H σ.1 d k n = true) → ∃ τ', X iM_gather 8 [(2, 305), (0, s), (0, d), (0, k), (0, ((n + 1 : Nat) : Int)), w] [] τ = some ((9, 0), τ') ∧ agW σ τ' ∧ bk_rw τ' (bk_hl σ.1 s d k) := by
      intro hno
      refine ih (n + 1) w τ (by omega) hτ ?_
      rw [e0]
      by_cases h1 : σ.1 318 n = s
      · rw [if_pos h1, bk_ins_filter bk_ch_so, if_neg fun q => hno ⟨h1, q⟩]
        exact hr
      · rw [if_neg h1]
        exact hr
    have take : σ.1 318 n = s → bk_H σ.1 d k n = true → ∃ τ', X iM_gather 58 [(2, 305), (0, s), (0, d), (0, k), (0, (n : Int)), (0, (((bk_ch σ.1 s n).filter (bk_H σ.1 d k)).length : Int))] [] τ = some ((9, 0), τ') ∧ agW σ τ' ∧ bk_rw τ' (bk_hl σ.1 s d k) := by
      intro h1 h2
      obtain ⟨τ1, w1, q1, q2, q3⟩ := MW_gather_58 hB s d k (n := n) (by have := hx.2; omega) (l := (bk_ch σ.1 s n).filter (bk_H σ.1 d k)) bk_chf_len (fun i hi => (bk_ch_mem.mp (List.mem_filter.mp hi).1).1) (bk_so_filter bk_ch_so) _ τ hτ (Nat.le_refl _) hr.1 hr.2 (fun i a b => by omega)
      rw [q1]
      refine ih (n + 1) w1 τ1 (by omega) q2 ?_
      rw [e0, if_pos h1, bk_ins_filter bk_ch_so, if_pos h2]
      exact q3
    unfold bk_H at skip take
    simp only [Bool.and_eq_true, Bool.or_eq_true, decide_eq_true_eq] at skip take
    repeat' split
    all_goals first
      | exact skip (by omega)
      | exact take (by omega) (by omega)
theorem MW_gather {σ : xS} (hB : bk_B σ.1) (s d k : Int) : ∃ τ', X iM_gather 0 [(2, 305), (0, s), (0, d), (0, k), (9, 0), (9, 0)] [] σ = some ((9, 0), τ') ∧ agW σ τ' ∧ bk_rw τ' (bk_hl σ.1 s d k) := by
  rw [qM_gather_0]
  refine MW_gather_8 hB s d k (bk_n σ.1) 0 _ _ (by omega) (agW_s rfl (Or.inr rfl)) ⟨?_, fun i hi => absurd hi (Nat.not_lt_zero i)⟩
  rw [xs_at, xup_eq]
  rfl
theorem MW_washesOf {σ : xS} (hB : bk_B σ.1) (s d k : Int) : ∃ τ, X iM_washesOf 0 [(2, 305), (0, s), (0, d), (0, k), (9, 0), (9, 0)] [] σ = some ((0, bk_wa σ.1 s d k), τ) ∧ agW σ τ := by
  have hN : ((bk_n σ.1 : Nat) : Int) = σ.1 305 22 := Int.toNat_of_nonneg hB.1.1
  obtain ⟨τ, q1, q2, q3⟩ := MW_gather hB s d k
  refine ⟨τ, ?_, q2⟩
  have hln : ∀ i ∈ bk_hl σ.1 s d k, i < 600 := fun i hi => by
    have := (bk_ch_mem.mp (List.mem_filter.mp hi).1).1
    have := hB.1.2
    omega
  have hle : (bk_hl σ.1 s d k).length ≤ 600 := by
    have := bk_chf_len (m := σ.1) (s := s) (p := bk_H σ.1 d k) (n := bk_n σ.1)
    have := hB.1.2
    show ((bk_ch σ.1 s (bk_n σ.1)).filter (bk_H σ.1 d k)).length ≤ 600
    omega
  have hw : bk_wa σ.1 s d k = bk_wc τ.1 0 (bk_hl σ.1 s d k) := by
    rw [← bk_wa_ag q2.1]
    unfold bk_wa
    rw [bk_hl_ag q2.1]
  rw [qM_washesOf_0, q1, Option.bind_some, qM_washesOf_7, hw]
  cases hl : bk_hl σ.1 s d k with
  | nil =>
    rw [hl] at q3
    rw [qM_washesOf_13, if_neg (by rw [q3.1]; decide)]
    rfl
  | cons x l =>
    rw [hl] at q3 hln hle
    have := M_washesOf_13 q3 hle hln (0, s) (0, d) (xkl (0, k)) l.length 1 0 (by rw [List.length_cons]; omega) (Nat.le_refl 1) (Int.le_refl 0) (by omega)
    refine this.trans ?_
    show some ((0, 0 + bk_wc τ.1 (τ.1 320 x) l), τ) = some ((0, (if (0 : Int) = 2 ∧ τ.1 320 x = 0 then 1 else 0) + bk_wc τ.1 (τ.1 320 x) l), τ)
    rw [if_neg fun q => absurd q.1 (by decide)]
/-- one cell alone is written -/
def cg1 (c : Nat) (σ τ : xS) : Prop := τ.2 = σ.2 ∧ ∀ a, a ≠ c → τ.1 a = σ.1 a
theorem cg1_rf (c : Nat) (σ : xS) : cg1 c σ σ := ⟨rfl, fun _ _ => rfl⟩
theorem cg1_s {c : Nat} {σ τ : xS} (h : cg1 c σ τ) (k : Nat) (v : Int) : cg1 c σ (xs τ c k v) := ⟨h.1, fun a ha => by rw [xs_ne ha]; exact h.2 a ha⟩
theorem cg1_ag {c : Nat} {σ τ : xS} (hc : ∀ k, tmS c k = true) (h : cg1 c σ τ) : ag σ τ := ⟨h.1, fun a k hk => by
  by_cases e : a = c
  · rw [e] at hk
    unfold tmp at hk
    rw [hc k] at hk
    cases hk
  · rw [h.2 a e]⟩
theorem tm254 (k : Nat) : tmS 254 k = true := rfl
theorem tm365 (k : Nat) : tmS 365 k = true := rfl
/-- alike where an EX asks -/
def eqh (h g : Nat → Int) : Prop := ∀ j, j < 10 → h j = g j
theorem eqh_xup {h g : Nat → Int} (e : eqh h g) (k : Nat) (v : Int) : eqh (xup h k v) (xup g k v) := fun j hj => by
  rw [xup_at, xup_at, e j hj]
theorem eqh_tr {a b c : Nat → Int} (h : eqh a b) (g : eqh b c) : eqh a c := fun j hj => (h j hj).trans (g j hj)
def hB0 (d : Int) : Nat → Int := xup (fun _ => 0) 9 d
def hSo (m : Nat → Nat → Int) (so : Int) (h : Nat → Int) : Nat → Int := xup (xup (xup (xup h 2 (m 309 so.toNat)) 3 (m 310 so.toNat)) 4 (m 306 so.toNat)) 5 so
def hSh (m : Nat → Nat → Int) (s d k : Int) : Nat → Int := xup (xup (hSo m (m 315 s.toNat) (hB0 d)) 0 (bk_wa m s d k)) 1 (d - m 317 s.toNat)
def hPl (m : Nat → Nat → Int) (s d k : Int) : Nat → Int := if bk_pl m s d k < 10 then hSh m s d k else xup (xup (xup (hSh m s d k) 6 (m 311 (bk_pl m s d k - 10).toNat)) 7 (d - bk_si m s d k)) 8 (ev_mi m s d k)
theorem hbd_xup {h : Nat → Int} (hh : hbd h) {k : Nat} {v : Int} (hv : -1000000000000 ≤ v ∧ v ≤ 1000000000000) : hbd (xup h k v) := fun j hj => by
  rw [xup_at]
  by_cases e : j = k
  · rw [if_pos e]; exact hv
  · rw [if_neg e]; exact hh j hj
theorem hbd_eqh {h g : Nat → Int} (e : eqh h g) (hg : hbd g) : hbd h := fun j hj => by rw [e j hj]; exact hg j hj
theorem hB0_bd {d : Int} (hd : 0 ≤ d ∧ d ≤ 2000) : hbd (hB0 d) := hbd_xup (fun j _ => by show (-1000000000000 : Int) ≤ 0 ∧ (0 : Int) ≤ 1000000000000; decide) (by omega)
/-- alike holds, alike rows -/
theorem EV_hc {f : Nat → Nat → Int} {sk : Nat → Int} {F S lo hi : Nat} (w : wfs f sk F S lo hi) {h h' nm : Nat → Int} (e : eqh h h') : ∀ i, lo ≤ i → i < hi → EV f h nm i = EV f h' nm i := by
  intro i
  induction i using Nat.strongRecOn with
  | ind i ih =>
    intro h1 h2
    rw [EV_eq w h1 h2, EV_eq w h1 h2]
    have e1 : evo f h nm (EV f h nm) i = evo f h' nm (EV f h nm) i := by
      unfold evo
      have w2 := (w i h1 h2).2.2.1
      by_cases z : f 0 i = 1
      · by_cases z2 : f 1 i < 10
        · have := w2 z
          rw [e (f 1 i).toNat (by omega)]
        · rw [if_neg z2, if_neg z2]
      · rw [if_neg z, if_neg z]
    rw [e1]
    exact evo_cg (w i h1 h2) (fun j g1 g2 => ih j g2 g1 (by omega)) (fun _ _ _ => rfl)
theorem nmv_hc {m : Nat → Nat → Int} {t : List (Nat × Nat)} {x F M T N : Nat} {cs : Nat → Nat} (hB : te_B m t x F M T N cs) {h h' : Nat → Int} (e : eqh h h') : ∀ n, n ≤ M → nmv m h F n = nmv m h' F n
  | 0, _ => rfl
  | n + 1, hn => by
    show (if m 344 (F + n) = 0 then xup (nmv m h F n) n (EV (rws m) h (nmv m h F n) (m 347 (F + n)).toNat) else nmv m h F n) = if m 344 (F + n) = 0 then xup (nmv m h' F n) n (EV (rws m) h' (nmv m h' F n) (m 347 (F + n)).toNat) else nmv m h' F n
    rw [nmv_hc hB e n (by omega)]
    by_cases c : m 344 (F + n) = 0
    · obtain ⟨lo, hi, root, nn, cl, ch, cc, ⟨g1, g2, g3⟩, g4, g5, g6, g7, g8⟩ := te_X_of hB (j := n) (by omega) (by omega)
      rw [g3, Int.toNat_natCast, EV_hc g7 e root g4.1 g4.2.1]
    · rw [if_neg c, if_neg c]
theorem sv_hc {m : Nat → Nat → Int} {t : List (Nat × Nat)} {x F M T N : Nat} {cs : Nat → Nat} (hB : te_B m t x F M T N cs) {h h' : Nat → Int} (e : eqh h h') {j : Nat} (hj : j < M) (hk : m 344 (F + j) ≤ 4) : sv m h F j = sv m h' F j := by
  obtain ⟨lo, hi, root, nn, cl, ch, cc, ⟨g1, g2, g3⟩, g4, g5, g6, g7, g8⟩ := te_X_of hB hj hk
  unfold sv
  rw [nmv_hc hB e j (by omega), g3, Int.toNat_natCast, EV_hc g7 e root g4.1 g4.2.1]
section HOLDS
variable {σ : xS}
theorem C_fill2 (a1 : Int) : ∀ (n j : Nat) (τ : xS), j + n = 10 → cg1 254 σ τ → (∀ i, i < j → τ.1 254 i = a1) → ∃ τ', X iJR_fill2 6 [(2, 254), (1, a1), (8, 0), (0, (j : Int)), (0, 10)] [] τ = some ((9, 0), τ') ∧ cg1 254 σ τ' ∧ ∀ i, i < 10 → τ'.1 254 i = a1 := by
  intro n
  induction n with
  | zero =>
    intro j τ hj h1 h2
    refine ⟨τ, ?_, h1, fun i hi => h2 i (by omega)⟩
    rw [qJR_fill2_6, if_neg (by omega)]
  | succ n ih =>
    intro j τ hj h1 h2
    rw [qJR_fill2_6, if_pos (by omega), show xarr xE1 τ 254 1 = some 10 from rfl, xob_some, if_pos (xin_of (by omega) (by omega)), Int.toNat_natCast, show xwr xE1 τ 254 j a1 = some (xs τ 254 j a1) from rfl, xob_some, xw_id (by omega) (by omega)]
    refine ih (j + 1) _ (by omega) (cg1_s h1 _ _) (fun i hi => ?_)
    rw [xs_at, xup_at]
    by_cases e : i = j
    · rw [if_pos e]
    · rw [if_neg e]; exact h2 i (by omega)
theorem C_holdDay (d : Int) : ∃ τ, X iLedger_holdDay 0 [(2, 243), (0, d)] [] σ = some ((9, 0), τ) ∧ cg1 254 σ τ ∧ eqh (τ.1 254) (hB0 d) := by
  obtain ⟨τ, q1, q2, q3⟩ := C_fill2 (σ := σ) 0 10 0 σ rfl (cg1_rf _ _) (fun i hi => absurd hi (Nat.not_lt_zero i))
  refine ⟨xs τ 254 9 d, ?_, cg1_s q2 _ _, fun j hj => ?_⟩
  · rw [qLedger_holdDay_0, qJR_fill2_0, show xlen xE1 σ 254 = some 10 from rfl, xob_some]
    have q1 : X iJR_fill2 6 [(2, 254), (1, 0), (8, 0), (0, 0), (0, ((10 : Nat) : Int))] [] σ = some ((9, 0), τ) := q1
    rw [q1, Option.bind_some, qLedger_holdDay_8]
  · rw [xs_at]
    unfold hB0
    rw [xup_at, xup_at, q3 j hj]
theorem M_bare_2 (d : Int) : ∀ (n j : Nat) (τ : xS), j + n = 9 → cg1 365 σ τ → (∀ i, i < j → τ.1 365 i = 0) → ∃ τ', X iM_bare 2 [(2, 305), (0, d), (0, (j : Int))] [] τ = some ((9, 0), τ') ∧ cg1 365 σ τ' ∧ eqh (τ'.1 365) (hB0 d) := by
  intro n
  induction n with
  | zero =>
    intro j τ hj h1 h2
    refine ⟨xs τ 365 9 d, ?_, cg1_s h1 _ _, fun i hi => ?_⟩
    · rw [qM_bare_2, if_neg (by omega)]
    · rw [xs_at]
      unfold hB0
      rw [xup_at, xup_at]
      by_cases e : i = 9
      · rw [if_pos e, if_pos e]
      · rw [if_neg e, if_neg e]; exact h2 i (by omega)
  | succ n ih =>
    intro j τ hj h1 h2
    rw [qM_bare_2, if_pos (by omega), if_pos (xin_of (by omega) (by omega)), Int.toNat_natCast, xw_id (by omega) (by omega)]
    refine ih (j + 1) _ (by omega) (cg1_s h1 _ _) (fun i hi => ?_)
    rw [xs_at, xup_at]
    by_cases e : i = j
    · rw [if_pos e]
    · rw [if_neg e]; exact h2 i (by omega)
theorem M_bare (d : Int) : ∃ τ, X iM_bare 0 [(2, 305), (0, d), (9, 0)] [] σ = some ((9, 0), τ) ∧ cg1 365 σ τ ∧ eqh (τ.1 365) (hB0 d) := by
  rw [qM_bare_0]
  exact M_bare_2 d 9 0 σ rfl (cg1_rf _ _) (fun i hi => absurd hi (Nat.not_lt_zero i))
theorem ev_cb_cg {m m' : Nat → Nat → Int} {h y d k : Int} (e : ∀ a, 330 ≤ a → a ≤ 332 → m' a = m a) : ∀ n, ev_cb m' h y d k n = ev_cb m h y d k n
  | 0 => rfl
  | n + 1 => by
    show ev_cb m' h y d k n + (if m' 330 n = h ∧ m' 332 n ≤ k ∧ y < m' 331 n ∧ m' 331 n ≤ d then 1 else 0) = ev_cb m h y d k n + _
    rw [ev_cb_cg e n, e 330 (by decide) (by decide), e 331 (by decide) (by decide), e 332 (by decide) (by decide)]
theorem ev_mi_ag {τ : xS} (h : ag σ τ) (s d k : Int) : ev_mi τ.1 s d k = ev_mi σ.1 s d k := by
  unfold ev_mi
  rw [bk_pl_ag h, bk_si_ag h, h.sl (a := 305) (k := 36) rfl, ev_cb_cg (fun a h1 h2 => h.cl (by omega))]
theorem ev_mi_cg {τ : xS} (h : cg1 254 σ τ) {s d k : Int} : ev_mi τ.1 s d k = ev_mi σ.1 s d k := ev_mi_ag (cg1_ag tm254 h) s d k
/-- a sort's -/
theorem C_holdSort (hS : st_J σ.1) {so : Int} (h0 : 0 ≤ so ∧ so < σ.1 305 6) {h : Nat → Int} {τ : xS} (hτ : cg1 254 σ τ) (e : eqh (τ.1 254) h) : ∃ τ', X iLedger_holdSort 0 [(2, 243), (0, so)] [] τ = some ((9, 0), τ') ∧ cg1 254 σ τ' ∧ eqh (τ'.1 254) (hSo σ.1 so h) := by
  have h6 := hS.2.1
  obtain ⟨e1, e2, e3, e4, e5, e6⟩ := hS.1
  have hx : xin so 6 := ⟨by omega, by omega⟩
  refine ⟨_, by rw [qLedger_holdSort_0, if_pos hx, if_pos hx, if_pos hx], cg1_s (cg1_s (cg1_s (cg1_s hτ _ _) _ _) _ _) _ _, ?_⟩
  rw [xs_at, xs_at, xs_at, xs_at, hτ.2 205 (by decide), hτ.2 206 (by decide), hτ.2 202 (by decide), e1, e4, e5]
  exact eqh_xup (eqh_xup (eqh_xup (eqh_xup e _ _) _ _) _ _) _ _
theorem M_ofSort (hS : st_J σ.1) {so : Int} (h0 : 0 ≤ so ∧ so < σ.1 305 6) {h : Nat → Int} {τ : xS} (hτ : cg1 365 σ τ) (e : eqh (τ.1 365) h) : ∃ τ', X iM_ofSort 0 [(2, 305), (0, so)] [] τ = some ((9, 0), τ') ∧ cg1 365 σ τ' ∧ eqh (τ'.1 365) (hSo σ.1 so h) := by
  have h6 := hS.2.1
  have hx : xin so 6 := ⟨by omega, by omega⟩
  refine ⟨_, by rw [qM_ofSort_0, if_pos hx, if_pos hx, if_pos hx], cg1_s (cg1_s (cg1_s (cg1_s hτ _ _) _ _) _ _) _ _, ?_⟩
  rw [xs_at, xs_at, xs_at, xs_at, hτ.2 309 (by decide), hτ.2 310 (by decide), hτ.2 306 (by decide)]
  exact eqh_xup (eqh_xup (eqh_xup (eqh_xup e _ _) _ _) _ _) _ _
theorem bk_wa_bd (hB : bk_B σ.1) (s d k : Int) : 0 ≤ bk_wa σ.1 s d k ∧ bk_wa σ.1 s d k ≤ 600 := by
  have h1 := bk_wc_le (m := σ.1) (a := 0) (l := bk_hl σ.1 s d k)
  have h2 := bk_chf_len (m := σ.1) (s := s) (p := bk_H σ.1 d k) (n := bk_n σ.1)
  have h3 : (bk_hl σ.1 s d k).length ≤ bk_n σ.1 := h2
  have h4 : bk_n σ.1 ≤ 600 := by
    have := hB.1
    unfold bk_n
    omega
  unfold bk_wa
  omega
theorem hSo_bd (hS : st_J σ.1) {so : Int} (h0 : 0 ≤ so ∧ so < σ.1 305 6) {h : Nat → Int} (hh : hbd h) : hbd (hSo σ.1 so h) := by
  have h6 := hS.2.1
  obtain ⟨b1, b2, b3, b4, b5⟩ := hS.2.2 so.toNat (by omega)
  exact hbd_xup (hbd_xup (hbd_xup (hbd_xup hh (by omega)) (by omega)) (by omega)) (by omega)
theorem hSh_bd (hP : pJ σ.1) {s d k : Int} (hs : 0 ≤ s ∧ s < σ.1 305 15) (hd : 0 ≤ d ∧ d ≤ 2000) : hbd (hSh σ.1 s d k) := by
  have hB := hP.2.2.1
  have h2 := hB.1.2
  obtain ⟨c1, c2, c3⟩ := hB.2.2.2.2.2.2 s.toNat (by omega)
  have hw := bk_wa_bd hB.1 s d k
  have h0 := hB.2.2.2.1
  exact hbd_xup (hbd_xup (hSo_bd hP.1 ⟨c2.1, c2.2⟩ (hB0_bd hd)) (by omega)) (by omega)
theorem bk_si_bd (hP : pJ σ.1) {s : Int} (hs : 0 ≤ s ∧ s < σ.1 305 15) (d k : Int) : 0 ≤ bk_si σ.1 s d k ∧ bk_si σ.1 s d k ≤ 1000 := by
  have hB := hP.2.2.1
  have h0 := hB.2.2.2.1
  have h2 := hB.1.2
  have hl := bk_last_lt (m := σ.1) (s := s) (d := d) (k := k)
  obtain ⟨c1, c2, c3⟩ := hB.2.2.2.2.2.2 s.toNat (by omega)
  unfold bk_si
  by_cases c : bk_last σ.1 s d k < 0
  · rw [if_pos c]; omega
  · rw [if_neg c]
    have := (hB.2.2.2.2.2.1 (bk_last σ.1 s d k).toNat (by omega))
    have h318 := hB.2.2.2.2.2.2 (σ.1 318 (bk_last σ.1 s d k).toNat).toNat (by omega)
    omega
theorem hPl_bd (hP : pJ σ.1) {s d k : Int} (hs : 0 ≤ s ∧ s < σ.1 305 15) (hd : 0 ≤ d ∧ d ≤ 2000) : hbd (hPl σ.1 s d k) := by
  have hB := hP.2.2.1
  have hpl := bk_pl_le hB.2.2.2 hP.2.1 s d k
  have hsi := bk_si_bd hP hs d k
  have hmi := ev_mi_le (m := σ.1) (s := s) (d := d) (k := k)
  unfold hPl
  by_cases c : bk_pl σ.1 s d k < 10
  · rw [if_pos c]; exact hSh_bd hP hs hd
  · rw [if_neg c]
    have h11 := hP.2.1.2.1
    have hk := (hP.2.1.2.2 (bk_pl σ.1 s d k - 10).toNat (by omega)).1
    exact hbd_xup (hbd_xup (hbd_xup (hSh_bd hP hs hd) (by omega)) (by omega)) (by omega)
theorem ag_2 {σ τ : xS} (h : ag σ τ) : xdp τ = xdp σ := congrArg (fun z => z.2.2.1) h.1
/-- a sheet's -/
theorem C_holdSheet (hP : pJ σ.1) {s d k : Int} (hs : 0 ≤ s ∧ s < σ.1 305 15) (hd : 0 ≤ d ∧ d ≤ 2000) : ∃ τ', X iLedger_holdSheet 0 [(2, 243), (0, s), (0, d), (0, k)] [] σ = some ((9, 0), τ') ∧ cg1 254 σ τ' ∧ eqh (τ'.1 254) (hSh σ.1 s d k) := by
  have hB := hP.2.2.1
  have h2 := hB.1.2
  have h0 := hB.2.2.2.1
  obtain ⟨c1, c2, c3⟩ := hB.2.2.2.2.2.2 s.toNat (by omega)
  have hx : xin s 150 := ⟨by omega, by omega⟩
  obtain ⟨τ1, q1, q2, q3⟩ := C_holdDay (σ := σ) d
  obtain ⟨τ2, r1, r2, r3⟩ := C_holdSort hP.1 ⟨c2.1, c2.2⟩ q2 q3
  have ha := cg1_ag tm254 r2
  have hJ2 := pJ_ag ha hP
  refine ⟨_, by rw [qLedger_holdSheet_0, q1, Option.bind_some, qLedger_holdSheet_5, if_pos hx, q2.2 217 (by decide), hB.2.1.2.1.1, r1, Option.bind_some, qLedger_holdSheet_18, B_washesAt hJ2.2.2.1 (by rw [r2.2 305 (by decide)]; exact hs), Option.bind_some, qLedger_holdSheet_38, if_pos (xin_of (by decide) (by decide)), if_pos hx], cg1_s (cg1_s r2 _ _) _ _, ?_⟩
  rw [xs_at, xs_at, bk_wa_ag ha, r2.2 219 (by decide), hB.2.1.2.1.2.2, xw_id (by omega) (by omega)]
  exact eqh_xup (eqh_xup r3 _ _) _ _
theorem M_ofSheet (hP : pJ σ.1) {s d k : Int} (hs : 0 ≤ s ∧ s < σ.1 305 15) (hd : 0 ≤ d ∧ d ≤ 2000) : ∃ τ', X iM_ofSheet 0 [(2, 305), (0, s), (0, d), (0, k)] [] σ = some ((9, 0), τ') ∧ (ag σ τ' ∧ ∀ a, a ≠ 324 → a ≠ 305 → a ≠ 365 → τ'.1 a = σ.1 a) ∧ eqh (τ'.1 365) (hSh σ.1 s d k) := by
  have hB := hP.2.2.1
  have h2 := hB.1.2
  have h0 := hB.2.2.2.1
  obtain ⟨c1, c2, c3⟩ := hB.2.2.2.2.2.2 s.toNat (by omega)
  have hx : xin s 150 := ⟨by omega, by omega⟩
  obtain ⟨τ1, q1, q2, q3⟩ := M_bare (σ := σ) d
  obtain ⟨τ2, r1, r2, r3⟩ := M_ofSort hP.1 ⟨c2.1, c2.2⟩ q2 q3
  have ha := cg1_ag tm365 r2
  have hJ2 := pJ_ag ha hP
  obtain ⟨τ3, s1, s2⟩ := MW_washesOf hJ2.2.2.1.1 s d k
  have ha3 := ag_tr ha s2.1
  have e3 : τ3.1 365 = τ2.1 365 := s2.2 365 (by decide) (by decide)
  refine ⟨_, by rw [qM_ofSheet_0, q1, Option.bind_some, qM_ofSheet_5, if_pos hx, q2.2 315 (by decide), r1, Option.bind_some, qM_ofSheet_15, s1, Option.bind_some, qM_ofSheet_27, if_pos (xin_of (by decide) (by decide)), if_pos hx], ⟨ag_tr ha3 (ag_tr (ag_sS rfl) (ag_sS rfl)), fun a a1 a2 a3 => by rw [xs_ne a3, xs_ne a3, s2.2 a a1 a2, r2.2 a a3]⟩, ?_⟩
  rw [xs_at, xs_at, bk_wa_ag ha, ha3.cl (a := 317) (by omega), e3, xw_id (by omega) (by omega)]
  exact eqh_xup (eqh_xup r3 _ _) _ _
/-- where it is -/
theorem C_holdSheetInPlace (hP : pJ σ.1) {s d k : Int} (hs : 0 ≤ s ∧ s < σ.1 305 15) (hd : 0 ≤ d ∧ d ≤ 2000) : ∃ τ', X iLedger_holdSheetInPlace 0 [(2, 243), (0, s), (0, d), (0, k), (9, 0)] [] σ = some ((9, 0), τ') ∧ cg1 254 σ τ' ∧ eqh (τ'.1 254) (hPl σ.1 s d k) := by
  have hB := hP.2.2.1
  have hpl := bk_pl_le hB.2.2.2 hP.2.1 s d k
  have hsi := bk_si_bd hP hs d k
  have h11 := hP.2.1.2.1
  obtain ⟨τ1, q1, q2, q3⟩ := C_holdSheet hP (k := k) hs hd
  have ha := cg1_ag tm254 q2
  have hJ1 := pJ_ag ha hP
  have hs1 : 0 ≤ s ∧ s < τ1.1 305 15 := by rw [q2.2 305 (by decide)]; exact hs
  rw [qLedger_holdSheetInPlace_0, q1, Option.bind_some, qLedger_holdSheetInPlace_7, B_placeAt hJ1.2.2.1 hs1, Option.bind_some, qLedger_holdSheetInPlace_17, bk_pl_ag ha]
  unfold hPl
  by_cases c : bk_pl σ.1 s d k < 10
  · rw [if_pos c, if_pos c]
    exact ⟨τ1, rfl, q2, q3⟩
  · rw [if_neg c, if_neg c, xw_id (x := bk_pl σ.1 s d k - 10) (by omega) (by omega), if_pos (xin_of (by omega) (by omega))]
    have c2 : cg1 254 σ (xs τ1 254 6 (τ1.1 210 (bk_pl σ.1 s d k - 10).toNat)) := cg1_s q2 _ _
    have ha2 := cg1_ag tm254 c2
    have hJ2 := pJ_ag ha2 hP
    rw [B_sinceAt hJ2.2.2.1 (by rw [c2.2 305 (by decide)]; exact hs), Option.bind_some, qLedger_holdSheetInPlace_56, if_pos (xin_of (by decide) (by decide)), bk_si_ag ha2, xw_id (x := d - bk_si σ.1 s d k) (by omega) (by omega)]
    have c3 : cg1 254 σ (xs (xs τ1 254 6 (τ1.1 210 (bk_pl σ.1 s d k - 10).toNat)) 254 (7 : Int).toNat (d - bk_si σ.1 s d k)) := cg1_s c2 _ _
    have ha3 := cg1_ag tm254 c3
    have hJ3 := pJ_ag ha3 hP
    rw [E_missesOf hJ3 (by rw [c3.2 305 (by decide)]; exact hs), Option.bind_some, qLedger_holdSheetInPlace_79, if_pos (xin_of (by decide) (by decide))]
    refine ⟨_, rfl, cg1_s c3 _ _, ?_⟩
    rw [xs_at, xs_at, xs_at, q2.2 210 (by decide), hP.2.1.1.1]
    have em : ev_mi (xs (xs τ1 254 6 (σ.1 311 (bk_pl σ.1 s d k - 10).toNat)) 254 (7 : Int).toNat (d - bk_si σ.1 s d k)).1 s d k = ev_mi σ.1 s d k := by
      have c3' : cg1 254 σ (xs (xs τ1 254 6 (σ.1 311 (bk_pl σ.1 s d k - 10).toNat)) 254 (7 : Int).toNat (d - bk_si σ.1 s d k)) := cg1_s (cg1_s q2 _ _) _ _
      exact ev_mi_cg c3'
    rw [em]
    exact eqh_xup (eqh_xup (eqh_xup q3 _ _) _ _) _ _
end HOLDS

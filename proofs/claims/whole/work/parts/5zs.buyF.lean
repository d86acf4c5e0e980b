/-! buying: the reference's plan, the call -/
theorem xw_51 {a b : Nat} (h : 51 * a + b < 600) : xw (xw (51 * (a : Int)) + (b : Int)) = ((51 * a + b : Nat) : Int) := by
  rw [xw_id (x := 51 * (a : Int)) (by omega) (by omega), xw_id (by omega) (by omega)]; omega
theorem xw_51c {a b n : Nat} (h : 51 * a + (b + n) < 600) : xw (xw (xw (51 * (a : Int)) + (b : Int)) + (n : Int)) = ((51 * a + (b + n) : Nat) : Int) := by
  rw [xw_id (x := 51 * (a : Int)) (by omega) (by omega), xw_id (x := 51 * (a : Int) + (b : Int)) (by omega) (by omega), xw_id (by omega) (by omega)]; omega
theorem xw_pl {a b : Nat} (h : a + b < 600) : xw ((a : Int) + (b : Int)) = ((a + b : Nat) : Int) := by
  rw [xw_id (by omega) (by omega)]; omega
section BUYF
variable {σ : xS} {fl : Nat → Int} {P C K : Int} {d : Nat}
theorem M_costOf (hP : 1 ≤ P ∧ P ≤ 20) (hC : 0 ≤ C ∧ C ≤ 1000) (hK : 0 ≤ K ∧ K ≤ 100) (h0 : σ.1 305 121 = P) (h1 : σ.1 305 122 = C) (h2 : σ.1 305 123 = K) {dy b n : Nat} (hdy : dy < 10) (hbn : b + n ≤ 50) (hn : n ≤ 5) {f L : Int} (hf : σ.1 390 dy = f) (hfb : -100000 ≤ f ∧ f ≤ 200) (hL : σ.1 391 (51 * (dy + 1) + (b + n)) = L) (hLb : -1 ≤ L ∧ L ≤ 2000000) : X iM_costOf 0 [(2, 305), (0, (dy : Int)), (0, (b : Int)), (0, (n : Int)), (9, 0), (9, 0), (9, 0)] [] σ = some ((1, by_c1 P C K (f + P * (b : Int)) L n), σ) := by
  obtain ⟨l1, l2, l3⟩ := by_lc (x := ((b + n : Nat) : Int)) (n := (n : Int)) (l := f) hP hC hK (by omega) (by omega) (by omega)
  have hx1 : xin (dy : Int) 11 := ⟨by omega, by omega⟩
  have hi1 : b + n < 600 := by omega
  have hi2 : (dy : Int) < 600 := by omega
  have hi3 : 51 * (dy + 1) + (b + n) < 600 := by omega
  have e4 : f + P * (b : Int) + P * (n : Int) = f + P * ((b + n : Nat) : Int) := by
    rw [show ((b + n : Nat) : Int) = (b : Int) + (n : Int) by omega, Int.mul_add]; omega
  rw [qM_costOf_0, if_pos hx1, Int.toNat_natCast, hf, h0, h1, h2, xw_pl hi1, xw_t hi2, xw_51c hi3, Int.toNat_natCast, hL]
  rw [xw_id (x := P * ((b + n : Nat) : Int)) (by omega) (by omega), xw_id (x := f + P * ((b + n : Nat) : Int)) (by omega) (by omega)]
  unfold by_c1
  rw [e4]
  by_cases c1 : f + P * ((b + n : Nat) : Int) < 0
  · rw [if_pos c1, if_pos c1]
  · have l4 := l3 (by omega)
    rw [if_neg c1, if_neg c1, if_pos (xin_of (by omega) (by omega))]
    by_cases c2 : L < 0
    · rw [if_pos c2, if_pos c2]
    · rw [if_neg c2, if_neg c2, xW_id (x := C * (n : Int)) (by omega) (by omega), xW_id (x := K * (f + P * ((b + n : Nat) : Int))) (by omega) (by omega), xW_id (x := L + C * (n : Int)) (by omega) (by omega), xW_id (by omega) (by omega)]
/-- a place of the reference's grid -/
def rowM (fl : Nat → Int) (P C K : Int) (d : Nat) (τ : xS) (dy b : Nat) : Prop := τ.1 391 (51 * dy + b) = (by_v fl P C K d (d - dy) b).1
/-- what the plan stands on -/
def plM (σ : xS) (fl : Nat → Int) (P C K : Int) (d : Nat) : Prop := (d ≤ 10 ∧ (1 ≤ P ∧ P ≤ 20) ∧ (0 ≤ C ∧ C ≤ 1000) ∧ (0 ≤ K ∧ K ≤ 100)) ∧ (∀ i, fl i ≤ 150 ∧ (i < d → -100000 ≤ fl i)) ∧ (σ.1 305 121 = P ∧ σ.1 305 122 = C ∧ σ.1 305 123 = K) ∧ ∀ i, i < d → σ.1 390 i = fl i
theorem M_pl_cost (hM : plM σ fl P C K d) {τ : xS} (hc : cg1 391 σ τ) {dy : Nat} (hdy : dy < d) {b n : Nat} (hb : b ≤ 5 * dy) (hn : n ≤ 5) (hr : rowM fl P C K d τ (dy + 1) (b + n)) : X iM_costOf 0 [(2, 305), (0, (dy : Int)), (0, (b : Int)), (0, (n : Int)), (9, 0), (9, 0), (9, 0)] [] τ = some ((1, by_c1 P C K (fl dy + P * (b : Int)) (by_v fl P C K d (d - (dy + 1)) (b + n)).1 n), τ) := by
  obtain ⟨⟨m1, m2, m3, m4⟩, m5, ⟨m6, m7, m8⟩, m9⟩ := hM
  have hb1 := (by_vb (fl := fl) (d := d) m2 m3 m4 (fun i => by have := (m5 i).1; omega) (d - (dy + 1)) (b + n) (by omega)).1
  have f1 := m5 dy
  have f2 := f1.2 hdy
  exact M_costOf m2 m3 m4 (by rw [hc.2 305 (by decide)]; exact m6) (by rw [hc.2 305 (by decide)]; exact m7) (by rw [hc.2 305 (by decide)]; exact m8) (by omega) (by omega) hn (by rw [hc.2 390 (by decide)]; exact m9 dy hdy) (by omega) hr (by omega)
theorem M_pl_176 (hM : plM σ fl P C K d) {dy : Nat} (hdy : dy < d) {b : Nat} (hb : b ≤ 5 * dy) {τ : xS} (hc : cg1 391 σ τ) (hr1 : ∀ b', b' ≤ 5 * (dy + 1) → rowM fl P C K d τ (dy + 1) b') (w1 w2 v3 w4 : xAV) (w3 : Int) : ∀ (u n : Nat) (w10 w11 : xAV), n + u = 6 → ∃ w10' w11', X iM_buy 176 [(2, 305), w1, w2, (0, w3), w4, (0, (dy : Int)), (0, (b : Int)), (1, (by_g (fun n => by_c1 P C K (fl dy + P * (b : Int)) (by_v fl P C K d (d - (dy + 1)) (b + n)).1 n) n).1), (8, 0), (0, (n : Int)), w10, w11] [] τ = X iM_buy 176 [(2, 305), w1, w2, (0, w3), w4, (0, (dy : Int)), (0, (b : Int)), (1, (by_v fl P C K d (d - dy) b).1), (8, 0), (0, 6), w10', w11'] [] τ := by
  have ev := by_v_s fl P C K hdy b
  intro u
  induction u with
  | zero =>
    intro n w10 w11 hn
    refine ⟨w10, w11, ?_⟩
    rw [show n = 6 by omega, ev]
    rfl
  | succ u ih =>
    intro n w10 w11 hn
    have hc1 := M_pl_cost hM hc hdy hb (n := n) (by omega) (hr1 (b + n) (by omega))
    rw [qM_buy_176, if_neg (by omega), hc1, Option.bind_some, qM_buy_192, xw_t (by omega)]
    have eg : by_g (fun n => by_c1 P C K (fl dy + P * (b : Int)) (by_v fl P C K d (d - (dy + 1)) (b + n)).1 n) (n + 1) = if by_c1 P C K (fl dy + P * (b : Int)) (by_v fl P C K d (d - (dy + 1)) (b + n)).1 n < 0 then by_g (fun n => by_c1 P C K (fl dy + P * (b : Int)) (by_v fl P C K d (d - (dy + 1)) (b + n)).1 n) n else if (by_g (fun n => by_c1 P C K (fl dy + P * (b : Int)) (by_v fl P C K d (d - (dy + 1)) (b + n)).1 n) n).1 < 0 then (by_c1 P C K (fl dy + P * (b : Int)) (by_v fl P C K d (d - (dy + 1)) (b + n)).1 n, n) else if by_c1 P C K (fl dy + P * (b : Int)) (by_v fl P C K d (d - (dy + 1)) (b + n)).1 n < (by_g (fun n => by_c1 P C K (fl dy + P * (b : Int)) (by_v fl P C K d (d - (dy + 1)) (b + n)).1 n) n).1 then (by_c1 P C K (fl dy + P * (b : Int)) (by_v fl P C K d (d - (dy + 1)) (b + n)).1 n, n) else by_g (fun n => by_c1 P C K (fl dy + P * (b : Int)) (by_v fl P C K d (d - (dy + 1)) (b + n)).1 n) n := rfl
    have kk := fun w10 w11 => ih (n + 1) w10 w11 (by omega)
    rw [eg] at kk
    by_cases c1 : by_c1 P C K (fl dy + P * (b : Int)) (by_v fl P C K d (d - (dy + 1)) (b + n)).1 n < 0
    · rw [if_pos c1] at kk
      rw [if_pos c1]
      exact kk _ _
    · rw [if_neg c1] at kk
      rw [if_neg c1]
      by_cases c2 : (by_g (fun n => by_c1 P C K (fl dy + P * (b : Int)) (by_v fl P C K d (d - (dy + 1)) (b + n)).1 n) n).1 < 0
      · rw [if_pos c2] at kk
        rw [if_pos c2]
        exact kk _ _
      · rw [if_neg c2] at kk
        rw [if_neg c2]
        by_cases c3 : by_c1 P C K (fl dy + P * (b : Int)) (by_v fl P C K d (d - (dy + 1)) (b + n)).1 n < (by_g (fun n => by_c1 P C K (fl dy + P * (b : Int)) (by_v fl P C K d (d - (dy + 1)) (b + n)).1 n) n).1
        · rw [if_pos c3] at kk
          rw [if_pos c3]
          exact kk _ _
        · rw [if_neg c3] at kk
          rw [if_neg c3]
          exact kk _ _
theorem M_pl_159 (hM : plM σ fl P C K d) {dy : Nat} (hdy : dy < d) (w1 w2 w4 : xAV) (w3 : Int) : ∀ (n b : Nat) (τ : xS) (w7 w8 w9 w10 w11 : xAV), b + n = 5 * dy + 1 → cg1 391 σ τ → (∀ dy', dy < dy' → dy' ≤ d → ∀ b', b' ≤ 5 * dy' → rowM fl P C K d τ dy' b') → (∀ b', b' < b → rowM fl P C K d τ dy b') → ∃ τ' w6' w7' w8' w9' w10' w11', X iM_buy 159 [(2, 305), w1, w2, (0, w3), w4, (0, (dy : Int)), (0, (b : Int)), w7, w8, w9, w10, w11] [] τ = X iM_buy 151 [(2, 305), w1, w2, (0, w3), w4, (0, (dy : Int) - 1), w6', w7', w8', w9', w10', w11'] [] τ' ∧ cg1 391 σ τ' ∧ ∀ dy', dy ≤ dy' → dy' ≤ d → ∀ b', b' ≤ 5 * dy' → rowM fl P C K d τ' dy' b' := by
  have hd10 := hM.1.1
  intro n
  induction n with
  | zero =>
    intro b τ w7 w8 w9 w10 w11 hb hc hr1 hr2
    refine ⟨τ, _, _, _, _, _, _, by rw [qM_buy_159, xw_id (x := 5 * (dy : Int)) (by omega) (by omega), if_pos (by omega), xw_id (x := (dy : Int) + -1) (by omega) (by omega), show (dy : Int) + -1 = (dy : Int) - 1 by omega], hc, fun dy' g1 g2 b' g3 => ?_⟩
    by_cases e : dy' = dy
    · rw [e]; exact hr2 b' (by omega)
    · exact hr1 dy' (by omega) g2 b' g3
  | succ n ih =>
    intro b τ w7 w8 w9 w10 w11 hb hc hr1 hr2
    obtain ⟨w10', w11', q⟩ := M_pl_176 hM hdy (b := b) (by omega) hc (fun b' g => hr1 (dy + 1) (by omega) (by omega) b' g) w1 w2 w1 w4 w3 6 0 w10 w11 rfl
    have q : X iM_buy 176 [(2, 305), w1, w2, (0, w3), w4, (0, (dy : Int)), (0, (b : Int)), (1, -1), (8, 0), (0, 0), w10, w11] [] τ = _ := q
    have ei : 51 * dy + b < 600 := by omega
    obtain ⟨τ', a6, a7, a8, a9, a10, a11, y1, y2, y3⟩ := ih (b + 1) (xs τ 391 (51 * dy + b) (by_v fl P C K d (d - dy) b).1) (1, (by_v fl P C K d (d - dy) b).1) (8, 0) (0, 6) w10' w11' (by omega) (cg1_s hc _ _) (fun dy' g1 g2 b' g3 => by
      unfold rowM
      rw [xs_at, xup_ne (by omega)]
      exact hr1 dy' g1 g2 b' g3) (fun b' g => by
      unfold rowM
      rw [xs_at]
      by_cases e : b' = b
      · rw [e, xup_eq]
      · rw [xup_ne (by omega)]; exact hr2 b' (by omega))
    refine ⟨τ', a6, a7, a8, a9, a10, a11, ?_, y2, y3⟩
    rw [qM_buy_159, xw_id (x := 5 * (dy : Int)) (by omega) (by omega), if_neg (by omega), q, qM_buy_176, if_pos (by decide), xw_51 ei, if_pos (xin_of (by omega) (by omega)), Int.toNat_natCast, xw_t (by omega)]
    exact y1
theorem M_pl_151 (hM : plM σ fl P C K d) (w1 w2 w4 : xAV) (w3 : Int) : ∀ (n : Nat) (τ : xS) (w6 w7 w8 w9 w10 w11 : xAV), n ≤ d → cg1 391 σ τ → (∀ dy', n ≤ dy' → dy' ≤ d → ∀ b', b' ≤ 5 * dy' → rowM fl P C K d τ dy' b') → ∃ τ' w6' w7' w8' w9' w10' w11', X iM_buy 151 [(2, 305), w1, w2, (0, w3), w4, (0, (n : Int) - 1), w6, w7, w8, w9, w10, w11] [] τ = X iM_buy 151 [(2, 305), w1, w2, (0, w3), w4, (0, -1), w6', w7', w8', w9', w10', w11'] [] τ' ∧ cg1 391 σ τ' ∧ ∀ dy', dy' ≤ d → ∀ b', b' ≤ 5 * dy' → rowM fl P C K d τ' dy' b' := by
  intro n
  induction n with
  | zero =>
    intro τ w6 w7 w8 w9 w10 w11 _ hc hr
    exact ⟨τ, w6, w7, w8, w9, w10, w11, rfl, hc, fun dy' g1 b' g2 => hr dy' (Nat.zero_le _) g1 b' g2⟩
  | succ n ih =>
    intro τ w6 w7 w8 w9 w10 w11 hn hc hr
    obtain ⟨τ1, a6, a7, a8, a9, a10, a11, q1, q2, q3⟩ := M_pl_159 hM (dy := n) (by omega) w1 w2 w4 w3 (5 * n + 1) 0 τ w7 w8 w9 w10 w11 (by omega) hc (fun dy' g1 g2 => hr dy' (by omega) g2) (fun b' g => absurd g (Nat.not_lt_zero b'))
    have q1 : X iM_buy 159 [(2, 305), w1, w2, (0, w3), w4, (0, (n : Int)), (0, 0), w7, w8, w9, w10, w11] [] τ = _ := q1
    obtain ⟨τ', b6, b7, b8, b9, b10, b11, y1, y2⟩ := ih τ1 a6 a7 a8 a9 a10 a11 (by omega) q2 q3
    refine ⟨τ', b6, b7, b8, b9, b10, b11, ?_, y2⟩
    rw [show ((n + 1 : Nat) : Int) - 1 = (n : Int) by omega, qM_buy_151, if_neg (by omega), q1, y1]
theorem M_pl_120 (hd10 : d ≤ 10) (w1 w4 w6 w7 w8 w9 w10 w11 : xAV) (w3 : Int) : ∀ (n b : Nat) (τ : xS), b + n = 51 → cg1 391 σ τ → (∀ b', b' < b → τ.1 391 (51 * d + b') = 0) → ∃ τ' w4', X iM_buy 120 [(2, 305), w1, (0, (d : Int)), (0, w3), w4, (0, (b : Int)), w6, w7, w8, w9, w10, w11] [] τ = X iM_buy 151 [(2, 305), w1, (0, (d : Int)), (0, w3), w4', (0, (d : Int) - 1), w6, w7, w8, w9, w10, w11] [] τ' ∧ cg1 391 σ τ' ∧ ∀ b', b' < 51 → τ'.1 391 (51 * d + b') = 0 := by
  intro n
  induction n with
  | zero =>
    intro b τ hb hc hr
    exact ⟨τ, xkl w4, by rw [qM_buy_120, if_pos (by omega), xw_id (x := (d : Int) - 1) (by omega) (by omega)], hc, fun b' g => hr b' (by omega)⟩
  | succ n ih =>
    intro b τ hb hc hr
    rw [qM_buy_120, if_neg (by omega), xw_51 (by omega), if_pos (xin_of (by omega) (by omega)), Int.toNat_natCast, xw_t (by omega)]
    refine ih (b + 1) _ (by omega) (cg1_s hc _ _) (fun b' g => ?_)
    rw [xs_at]
    by_cases e : b' = b
    · rw [e, xup_eq]
    · rw [xup_ne (by omega)]; exact hr b' (by omega)
/-- how many lots are bought ahead of a day, on the best road -/
def bth (fl : Nat → Int) (P C K : Int) (d : Nat) : Nat → Nat
  | 0 => 0
  | i + 1 => bth fl P C K d i + (by_v fl P C K d (d - i) (bth fl P C K d i)).2
theorem bth_ok (hM : plM σ fl P C K d) (h0 : 0 ≤ (by_v fl P C K d d 0).1) : ∀ i, i ≤ d → bth fl P C K d i ≤ 5 * i ∧ 0 ≤ (by_v fl P C K d (d - i) (bth fl P C K d i)).1
  | 0, _ => ⟨Nat.le_refl _, h0⟩
  | i + 1, hi => by
    obtain ⟨⟨m1, m2, m3, m4⟩, m5, _⟩ := id hM
    obtain ⟨ih1, ih2⟩ := bth_ok hM h0 i (by omega)
    have hb := by_vb (fl := fl) (d := d) m2 m3 m4 (fun i => by have := (m5 i).1; omega) (d - i) (bth fl P C K d i) (by omega)
    have ev := by_v_s fl P C K (show i < d by omega) (bth fl P C K d i)
    rw [ev] at ih2
    have hg := by_g_in (c := fun n => by_c1 P C K (fl i + P * ((bth fl P C K d i : Nat) : Int)) (by_v fl P C K d (d - (i + 1)) (bth fl P C K d i + n)).1 n) (k := 6)
    rcases hg with ⟨g1, _⟩ | ⟨g1, g2, g3, _, _⟩
    · omega
    · refine ⟨?_, ?_⟩
      · show bth fl P C K d i + (by_v fl P C K d (d - i) (bth fl P C K d i)).2 ≤ 5 * (i + 1)
        omega
      · have e2 : bth fl P C K d (i + 1) = bth fl P C K d i + (by_v fl P C K d (d - i) (bth fl P C K d i)).2 := rfl
        rw [e2, ev]
        have g3 : by_c1 P C K (fl i + P * ((bth fl P C K d i : Nat) : Int)) (by_v fl P C K d (d - (i + 1)) (bth fl P C K d i + (by_g (fun n => by_c1 P C K (fl i + P * ((bth fl P C K d i : Nat) : Int)) (by_v fl P C K d (d - (i + 1)) (bth fl P C K d i + n)).1 n) 6).2)).1 (by_g (fun n => by_c1 P C K (fl i + P * ((bth fl P C K d i : Nat) : Int)) (by_v fl P C K d (d - (i + 1)) (bth fl P C K d i + n)).1 n) 6).2 = (by_g (fun n => by_c1 P C K (fl i + P * ((bth fl P C K d i : Nat) : Int)) (by_v fl P C K d (d - (i + 1)) (bth fl P C K d i + n)).1 n) 6).1 := g3
        rw [← g3] at g1
        by_cases z : (by_v fl P C K d (d - (i + 1)) (bth fl P C K d i + (by_g (fun n => by_c1 P C K (fl i + P * ((bth fl P C K d i : Nat) : Int)) (by_v fl P C K d (d - (i + 1)) (bth fl P C K d i + n)).1 n) 6).2)).1 < 0
        · exfalso
          unfold by_c1 at g1
          by_cases y : fl i + P * ((bth fl P C K d i : Nat) : Int) + P * ((by_g (fun n => if fl i + P * ((bth fl P C K d i : Nat) : Int) + P * (n : Int) < 0 then -1 else if (by_v fl P C K d (d - (i + 1)) (bth fl P C K d i + n)).1 < 0 then -1 else (by_v fl P C K d (d - (i + 1)) (bth fl P C K d i + n)).1 + C * (n : Int) + K * (fl i + P * ((bth fl P C K d i : Nat) : Int) + P * (n : Int))) 6).2 : Int) < 0
          · rw [if_pos y] at g1; exact absurd g1 (by decide)
          · unfold by_c1 at z
            rw [if_neg y, if_pos z] at g1; exact absurd g1 (by decide)
        · omega
theorem L_lotsOn (hM : plM σ fl P C K d) (h0 : 0 ≤ (by_v fl P C K d d 0).1) {τ : xS} (hr : ∀ dy', dy' ≤ d → ∀ b', b' ≤ 5 * dy' → rowC fl P C K d τ dy' b') {k : Nat} (hk : k < d) : ∀ (n i : Nat), i + n = k → X iSupply_lotsOn 4 [(2, 272), (0, (k : Int)), (0, (bth fl P C K d i : Int)), (0, (i : Int))] [] τ = some ((0, ((by_v fl P C K d (d - k) (bth fl P C K d k)).2 : Int)), τ) := by
  have hd10 := hM.1.1
  intro n
  induction n with
  | zero =>
    intro i hi
    have hb := bth_ok hM h0 k (by omega)
    obtain ⟨s1, s2, _, s4⟩ := by_lot (σ := τ) (a := k) (by omega)
    have hrc := (hr k (by omega) _ hb.1).2 hk hb.2
    rw [show i = k by omega, qSupply_lotsOn_4, if_neg (by omega), if_pos (xin_of (by omega) (by omega)), Int.toNat_natCast, s1, s2, xob_some, if_pos (xin_of (by omega) (by omega)), Int.toNat_natCast, s4, hrc]
  | succ n ih =>
    intro i hi
    have hb := bth_ok hM h0 i (by omega)
    have hb2 := bth_ok hM h0 (i + 1) (by omega)
    obtain ⟨s1, s2, _, s4⟩ := by_lot (σ := τ) (a := i) (by omega)
    have hrc := (hr i (by omega) _ hb.1).2 (by omega) hb.2
    have e2 : bth fl P C K d (i + 1) = bth fl P C K d i + (by_v fl P C K d (d - i) (bth fl P C K d i)).2 := rfl
    rw [qSupply_lotsOn_4, if_pos (by omega), if_pos (xin_of (by omega) (by omega)), Int.toNat_natCast, s1, s2, xob_some, if_pos (xin_of (by omega) (by omega)), Int.toNat_natCast, s4, hrc, xw_t (by omega), xw_id (x := (bth fl P C K d i : Int) + ((by_v fl P C K d (d - i) (bth fl P C K d i)).2 : Int)) (by omega) (by omega), show (bth fl P C K d i : Int) + ((by_v fl P C K d (d - i) (bth fl P C K d i)).2 : Int) = (bth fl P C K d (i + 1) : Int) by omega]
    exact ih (i + 1) (by omega)
theorem M_287 (hM : plM σ fl P C K d) (h0 : 0 ≤ (by_v fl P C K d d 0).1) {τ : xS} (hc : cg1 391 σ τ) (hr : ∀ dy', dy' ≤ d → ∀ b', b' ≤ 5 * dy' → rowM fl P C K d τ dy' b') {wh : Nat} (hw : wh ≤ d) (w1 w2 : xAV) : ∀ (n i : Nat) (l : Int) (w4 w8 w9 w10 w11 : xAV), i + n = wh → (0 < i → l = ((by_v fl P C K d (d - (i - 1)) (bth fl P C K d (i - 1))).2 : Int)) → ∃ r, X iM_buy 287 [(2, 305), w1, w2, (0, (wh : Int)), w4, (0, (bth fl P C K d i : Int)), (0, l), (0, (i : Int)), w8, w9, w10, w11] [] τ = some ((0, r), τ) ∧ (0 < wh → r = ((by_v fl P C K d (d - (wh - 1)) (bth fl P C K d (wh - 1))).2 : Int)) := by
  have hd10 := hM.1.1
  obtain ⟨⟨m1, m2, m3, m4⟩, m5, _⟩ := id hM
  intro n
  induction n with
  | zero =>
    intro i l w4 w8 w9 w10 w11 hi hl
    refine ⟨l, by rw [qM_buy_287, if_neg (by omega)], fun z => ?_⟩
    have := hl (by omega)
    rw [show i = wh by omega] at this
    exact this
  | succ n ih =>
    intro i l w4 w8 w9 w10 w11 hi hl
    have hb := bth_ok hM h0 i (by omega)
    have ev := by_v_s fl P C K (show i < d by omega) (bth fl P C K d i)
    have hg := by_g_in (c := fun n => by_c1 P C K (fl i + P * ((bth fl P C K d i : Nat) : Int)) (by_v fl P C K d (d - (i + 1)) (bth fl P C K d i + n)).1 n) (k := 6)
    have hvb := by_vb (fl := fl) (d := d) m2 m3 m4 (fun i => by have := (m5 i).1; omega) (d - i) (bth fl P C K d i) (by omega)
    rw [← ev] at hg
    rcases hg with ⟨g1, _⟩ | ⟨g1, g2, g3, _, g5⟩
    · exact absurd hb.2 (by omega)
    have ei : 51 * i + bth fl P C K d i < 600 := by omega
    have hrow : τ.1 391 (51 * i + bth fl P C K d i) = (by_v fl P C K d (d - i) (bth fl P C K d i)).1 := hr i (by omega) _ hb.1
    have srch : ∀ (t m : Nat), m + t = (by_v fl P C K d (d - i) (bth fl P C K d i)).2 → ∃ w4', X iM_buy 296 [(2, 305), w1, w2, (0, (wh : Int)), w4, (0, (bth fl P C K d i : Int)), (0, l), (0, (i : Int)), (0, (m : Int)), w9, w10, w11] [] τ = X iM_buy 287 [(2, 305), w1, w2, (0, (wh : Int)), w4', (0, (bth fl P C K d (i + 1) : Int)), (0, ((by_v fl P C K d (d - i) (bth fl P C K d i)).2 : Int)), (0, ((i + 1 : Nat) : Int)), (0, ((by_v fl P C K d (d - i) (bth fl P C K d i)).2 : Int)), w9, w10, w11] [] τ := by
      intro t
      induction t with
      | zero =>
        intro m hm
        have em : m = (by_v fl P C K d (d - i) (bth fl P C K d i)).2 := by omega
        have hcost := M_pl_cost hM hc (show i < d by omega) hb.1 (n := m) (by omega) (hr (i + 1) (by omega) (bth fl P C K d i + m) (by omega))
        have e2 : bth fl P C K d (i + 1) = bth fl P C K d i + (by_v fl P C K d (d - i) (bth fl P C K d i)).2 := rfl
        have g3 : by_c1 P C K (fl i + P * ((bth fl P C K d i : Nat) : Int)) (by_v fl P C K d (d - (i + 1)) (bth fl P C K d i + m)).1 m = (by_v fl P C K d (d - i) (bth fl P C K d i)).1 := by rw [em]; exact g3
        refine ⟨xkl w4, ?_⟩
        rw [qM_buy_296, hcost, Option.bind_some, qM_buy_306, xw_51 ei, if_pos (xin_of (by omega) (by omega)), Int.toNat_natCast, hrow, if_pos g3, xw_t (by omega), xw_id (x := (bth fl P C K d i : Int) + (m : Int)) (by omega) (by omega), show (bth fl P C K d i : Int) + (m : Int) = (bth fl P C K d (i + 1) : Int) by omega, em]
      | succ t iht =>
        intro m hm
        have hcost := M_pl_cost hM hc (show i < d by omega) hb.1 (n := m) (by omega) (hr (i + 1) (by omega) (bth fl P C K d i + m) (by omega))
        have g6 : ¬ by_c1 P C K (fl i + P * ((bth fl P C K d i : Nat) : Int)) (by_v fl P C K d (d - (i + 1)) (bth fl P C K d i + m)).1 m = (by_v fl P C K d (d - i) (bth fl P C K d i)).1 := g5 m (by omega)
        rw [qM_buy_296, hcost, Option.bind_some, qM_buy_306, xw_51 ei, if_pos (xin_of (by omega) (by omega)), Int.toNat_natCast, hrow, if_neg g6, xw_t (by omega)]
        exact iht (m + 1) (by omega)
    obtain ⟨w4', q⟩ := srch _ 0 (Nat.zero_add _)
    have q : X iM_buy 296 [(2, 305), w1, w2, (0, (wh : Int)), w4, (0, (bth fl P C K d i : Int)), (0, l), (0, (i : Int)), (0, 0), w9, w10, w11] [] τ = _ := q
    rw [qM_buy_287, if_pos (by omega), q]
    exact ih (i + 1) _ w4' _ _ _ _ (by omega) (fun _ => by rw [show i + 1 - 1 = i by omega])
end BUYF

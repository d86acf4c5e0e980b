/-! buying: the class's plan -/
def byS (W : Nat → Int) : Nat → Int
  | 0 => 0
  | n + 1 => byS W n + W n
/-- what is there, behind so many days, without what is bought -/
def byF (W : Nat → Int) (st : Int) (bk : Nat) : Nat → Int
  | 0 => st
  | n + 1 => byF W st bk n - W n + if bk ≤ n then W (n - bk) else 0
theorem byS_mono {W : Nat → Int} (hW : ∀ i, 0 ≤ W i) : ∀ {n m : Nat}, n ≤ m → byS W n ≤ byS W m := by
  intro n m h
  induction m with
  | zero => rw [show n = 0 by omega]; exact Int.le_refl _
  | succ m ih =>
    by_cases e : n = m + 1
    · rw [e]; exact Int.le_refl _
    · have := ih (by omega)
      have := hW m
      show byS W n ≤ byS W m + W m
      omega
theorem byF_eq {W : Nat → Int} {st : Int} {bk : Nat} (hbk : 1 ≤ bk) : ∀ n, byF W st bk n = st + byS W (n - bk) - byS W n
  | 0 => by
    rw [show 0 - bk = 0 by omega]
    show st = st + 0 - 0
    omega
  | n + 1 => by
    show byF W st bk n - W n + (if bk ≤ n then W (n - bk) else 0) = st + byS W (n + 1 - bk) - (byS W n + W n)
    rw [byF_eq hbk n]
    by_cases c : bk ≤ n
    · rw [if_pos c, show n + 1 - bk = (n - bk) + 1 by omega]
      show _ = st + (byS W (n - bk) + W (n - bk)) - _
      omega
    · rw [if_neg c, show n + 1 - bk = n - bk by omega]
      omega
theorem byF_bd {W : Nat → Int} {st : Int} {bk : Nat} (hbk : 1 ≤ bk) (hW : ∀ i, 0 ≤ W i ∧ W i ≤ 8000) (hst : 0 ≤ st ∧ st ≤ 150) : ∀ n, byF W st bk n ≤ 150 ∧ -8000 * (n : Int) ≤ byF W st bk n := by
  intro n
  have h1 := byS_mono (fun i => (hW i).1) (show n - bk ≤ n by omega)
  have h0 := byS_mono (fun i => (hW i).1) (show 0 ≤ n - bk by omega)
  have h2 : ∀ n : Nat, byS W n ≤ 8000 * (n : Int) := by
    intro n
    induction n with
    | zero => exact Int.le_refl _
    | succ n ih =>
      have := (hW n).2
      show byS W n + W n ≤ 8000 * ((n + 1 : Nat) : Int)
      omega
  have h3 := h2 n
  have h00 : byS W 0 = 0 := rfl
  rw [byF_eq hbk]
  omega
section BUYE
variable {σ : xS}
theorem by_fill {a : Nat} (ha : a < 11) : ∀ (n j : Nat) (τ : xS), j + n = 51 → cg1 (275 + a) σ τ → (∀ i, i < j → τ.1 (275 + a) i = 0) → ∃ τ', X iJR_fill1 5 [(2, ((275 + a : Nat) : Int)), (0, 0), (0, (j : Int)), (0, 51)] [] τ = some ((9, 0), τ') ∧ cg1 (275 + a) σ τ' ∧ ∀ i, i < 51 → τ'.1 (275 + a) i = 0 := by
  intro n
  induction n with
  | zero =>
    intro j τ hj h1 h2
    refine ⟨τ, ?_, h1, fun i hi => h2 i (by omega)⟩
    rw [qJR_fill1_5, if_neg (by omega)]
  | succ n ih =>
    intro j τ hj h1 h2
    obtain ⟨_, s2, _, s4, _⟩ := by_row (σ := τ) ha
    rw [qJR_fill1_5, if_pos (by omega), s2, xob_some, if_pos (xin_of (by omega) (by omega)), Int.toNat_natCast, s4, xob_some, xw_t (by omega)]
    refine ih (j + 1) _ (by omega) (cg1_s h1 _ _) (fun i hi => ?_)
    rw [xs_at, xup_at]
    by_cases e : i = j
    · rw [if_pos e]
    · rw [if_neg e]; exact h2 i (by omega)
theorem by_tm11 {a : Nat} (h : a < 11) (k : Nat) : tmS (275 + a) k = true := by
  have : a = 0 ∨ a = 1 ∨ a = 2 ∨ a = 3 ∨ a = 4 ∨ a = 5 ∨ a = 6 ∨ a = 7 ∨ a = 8 ∨ a = 9 ∨ a = 10 := by omega
  rcases this with rfl | rfl | rfl | rfl | rfl | rfl | rfl | rfl | rfl | rfl | rfl <;> rfl
/-- a place of the class's two grids -/
def rowC (fl : Nat → Int) (P C K : Int) (d : Nat) (τ : xS) (dy b : Nat) : Prop := τ.1 (275 + dy) b = by_e (by_v fl P C K d (d - dy) b).1 ∧ (dy < d → 0 ≤ (by_v fl P C K d (d - dy) b).1 → τ.1 (287 + dy) b = ((by_v fl P C K d (d - dy) b).2 : Int))
theorem by_v_s (fl : Nat → Int) (P C K : Int) {d dy : Nat} (h : dy < d) (b : Nat) : by_v fl P C K d (d - dy) b = by_g (fun n => by_c1 P C K (fl dy + P * (b : Int)) (by_v fl P C K d (d - (dy + 1)) (b + n)).1 n) 6 := by
  rw [show d - dy = (d - (dy + 1)) + 1 by omega]
  show by_g (fun n => if fl (d - (d - (dy + 1) + 1)) + P * ((b + n : Nat) : Int) < 0 then -1 else if (by_v fl P C K d (d - (dy + 1)) (b + n)).1 < 0 then -1 else (by_v fl P C K d (d - (dy + 1)) (b + n)).1 + C * (n : Int) + K * (fl (d - (d - (dy + 1) + 1)) + P * ((b + n : Nat) : Int))) 6 = _
  rw [show d - (d - (dy + 1) + 1) = dy by omega]
  refine congrArg (fun f => by_g f 6) (funext fun n => ?_)
  have e : fl dy + P * ((b + n : Nat) : Int) = fl dy + P * (b : Int) + P * (n : Int) := by
    rw [show ((b + n : Nat) : Int) = (b : Int) + (n : Int) by omega, Int.mul_add]
    omega
  rw [e]
  rfl
section PLAN
variable {fl : Nat → Int} {P C K : Int} {d : Nat}
theorem C_pl_81 (hd10 : d ≤ 10) (hP : 1 ≤ P ∧ P ≤ 20) (hC : 0 ≤ C ∧ C ≤ 1000) (hK : 0 ≤ K ∧ K ≤ 100) (hfl : ∀ i, fl i ≤ 150 ∧ (i < d → -100000 ≤ fl i)) (hfl2 : ∀ i, fl i ≤ 200) (h0 : σ.1 272 0 = P) (h1 : σ.1 272 1 = C) (h2 : σ.1 272 2 = K) {dy : Nat} (hdy : dy < d) (v2 : Int) (w1 : xAV) : ∀ (n b : Nat) (τ : xS), b + n = 5 * dy + 1 → ag σ τ → τ.1 273 = σ.1 273 → (∀ dy', dy < dy' → dy' ≤ d → ∀ b', b' ≤ 5 * dy' → rowC fl P C K d τ dy' b') → (∀ b', b' < b → rowC fl P C K d τ dy b') → ∃ τ', X iSupply_plan 81 [(2, 272), w1, (0, v2), (0, (dy : Int)), (0, fl dy), (0, (b : Int))] [] τ = X iSupply_plan 14 [(2, 272), w1, (0, v2), (0, (dy : Int) - 1), (0, fl dy), (0, ((5 * dy + 1 : Nat) : Int))] [] τ' ∧ ag σ τ' ∧ τ'.1 273 = σ.1 273 ∧ ∀ dy', dy ≤ dy' → dy' ≤ d → ∀ b', b' ≤ 5 * dy' → rowC fl P C K d τ' dy' b' := by
  have hdy10 : dy < 10 := by omega
  have w5 : xw ((dy : Int) * 5) = (dy : Int) * 5 := xw_id (by omega) (by omega)
  intro n
  induction n with
  | zero =>
    intro b τ hb ha h273 hr1 hr2
    refine ⟨τ, ?_, ha, h273, fun dy' g1 g2 b' g3 => ?_⟩
    · rw [qSupply_plan_81, w5, if_pos (by omega), xw_id (x := (dy : Int) + -1) (by omega) (by omega), show (dy : Int) + -1 = (dy : Int) - 1 by omega, show b = 5 * dy + 1 by omega]
    · by_cases e : dy' = dy
      · rw [e]; exact hr2 b' (by omega)
      · exact hr1 dy' (by omega) g2 b' g3
  | succ n ih =>
    intro b τ hb ha h273 hr1 hr2
    have hfd := hfl dy
    have hfd2 := hfd.2 hdy
    have hPb : 0 ≤ P * (b : Int) ∧ P * (b : Int) ≤ 1000 := by
      constructor
      · exact Int.mul_nonneg (by omega) (by omega)
      · have : P * (b : Int) ≤ 20 * 50 := Int.mul_le_mul hP.2 (by omega) (by omega) (by decide)
        omega
    have r272 : τ.1 272 = σ.1 272 := ha.cl (by omega)
    have ev := by_v_s fl P C K hdy b
    have hb1 := fun n (_ : n < 6) => (by_vb (fl := fl) (d := d) hP hC hK hfl2 (d - (dy + 1)) (b + n) (by omega)).1
    obtain ⟨τ1, q1, q2, q3, q4, q5⟩ := C_choose (σ := σ) (P := P) (C := C) (K := K) (t := fl dy + P * (b : Int)) (dy := dy) (b := b) hdy10 (by omega) hP hC hK (by omega) (later := fun n => (by_v fl P C K d (d - (dy + 1)) (b + n)).1) (fun n hn => by have := hb1 n hn; omega) ha (by rw [r272]; exact h0) (by rw [r272]; exact h1) (by rw [r272]; exact h2) (fun n hn => (hr1 (dy + 1) (by omega) (by omega) (b + n) (by omega)).1)
    have q4 : τ1.1 (275 + dy) b = by_e (by_g (fun n => by_c1 P C K (fl dy + P * (b : Int)) (by_v fl P C K d (d - (dy + 1)) (b + n)).1 n) 6).1 := q4
    have q5 : 0 ≤ (by_g (fun n => by_c1 P C K (fl dy + P * (b : Int)) (by_v fl P C K d (d - (dy + 1)) (b + n)).1 n) 6).1 → τ1.1 (287 + dy) b = ((by_g (fun n => by_c1 P C K (fl dy + P * (b : Int)) (by_v fl P C K d (d - (dy + 1)) (b + n)).1 n) 6).2 : Int) := q5
    rw [← ev] at q4 q5
    have keep : ∀ dy' b', rowC fl P C K d τ dy' b' → ¬ (dy' = dy ∧ b' = b) → dy' ≤ d → rowC fl P C K d τ1 dy' b' := by
      intro dy' b' z1 z2 z3
      refine ⟨?_, fun z4 z5 => ?_⟩
      · rw [q3 (275 + dy') b' (fun y => z2 ⟨by omega, y.2⟩) (fun y => by omega)]; exact z1.1
      · rw [q3 (287 + dy') b' (fun y => by omega) (fun y => z2 ⟨by omega, y.2⟩)]; exact z1.2 z4 z5
    obtain ⟨τ', y1, y2⟩ := ih (b + 1) τ1 (by omega) q2 (by
      funext i
      rw [q3 273 i (fun y => by omega) (fun y => by omega), h273]) (fun dy' g1 g2 b' g3 => keep dy' b' (hr1 dy' g1 g2 b' g3) (fun y => by omega) g2) (fun b' g => by
      by_cases e : b' = b
      · rw [e]; exact ⟨q4, fun _ z => q5 z⟩
      · exact keep dy b' (hr2 b' (by omega)) (fun y => e y.2) (by omega))
    refine ⟨τ', ?_, y2⟩
    rw [qSupply_plan_81, w5, if_neg (by omega), r272, h0, Int.mul_comm (b : Int) P, xw_id (x := P * (b : Int)) (by omega) (by omega), xw_id (x := fl dy + P * (b : Int)) (by omega) (by omega), q1, Option.bind_some, qSupply_plan_106, xw_t (by omega)]
    exact y1
theorem C_pl_24 {W : Nat → Int} {st : Int} {bk : Nat} (hbk : 1 ≤ bk ∧ bk ≤ 10) (hW : ∀ i, 0 ≤ W i ∧ W i ≤ 8000) (hst : 0 ≤ st ∧ st ≤ 150) (h3 : σ.1 272 3 = (bk : Int)) {τ : xS} (ha : ag σ τ) (h273 : ∀ i, i < d → τ.1 273 i = W i) (hd10 : d ≤ 10) {dy : Nat} (hdy : dy < d) (w1 : xAV) : ∀ (n i : Nat), i + n = dy + 1 → X iSupply_plan 24 [(2, 272), w1, (0, st), (0, (dy : Int)), (0, byF W st bk i), (0, (i : Int))] [] τ = X iSupply_plan 81 [(2, 272), w1, (0, st), (0, (dy : Int)), (0, byF W st bk (dy + 1)), (0, 0)] [] τ := by
  have r272 : τ.1 272 = σ.1 272 := ha.cl (by omega)
  intro n
  induction n with
  | zero =>
    intro i hi
    rw [qSupply_plan_24, if_pos (by omega), show i = dy + 1 by omega]
  | succ n ih =>
    intro i hi
    have hb := byF_bd hbk.1 hW hst i
    have hb2 := byF_bd hbk.1 hW hst (i + 1)
    have hw := hW i
    have e : byF W st bk (i + 1) = byF W st bk i - W i + if bk ≤ i then W (i - bk) else 0 := rfl
    rw [qSupply_plan_24, if_neg (by omega), if_pos (xin_of (by omega) (by omega)), r272, h3, Int.toNat_natCast, h273 i (by omega), xw_id (x := byF W st bk i - W i) (by omega) (by omega), xw_t (by omega)]
    by_cases c : bk ≤ i
    · rw [if_pos c] at e
      rw [if_neg (by omega), xw_id (x := (i : Int) - (bk : Int)) (by omega) (by omega), if_pos (xin_of (by omega) (by omega)), show ((i : Int) - (bk : Int)).toNat = i - bk by omega, h273 (i - bk) (by omega), xw_id (by omega) (by omega), ← e]
      exact ih (i + 1) (by omega)
    · rw [if_neg c] at e
      rw [if_pos (by omega), xw_id (by omega) (by omega), ← e]
      exact ih (i + 1) (by omega)
theorem C_pl_14 {W : Nat → Int} {st : Int} {bk : Nat} (hbk : 1 ≤ bk ∧ bk ≤ 10) (hW : ∀ i, 0 ≤ W i ∧ W i ≤ 8000) (hst : 0 ≤ st ∧ st ≤ 150) (h273 : ∀ i, i < d → σ.1 273 i = W i) (hd10 : d ≤ 10) (hP : 1 ≤ P ∧ P ≤ 20) (hC : 0 ≤ C ∧ C ≤ 1000) (hK : 0 ≤ K ∧ K ≤ 100) (h0 : σ.1 272 0 = P) (h1 : σ.1 272 1 = C) (h2 : σ.1 272 2 = K) (h3 : σ.1 272 3 = (bk : Int)) (w1 : xAV) : ∀ (n : Nat) (τ : xS) (w4 w5 : xAV), n ≤ d → ag σ τ → τ.1 273 = σ.1 273 → (∀ dy', n ≤ dy' → dy' ≤ d → ∀ b', b' ≤ 5 * dy' → rowC (fun i => byF W st bk (i + 1)) P C K d τ dy' b') → ∃ τ', X iSupply_plan 14 [(2, 272), w1, (0, st), (0, (n : Int) - 1), w4, w5] [] τ = some ((9, 0), τ') ∧ ag σ τ' ∧ ∀ dy', dy' ≤ d → ∀ b', b' ≤ 5 * dy' → rowC (fun i => byF W st bk (i + 1)) P C K d τ' dy' b' := by
  intro n
  induction n with
  | zero =>
    intro τ w4 w5 hn ha h273' hr
    refine ⟨τ, ?_, ha, fun dy' g1 b' g2 => hr dy' (Nat.zero_le _) g1 b' g2⟩
    rw [qSupply_plan_14, if_pos (by decide)]
  | succ n ih =>
    intro τ w4 w5 hn ha h273' hr
    have hfb := fun i => byF_bd hbk.1 hW hst (i + 1)
    have e1 : ((n + 1 : Nat) : Int) - 1 = (n : Int) := by omega
    have h24 := C_pl_24 (d := d) hbk hW hst h3 ha (fun i hi => by rw [h273']; exact h273 i hi) hd10 (dy := n) (by omega) w1 (n + 1) 0 (by omega)
    have h24 : X iSupply_plan 24 [(2, 272), w1, (0, st), (0, (n : Int)), (0, st), (0, 0)] [] τ = _ := h24
    obtain ⟨τ1, q1, q2, q3, q4⟩ := C_pl_81 (σ := σ) (fl := fun i => byF W st bk (i + 1)) hd10 hP hC hK (fun i => ⟨(hfb i).1, fun hi => by have := (hfb i).2; show -100000 ≤ byF W st bk (i + 1); omega⟩) (fun i => by have := (hfb i).1; show byF W st bk (i + 1) ≤ 200; omega) h0 h1 h2 (dy := n) (by omega) st w1 (5 * n + 1) 0 τ (by omega) ha h273' (fun dy' g1 g2 => hr dy' (by omega) g2) (fun b' g => absurd g (Nat.not_lt_zero b'))
    have q1 : X iSupply_plan 81 [(2, 272), w1, (0, st), (0, (n : Int)), (0, byF W st bk (n + 1)), (0, 0)] [] τ = _ := q1
    rw [e1, qSupply_plan_14, if_neg (by omega), h24, q1]
    exact ih τ1 _ _ (by omega) q2 q3 q4
theorem C_plan_buy {W : Nat → Int} {st : Int} {bk : Nat} (hbk : 1 ≤ bk ∧ bk ≤ 10) (hW : ∀ i, 0 ≤ W i ∧ W i ≤ 8000) (hst : 0 ≤ st ∧ st ≤ 150) (h273 : ∀ i, i < d → σ.1 273 i = W i) (hd10 : d ≤ 10) (hP : 1 ≤ P ∧ P ≤ 20) (hC : 0 ≤ C ∧ C ≤ 1000) (hK : 0 ≤ K ∧ K ≤ 100) (h0 : σ.1 272 0 = P) (h1 : σ.1 272 1 = C) (h2 : σ.1 272 2 = K) (h3 : σ.1 272 3 = (bk : Int)) : ∃ τ', X iSupply_plan 0 [(2, 272), (0, (d : Int)), (0, st), (9, 0), (9, 0), (9, 0)] [] σ = some ((9, 0), τ') ∧ ag σ τ' ∧ ∀ dy', dy' ≤ d → ∀ b', b' ≤ 5 * dy' → rowC (fun i => byF W st bk (i + 1)) P C K d τ' dy' b' := by
  obtain ⟨s1, _, s3, _, _⟩ := by_row (σ := σ) (a := d) (by omega)
  obtain ⟨τ, q1, q2, q3⟩ := by_fill (σ := σ) (a := d) (by omega) 51 0 σ rfl (cg1_rf _ _) (fun i hi => absurd hi (Nat.not_lt_zero i))
  have ha := cg1_ag (by_tm11 (by omega)) q2
  obtain ⟨τ', r1, r2, r3⟩ := C_pl_14 (P := P) (C := C) (K := K) (σ := σ) (d := d) hbk hW hst h273 hd10 hP hC hK h0 h1 h2 h3 (0, (d : Int)) d τ (9, 0) (9, 0) (Nat.le_refl _) ha (q2.2 273 (by omega)) (fun dy' g1 g2 b' g3 => by
    have ed : dy' = d := by omega
    subst ed
    refine ⟨?_, fun z => absurd z (Nat.lt_irrefl _)⟩
    rw [q3 b' (by omega), Nat.sub_self]
    rfl)
  refine ⟨τ', ?_, r2, r3⟩
  have q1 : X iJR_fill1 5 [(2, ((275 + d : Nat) : Int)), (0, 0), (0, 0), (0, ((51 : Nat) : Int))] [] σ = _ := q1
  rw [qSupply_plan_0, if_pos (xin_of (by omega) (by omega)), Int.toNat_natCast, s1, qJR_fill1_0, s3, xob_some, q1, Option.bind_some, qSupply_plan_10, xw_id (by omega) (by omega)]
  exact r1
end PLAN
end BUYE

/-! what a row is, reckoned by the reference -/
theorem evo_0 {f : Nat → Nat → Int} {h nm g : Nat → Int} {i : Nat} (z : f 0 i = 0) : evo f h nm g i = f 5 i := by
  unfold evo
  rw [if_pos z]
theorem evo_1 {f : Nat → Nat → Int} {h nm g : Nat → Int} {i : Nat} (z : f 0 i = 1) : evo f h nm g i = if f 1 i < 10 then h (f 1 i).toNat else nm (f 1 i - 10).toNat := by
  unfold evo
  rw [if_neg (by omega), if_pos z]
theorem evo_2 {f : Nat → Nat → Int} {h nm g : Nat → Int} {i : Nat} (z : f 0 i = 2) : evo f h nm g i = hl (g (f 1 i).toNat + g (f 2 i).toNat) := by
  unfold evo
  rw [if_neg (by omega), if_neg (by omega), if_pos z]
theorem evo_3 {f : Nat → Nat → Int} {h nm g : Nat → Int} {i : Nat} (z : f 0 i = 3) : evo f h nm g i = hl (g (f 1 i).toNat - g (f 2 i).toNat) := by
  unfold evo
  rw [if_neg (by omega), if_neg (by omega), if_neg (by omega), if_pos z]
theorem evo_4 {f : Nat → Nat → Int} {h nm g : Nat → Int} {i : Nat} (z : f 0 i = 4) : evo f h nm g i = tmz (g (f 1 i).toNat) (g (f 2 i).toNat) := by
  unfold evo
  rw [if_neg (by omega), if_neg (by omega), if_neg (by omega), if_neg (by omega), if_pos z]
theorem evo_5 {f : Nat → Nat → Int} {h nm g : Nat → Int} {i : Nat} (z : f 0 i = 5) : evo f h nm g i = if g (f 2 i).toNat = 0 then 0 else Int.tdiv (g (f 1 i).toNat) (g (f 2 i).toNat) := by
  unfold evo
  rw [if_neg (by omega), if_neg (by omega), if_neg (by omega), if_neg (by omega), if_neg (by omega), if_pos z]
theorem evo_6 {f : Nat → Nat → Int} {h nm g : Nat → Int} {i : Nat} (z : f 0 i = 6) : evo f h nm g i = if g (f 2 i).toNat = 0 then 0 else Int.tmod (g (f 1 i).toNat) (g (f 2 i).toNat) := by
  unfold evo
  rw [if_neg (by omega), if_neg (by omega), if_neg (by omega), if_neg (by omega), if_neg (by omega), if_neg (by omega), if_pos z]
theorem evo_7 {f : Nat → Nat → Int} {h nm g : Nat → Int} {i : Nat} (z : f 0 i = 7) : evo f h nm g i = -(g (f 1 i).toNat) := by
  unfold evo
  rw [if_neg (by omega), if_neg (by omega), if_neg (by omega), if_neg (by omega), if_neg (by omega), if_neg (by omega), if_neg (by omega), if_pos z]
theorem evo_8 {f : Nat → Nat → Int} {h nm g : Nat → Int} {i : Nat} (z : f 0 i = 8) : evo f h nm g i = lfo f g 8 i (f 4 (f 1 i).toNat) (g (f 1 i).toNat) := by
  unfold evo
  rw [if_neg (by omega), if_neg (by omega), if_neg (by omega), if_neg (by omega), if_neg (by omega), if_neg (by omega), if_neg (by omega), if_neg (by omega), if_pos z]
theorem evo_9 {f : Nat → Nat → Int} {h nm g : Nat → Int} {i : Nat} (z : f 0 i = 9) : evo f h nm g i = lfo f g 9 i (f 4 (f 1 i).toNat) (g (f 1 i).toNat) := by
  unfold evo
  rw [if_neg (by omega), if_neg (by omega), if_neg (by omega), if_neg (by omega), if_neg (by omega), if_neg (by omega), if_neg (by omega), if_neg (by omega), if_neg (by omega), if_pos z]
theorem evo_10 {f : Nat → Nat → Int} {h nm g : Nat → Int} {i : Nat} (z : f 0 i = 10) : evo f h nm g i = if g (f 1 i).toNat = 0 then g (f 3 i).toNat else g (f 2 i).toNat := by
  unfold evo
  rw [if_neg (by omega), if_neg (by omega), if_neg (by omega), if_neg (by omega), if_neg (by omega), if_neg (by omega), if_neg (by omega), if_neg (by omega), if_neg (by omega), if_neg (by omega), if_pos z]
theorem evo_11 {f : Nat → Nat → Int} {h nm g : Nat → Int} {i : Nat} (z : f 0 i = 11) : evo f h nm g i = if g (f 1 i).toNat < g (f 2 i).toNat then 1 else 0 := by
  unfold evo
  rw [if_neg (by omega), if_neg (by omega), if_neg (by omega), if_neg (by omega), if_neg (by omega), if_neg (by omega), if_neg (by omega), if_neg (by omega), if_neg (by omega), if_neg (by omega), if_neg (by omega), if_pos z]
theorem evo_12 {f : Nat → Nat → Int} {h nm g : Nat → Int} {i : Nat} (z : f 0 i = 12) : evo f h nm g i = if g (f 2 i).toNat < g (f 1 i).toNat then 1 else 0 := by
  unfold evo
  rw [if_neg (by omega), if_neg (by omega), if_neg (by omega), if_neg (by omega), if_neg (by omega), if_neg (by omega), if_neg (by omega), if_neg (by omega), if_neg (by omega), if_neg (by omega), if_neg (by omega), if_neg (by omega), if_pos z]
theorem evo_13 {f : Nat → Nat → Int} {h nm g : Nat → Int} {i : Nat} (z : f 0 i = 13) : evo f h nm g i = if g (f 1 i).toNat = g (f 2 i).toNat then 1 else 0 := by
  unfold evo
  rw [if_neg (by omega), if_neg (by omega), if_neg (by omega), if_neg (by omega), if_neg (by omega), if_neg (by omega), if_neg (by omega), if_neg (by omega), if_neg (by omega), if_neg (by omega), if_neg (by omega), if_neg (by omega), if_neg (by omega), if_pos z]
theorem evo_14 {f : Nat → Nat → Int} {h nm g : Nat → Int} {i : Nat} (z : f 0 i = 14) : evo f h nm g i = if g (f 1 i).toNat = 0 then 1 else 0 := by
  unfold evo
  rw [if_neg (by omega), if_neg (by omega), if_neg (by omega), if_neg (by omega), if_neg (by omega), if_neg (by omega), if_neg (by omega), if_neg (by omega), if_neg (by omega), if_neg (by omega), if_neg (by omega), if_neg (by omega), if_neg (by omega), if_neg (by omega), if_pos z]
theorem evo_15 {f : Nat → Nat → Int} {h nm g : Nat → Int} {i : Nat} (z : f 0 i = 15) : evo f h nm g i = if g (f 1 i).toNat = 0 then 0 else if g (f 2 i).toNat = 0 then 0 else 1 := by
  unfold evo
  rw [if_neg (by omega), if_neg (by omega), if_neg (by omega), if_neg (by omega), if_neg (by omega), if_neg (by omega), if_neg (by omega), if_neg (by omega), if_neg (by omega), if_neg (by omega), if_neg (by omega), if_neg (by omega), if_neg (by omega), if_neg (by omega), if_neg (by omega), if_pos z]
theorem evo_16 {f : Nat → Nat → Int} {h nm g : Nat → Int} {i : Nat} (z : f 0 i = 16) : evo f h nm g i = if g (f 1 i).toNat = 0 then (if g (f 2 i).toNat = 0 then 0 else 1) else 1 := by
  unfold evo
  rw [if_neg (by omega), if_neg (by omega), if_neg (by omega), if_neg (by omega), if_neg (by omega), if_neg (by omega), if_neg (by omega), if_neg (by omega), if_neg (by omega), if_neg (by omega), if_neg (by omega), if_neg (by omega), if_neg (by omega), if_neg (by omega), if_neg (by omega), if_neg (by omega)]
theorem M_held {σ : xS} (a : Int) : X iM_held 0 [(1, a), (8, 0)] [] σ = some ((1, hl a), σ) := by
  rw [qM_held_0]
  unfold hl
  split
  · rfl
  · split <;> rfl
theorem mst_div {x y : Int} (hy : 0 < y) : Int.tdiv 1000000000000 y < x ↔ 1000000000000 < x * y := by
  rw [Int.tdiv_eq_ediv_of_nonneg (by decide)]
  exact Int.ediv_lt_iff_lt_mul hy
theorem mst_le {y : Int} (hy : 0 < y) : 0 ≤ Int.tdiv 1000000000000 y ∧ Int.tdiv 1000000000000 y ≤ 1000000000000 := by
  have h1 := tdiv_abs (a := 1000000000000) (b := y) (B := 1000000000000) (by decide)
  refine ⟨?_, h1.2⟩
  rw [Int.tdiv_eq_ediv_of_nonneg (by decide)]
  exact Int.ediv_nonneg (by decide) (by omega)
theorem hl_hi {p : Int} (h : 1000000000000 < p) : hl p = 1000000000000 := by
  unfold hl
  rw [if_pos h]
theorem hl_lo {p : Int} (h : p < -1000000000000) : hl p = -1000000000000 := by
  unfold hl
  rw [if_neg (by omega), if_pos h]
/-- the product's four signs -/
theorem M_times_64 {σ : xS} {x y : Int} (hx : 0 < x) (hy : 0 < y) (hy2 : y ≤ 1000000000000) (s t : Int) (w0 w1 w2 w3 w8 : xAV) : X iM_times 64 [w0, w1, w2, w3, (1, x), (8, 0), (1, y), (8, 0), w8] [(0, s), (0, t)] σ = some ((1, if t = s then hl (x * y) else hl (-(x * y))), σ) := by
  have h1 := mst_le hy
  have hp : 0 < x * y := Int.mul_pos hx hy
  rw [qM_times_64, xW_id (x := Int.tdiv 1000000000000 y) (by omega) (by omega)]
  have e := mst_div (x := x) hy
  generalize x * y = p at hp e
  by_cases c : 1000000000000 < p
  · have c' := e.mpr c
    by_cases st : t = s
    · rw [if_pos st, if_pos st, if_neg (by omega), if_pos c', hl_hi c]
    · rw [if_neg st, if_neg st, if_neg (by omega), if_pos c', hl_lo (by omega)]
  · have c' : ¬ Int.tdiv 1000000000000 y < x := fun q => c (e.mp q)
    rw [xW_id (x := p) (by omega) (by omega)]
    by_cases st : t = s
    · rw [if_pos st, if_pos st, if_neg (by omega), if_neg c', hl_id (by omega)]
    · rw [if_neg st, if_neg st, if_neg (by omega), if_neg c', hl_id (by omega), xW_id (by omega) (by omega)]
theorem M_times {σ : xS} {a b : Int} (ha : -1000000000000 ≤ a ∧ a ≤ 1000000000000) (hb : -1000000000000 ≤ b ∧ b ≤ 1000000000000) : X iM_times 0 [(1, a), (8, 0), (1, b), (8, 0), (9, 0), (9, 0), (9, 0), (9, 0), (9, 0)] [] σ = some ((1, tmz a b), σ) := by
  rw [qM_times_0]
  unfold tmz
  by_cases a0 : a = 0
  · rw [if_pos a0, if_pos (Or.inl a0)]
  by_cases b0 : b = 0
  · rw [if_neg a0, if_pos b0, if_pos (Or.inr b0)]
  rw [if_neg a0, if_neg b0, if_neg (show ¬ (a = 0 ∨ b = 0) from fun q => q.elim a0 b0)]
  by_cases an : a < 0
  · rw [if_pos an]
    have na : xW (-a) = -a := xW_id (by omega) (by omega)
    by_cases bn : b < 0
    · rw [if_pos bn, if_pos an, if_pos bn]
      have nb : xW (-b) = -b := xW_id (by omega) (by omega)
      rw [na, nb, M_times_64 (by omega) (by omega) (by omega), if_pos rfl, show -a * -b = a * b by rw [Int.neg_mul_neg]]
    · rw [if_neg bn, if_pos an, if_neg bn, na, M_times_64 (by omega) (by omega) (by omega), if_neg (by decide), show -(-a * b) = a * b by rw [Int.neg_mul, Int.neg_neg]]
  · rw [if_neg an]
    by_cases bn : b < 0
    · rw [if_pos bn, if_neg an, if_pos bn]
      have nb : xW (-b) = -b := xW_id (by omega) (by omega)
      rw [nb, M_times_64 (by omega) (by omega) (by omega), if_neg (by decide), show -(a * -b) = a * b by rw [Int.mul_neg, Int.neg_neg]]
    · rw [if_neg bn, if_neg an, if_neg bn, M_times_64 (by omega) (by omega) (by omega), if_pos rfl]
/-- the reference's rows -/
def rws (m : Nat → Nat → Int) : Nat → Nat → Int := fun c => m (351 + c)
section ROOTED
variable {τ : xS}
theorem M_rt_557 {s : Nat} {i : Nat} (hi : i < 3300) (v : Int) (w3 w4 w5 w6 w7 w10 : xAV) : X iM_rooted 557 [(2, 305), (0, (s : Int)), (0, (i : Int)), w3, w4, w5, w6, w7, (1, v), (8, 0), w10] [] τ = X iM_rooted 7 [(2, 305), (0, (s : Int)), (0, ((i + 1 : Nat) : Int)), w3, w4, w5, w6, w7, (1, v), (8, 0), w10] [] (xs τ 363 i (hl v)) := by
  rw [qM_rooted_557, M_held, Option.bind_some, qM_rooted_567, if_pos (xin_of (by omega) (by omega)), Int.toNat_natCast, xw_id (by omega) (by omega)]
  rfl
theorem M_rt_296 {s i lo : Nat} {k : Int} (hk : k = 8 ∨ k = 9) (hi : i < 3300) (w4 w5 w6 : xAV) : ∀ (c : Nat) (j v : Int) (w7 : xAV), chw (rws τ.1) lo i c j → ∃ (w7' : xAV) (j' : Int), X iM_rooted 296 [(2, 305), (0, (s : Int)), (0, (i : Int)), (0, k), w4, w5, w6, w7, (1, v), (8, 0), (0, j)] [] τ = X iM_rooted 557 [(2, 305), (0, (s : Int)), (0, (i : Int)), (0, k), w4, w5, w6, w7', (1, lfo (rws τ.1) (τ.1 363) k c j v), (8, 0), (0, j')] [] τ := by
  intro c
  induction c with
  | zero =>
    intro j v w7 hc
    refine ⟨w7, j, ?_⟩
    rw [qM_rooted_296, if_pos (show j < 0 from hc)]
    rfl
  | succ c ih =>
    intro j v w7 hc
    by_cases hj : j < 0
    · refine ⟨w7, j, ?_⟩
      rw [qM_rooted_296, if_pos hj, show lfo (rws τ.1) (τ.1 363) k (c + 1) j v = v from if_pos hj]
    · rcases hc with hc | ⟨⟨h1, h2⟩, h3⟩
      · exact absurd hc hj
      · have hx : xin j 3300 := ⟨by omega, by omega⟩
        obtain ⟨w7', j', q⟩ := ih (rws τ.1 4 j.toNat) (pck k (τ.1 363 j.toNat) v) (xkl w7) h3
        refine ⟨w7', j', ?_⟩
        rw [show lfo (rws τ.1) (τ.1 363) k (c + 1) j v = lfo (rws τ.1) (τ.1 363) k c (rws τ.1 4 j.toNat) (pck k (τ.1 363 j.toNat) v) from if_neg hj, ← q, qM_rooted_296, if_neg hj]
        have e4 : rws τ.1 4 j.toNat = τ.1 355 j.toNat := rfl
        rw [e4]
        rcases hk with rfl | rfl
        · rw [if_pos rfl, if_pos hx]
          by_cases z : τ.1 363 j.toNat < v
          · rw [if_pos z, if_pos hx, if_pos hx, show pck 8 (τ.1 363 j.toNat) v = τ.1 363 j.toNat from (if_pos rfl).trans (if_pos z)]
          · rw [if_neg z, if_pos hx, show pck 8 (τ.1 363 j.toNat) v = v from (if_pos rfl).trans (if_neg z)]
        · rw [if_neg (by decide), if_pos hx]
          by_cases z : v < τ.1 363 j.toNat
          · rw [if_pos z, if_pos hx, if_pos hx, show pck 9 (τ.1 363 j.toNat) v = τ.1 363 j.toNat from (if_neg (by decide)).trans (if_pos z)]
          · rw [if_neg z, if_pos hx, show pck 9 (τ.1 363 j.toNat) v = v from (if_neg (by decide)).trans (if_neg z)]
/-- a row's reckoning, from its numbers on -/
theorem M_rt_84 {s i lo F S : Nat} {sk : Nat → Int} (hi : i < 3300) (hS : S ≤ F + 24) (w : wfr (rws τ.1) sk F S lo i) (hb : ∀ j, lo ≤ j → j < i → -1000000000000 ≤ τ.1 363 j ∧ τ.1 363 j ≤ 1000000000000) {a b : Int} (ha : 2 ≤ τ.1 351 i → a = τ.1 363 (τ.1 352 i).toNat) (hbb : (2 ≤ τ.1 351 i ∧ τ.1 351 i < 7) ∨ (9 < τ.1 351 i ∧ τ.1 351 i ≠ 14) → b = τ.1 363 (τ.1 353 i).toNat) (w6 w7 w8 w9 w10 : xAV) :
    ∃ (u4 u6 u7 u10 : xAV) (v : Int), X iM_rooted 84 [(2, 305), (0, (s : Int)), (0, (i : Int)), (0, τ.1 351 i), (1, a), (8, 0), w6, w7, w8, w9, w10] [(1, b)] τ = X iM_rooted 557 [(2, 305), (0, (s : Int)), (0, (i : Int)), (0, τ.1 351 i), u4, (8, 0), u6, u7, (1, v), (8, 0), u10] [] τ ∧ hl v = hl (evo (rws τ.1) (τ.1 365) (τ.1 364) (τ.1 363) i) := by
  obtain ⟨w0, w1, w2, w3, w4, w5, w6'⟩ := w
  have W0 : 0 ≤ τ.1 351 i ∧ τ.1 351 i ≤ 16 := w0
  have W2 : τ.1 351 i = 1 → 0 ≤ τ.1 352 i ∧ (10 ≤ τ.1 352 i → F + (τ.1 352 i - 10).toNat < S ∧ sk (F + (τ.1 352 i - 10).toNat) = 0) := w2
  have W3 : 2 ≤ τ.1 351 i → 0 ≤ τ.1 352 i ∧ lo ≤ (τ.1 352 i).toNat ∧ (τ.1 352 i).toNat < i := w3
  have W4 : (2 ≤ τ.1 351 i ∧ τ.1 351 i < 7) ∨ (9 < τ.1 351 i ∧ τ.1 351 i ≠ 14) → 0 ≤ τ.1 353 i ∧ lo ≤ (τ.1 353 i).toNat ∧ (τ.1 353 i).toNat < i := w4
  have W5 : τ.1 351 i = 10 → 0 ≤ τ.1 354 i ∧ lo ≤ (τ.1 354 i).toNat ∧ (τ.1 354 i).toNat < i := w5
  have hx : xin (i : Int) 3300 := ⟨by omega, by omega⟩
  have e351 : ∀ z, τ.1 351 i = z → rws τ.1 0 i = z := fun z q => q
  rw [qM_rooted_84, Int.toNat_natCast]
  by_cases z0 : τ.1 351 i = 0
  · rw [if_pos z0, if_pos hx]
    exact ⟨_, _, _, _, _, rfl, by rw [evo_0 (e351 _ z0)]; rfl⟩
  rw [if_neg z0]
  by_cases z1 : τ.1 351 i = 1
  · have := W2 z1
    rw [if_pos z1, if_pos hx]
    by_cases z2 : τ.1 352 i < 10
    · rw [if_pos z2, if_pos hx, if_pos (xin_of this.1 (by omega))]
      exact ⟨_, _, _, _, _, rfl, by rw [evo_1 (e351 _ z1)]; exact congrArg hl (if_pos z2).symm⟩
    · have t2 := this.2 (by omega)
      rw [if_neg z2, if_pos hx, xw_id (x := τ.1 352 i - 10) (by omega) (by omega), if_pos (xin_of (by omega) (by omega))]
      exact ⟨_, _, _, _, _, rfl, by rw [evo_1 (e351 _ z1)]; exact congrArg hl (if_neg z2).symm⟩
  rw [if_neg z1]
  have hA := hb _ (W3 (by omega)).2.1 (W3 (by omega)).2.2
  have ha' := ha (by omega)
  by_cases z2 : τ.1 351 i = 2
  · have hB := hb _ (W4 (by omega)).2.1 (W4 (by omega)).2.2
    have hb' := hbb (by omega)
    rw [if_pos z2, xW_id (x := a + b) (by omega) (by omega)]
    refine ⟨_, _, _, _, _, rfl, ?_⟩
    rw [evo_2 (e351 _ z2), ha', hb', hl_id (hl_le _)]
    rfl
  rw [if_neg z2]
  by_cases z3 : τ.1 351 i = 3
  · have hB := hb _ (W4 (by omega)).2.1 (W4 (by omega)).2.2
    have hb' := hbb (by omega)
    rw [if_pos z3, xW_id (x := a - b) (by omega) (by omega)]
    refine ⟨_, _, _, _, _, rfl, ?_⟩
    rw [evo_3 (e351 _ z3), ha', hb', hl_id (hl_le _)]
    rfl
  rw [if_neg z3]
  by_cases z4 : τ.1 351 i = 4
  · have hB := hb _ (W4 (by omega)).2.1 (W4 (by omega)).2.2
    have hb' := hbb (by omega)
    rw [if_pos z4, M_times (by omega) (by omega), Option.bind_some, qM_rooted_195]
    refine ⟨_, _, _, _, _, rfl, ?_⟩
    rw [evo_4 (e351 _ z4), ha', hb']
    rfl
  rw [if_neg z4]
  by_cases z5 : τ.1 351 i = 5
  · have hB := hb _ (W4 (by omega)).2.1 (W4 (by omega)).2.2
    have hb' := hbb (by omega)
    rw [if_pos z5]
    by_cases c : b = 0
    · rw [if_pos c]
      refine ⟨_, _, _, _, _, rfl, ?_⟩
      rw [evo_5 (e351 _ z5)]
      exact congrArg hl (if_pos (hb'.symm.trans c)).symm
    · have := tdiv_abs (a := a) (b := b) (B := 1000000000000) (by omega)
      rw [if_neg c, if_neg c, xW_id (x := Int.tdiv a b) (by omega) (by omega)]
      refine ⟨_, _, _, _, _, rfl, ?_⟩
      rw [evo_5 (e351 _ z5), ha', hb']
      exact congrArg hl (if_neg (fun q => c (hb'.trans q))).symm
  rw [if_neg z5]
  by_cases z6 : τ.1 351 i = 6
  · have hB := hb _ (W4 (by omega)).2.1 (W4 (by omega)).2.2
    have hb' := hbb (by omega)
    rw [if_pos z6]
    by_cases c : b = 0
    · rw [if_pos c]
      refine ⟨_, _, _, _, _, rfl, ?_⟩
      rw [evo_6 (e351 _ z6)]
      exact congrArg hl (if_pos (hb'.symm.trans c)).symm
    · rw [if_neg c, if_neg c]
      refine ⟨_, _, _, _, _, rfl, ?_⟩
      rw [evo_6 (e351 _ z6), ha', hb']
      exact congrArg hl (if_neg (fun q => c (hb'.trans q))).symm
  rw [if_neg z6]
  by_cases z7 : τ.1 351 i = 7
  · rw [if_pos z7, xW_id (x := -a) (by omega) (by omega)]
    refine ⟨_, _, _, _, _, rfl, ?_⟩
    rw [evo_7 (e351 _ z7), ha']
    rfl
  rw [if_neg z7]
  have lst : ∀ k : Int, k = 8 ∨ k = 9 → τ.1 351 i = k → ∃ (u4 u6 u7 u10 : xAV) (v : Int), X iM_rooted 279 [(2, 305), (0, (s : Int)), (0, (i : Int)), (0, τ.1 351 i), (1, a), (8, 0), (1, b), (8, 0), (1, 0), (8, 0), w10] [] τ = X iM_rooted 557 [(2, 305), (0, (s : Int)), (0, (i : Int)), (0, τ.1 351 i), u4, (8, 0), u6, u7, (1, v), (8, 0), u10] [] τ ∧ v = lfo (rws τ.1) (τ.1 363) k i (rws τ.1 4 (rws τ.1 1 i).toNat) (τ.1 363 (rws τ.1 1 i).toNat) := by
    intro k hk hz
    have t3 := W3 (by omega)
    rw [qM_rooted_279, Int.toNat_natCast, if_pos hx, if_pos (xin_of (by omega) (by omega)), ha', hz]
    obtain ⟨w7', j', q⟩ := M_rt_296 (τ := τ) (s := s) (i := i) (lo := lo) hk hi (1, τ.1 363 (τ.1 352 i).toNat) (8, 0) (1, b) i (τ.1 355 (τ.1 352 i).toNat) (τ.1 363 (τ.1 352 i).toNat) (xkl (8, 0)) (w6' (hk.elim (fun e => Or.inl (hz.trans e)) (fun e => Or.inr (hz.trans e))))
    exact ⟨_, _, _, _, _, q, rfl⟩
  by_cases z8 : τ.1 351 i = 8
  · rw [if_pos z8]
    obtain ⟨u4, u6, u7, u10, v, q1, q2⟩ := lst 8 (Or.inl rfl) z8
    exact ⟨u4, u6, u7, u10, v, q1, by rw [evo_8 (e351 _ z8), q2]⟩
  rw [if_neg z8]
  by_cases z9 : τ.1 351 i = 9
  · rw [if_pos z9]
    obtain ⟨u4, u6, u7, u10, v, q1, q2⟩ := lst 9 (Or.inr rfl) z9
    exact ⟨u4, u6, u7, u10, v, q1, by rw [evo_9 (e351 _ z9), q2]⟩
  rw [if_neg z9]
  by_cases z10 : τ.1 351 i = 10
  · have hb' := hbb (by omega)
    have t5 := W5 z10
    rw [if_pos z10]
    by_cases c : a = 0
    · rw [if_pos c, if_pos hx, if_pos (xin_of (by omega) (by omega))]
      refine ⟨_, _, _, _, _, rfl, ?_⟩
      rw [evo_10 (e351 _ z10)]
      exact congrArg hl (if_pos (ha'.symm.trans c)).symm
    · rw [if_neg c]
      refine ⟨_, _, _, _, _, rfl, ?_⟩
      rw [evo_10 (e351 _ z10), hb']
      exact congrArg hl (if_neg (fun q => c (ha'.trans q))).symm
  rw [if_neg z10]
  by_cases z11 : τ.1 351 i = 11
  · have hb' := hbb (by omega)
    rw [if_pos z11]
    by_cases c : a < b
    · rw [if_pos c]
      exact ⟨_, _, _, _, _, rfl, by rw [evo_11 (e351 _ z11)]; exact congrArg hl (if_pos (by rw [ha', hb'] at c; exact c)).symm⟩
    · rw [if_neg c]
      exact ⟨_, _, _, _, _, rfl, by rw [evo_11 (e351 _ z11)]; exact congrArg hl (if_neg (by rw [ha', hb'] at c; exact c)).symm⟩
  rw [if_neg z11]
  by_cases z12 : τ.1 351 i = 12
  · have hb' := hbb (by omega)
    rw [if_pos z12]
    by_cases c : b < a
    · rw [if_pos c]
      exact ⟨_, _, _, _, _, rfl, by rw [evo_12 (e351 _ z12)]; exact congrArg hl (if_pos (by rw [ha', hb'] at c; exact c)).symm⟩
    · rw [if_neg c]
      exact ⟨_, _, _, _, _, rfl, by rw [evo_12 (e351 _ z12)]; exact congrArg hl (if_neg (by rw [ha', hb'] at c; exact c)).symm⟩
  rw [if_neg z12]
  by_cases z13 : τ.1 351 i = 13
  · have hb' := hbb (by omega)
    rw [if_pos z13]
    by_cases c : a = b
    · rw [if_pos c]
      exact ⟨_, _, _, _, _, rfl, by rw [evo_13 (e351 _ z13)]; exact congrArg hl (if_pos (by rw [ha', hb'] at c; exact c)).symm⟩
    · rw [if_neg c]
      exact ⟨_, _, _, _, _, rfl, by rw [evo_13 (e351 _ z13)]; exact congrArg hl (if_neg (by rw [ha', hb'] at c; exact c)).symm⟩
  rw [if_neg z13]
  by_cases z14 : τ.1 351 i = 14
  · rw [if_pos z14]
    by_cases c : a = 0
    · rw [if_pos c]
      exact ⟨_, _, _, _, _, rfl, by rw [evo_14 (e351 _ z14)]; exact congrArg hl (if_pos (by rw [ha'] at c; exact c)).symm⟩
    · rw [if_neg c]
      exact ⟨_, _, _, _, _, rfl, by rw [evo_14 (e351 _ z14)]; exact congrArg hl (if_neg (by rw [ha'] at c; exact c)).symm⟩
  rw [if_neg z14]
  have hb' := hbb (by omega)
  by_cases z15 : τ.1 351 i = 15
  · rw [if_pos z15]
    by_cases c : a = 0
    · rw [if_pos c]
      exact ⟨_, _, _, _, _, rfl, by rw [evo_15 (e351 _ z15)]; exact congrArg hl (if_pos (by rw [ha'] at c; exact c)).symm⟩
    · rw [if_neg c]
      by_cases d : b = 0
      · rw [if_pos d]
        exact ⟨_, _, _, _, _, rfl, by rw [evo_15 (e351 _ z15)]; exact congrArg hl ((if_neg (by rw [ha'] at c; exact c)).trans (if_pos (by rw [hb'] at d; exact d))).symm⟩
      · rw [if_neg d]
        exact ⟨_, _, _, _, _, rfl, by rw [evo_15 (e351 _ z15)]; exact congrArg hl ((if_neg (by rw [ha'] at c; exact c)).trans (if_neg (by rw [hb'] at d; exact d))).symm⟩
  rw [if_neg z15]
  have z16 : τ.1 351 i = 16 := by omega
  by_cases c : a = 0
  · rw [if_pos c]
    by_cases d : b = 0
    · rw [if_pos d]
      exact ⟨_, _, _, _, _, rfl, by rw [evo_16 (e351 _ z16)]; exact congrArg hl ((if_pos (by rw [ha'] at c; exact c)).trans (if_pos (by rw [hb'] at d; exact d))).symm⟩
    · rw [if_neg d]
      exact ⟨_, _, _, _, _, rfl, by rw [evo_16 (e351 _ z16)]; exact congrArg hl ((if_pos (by rw [ha'] at c; exact c)).trans (if_neg (by rw [hb'] at d; exact d))).symm⟩
  · rw [if_neg c]
    exact ⟨_, _, _, _, _, rfl, by rw [evo_16 (e351 _ z16)]; exact congrArg hl (if_neg (by rw [ha'] at c; exact c)).symm⟩
theorem M_rt_7 {s i lo F S : Nat} {sk : Nat → Int} (hs : s < 200) (hi : i < 3300) (hhi : (i : Int) < τ.1 349 s) (hS : S ≤ F + 24) (w : wfr (rws τ.1) sk F S lo i) (hh : ∀ j, j < 10 → -1000000000000 ≤ τ.1 365 j ∧ τ.1 365 j ≤ 1000000000000) (hn : ∀ j, F + j < S → sk (F + j) = 0 → -1000000000000 ≤ τ.1 364 j ∧ τ.1 364 j ≤ 1000000000000) (hb : ∀ j, lo ≤ j → j < i → -1000000000000 ≤ τ.1 363 j ∧ τ.1 363 j ≤ 1000000000000) (w3 w4 w5 w6 w7 w8 w9 w10 : xAV) :
    ∃ (u3 u4 u5 u6 u7 u8 u9 u10 : xAV), X iM_rooted 7 [(2, 305), (0, (s : Int)), (0, (i : Int)), w3, w4, w5, w6, w7, w8, w9, w10] [] τ = X iM_rooted 7 [(2, 305), (0, (s : Int)), (0, ((i + 1 : Nat) : Int)), u3, u4, u5, u6, u7, u8, u9, u10] [] (xs τ 363 i (evo (rws τ.1) (τ.1 365) (τ.1 364) (τ.1 363) i)) := by
  have hev := evo_le w hh hn hb
  have W0 : 0 ≤ τ.1 351 i ∧ τ.1 351 i ≤ 16 := w.1
  have W3 : 2 ≤ τ.1 351 i → 0 ≤ τ.1 352 i ∧ lo ≤ (τ.1 352 i).toNat ∧ (τ.1 352 i).toNat < i := w.2.2.2.1
  have W4 : (2 ≤ τ.1 351 i ∧ τ.1 351 i < 7) ∨ (9 < τ.1 351 i ∧ τ.1 351 i ≠ 14) → 0 ≤ τ.1 353 i ∧ lo ≤ (τ.1 353 i).toNat ∧ (τ.1 353 i).toNat < i := w.2.2.2.2.1
  have hx : xin (i : Int) 3300 := ⟨by omega, by omega⟩
  have hxs : xin (s : Int) 200 := ⟨by omega, by omega⟩
  have key : ∀ (a b : Int) (w6 w7 w8 w9 w10 : xAV), (2 ≤ τ.1 351 i → a = τ.1 363 (τ.1 352 i).toNat) → ((2 ≤ τ.1 351 i ∧ τ.1 351 i < 7) ∨ (9 < τ.1 351 i ∧ τ.1 351 i ≠ 14) → b = τ.1 363 (τ.1 353 i).toNat) → ∃ (u3 u4 u5 u6 u7 u8 u9 u10 : xAV), X iM_rooted 84 [(2, 305), (0, (s : Int)), (0, (i : Int)), (0, τ.1 351 i), (1, a), (8, 0), w6, w7, w8, w9, w10] [(1, b)] τ = X iM_rooted 7 [(2, 305), (0, (s : Int)), (0, ((i + 1 : Nat) : Int)), u3, u4, u5, u6, u7, u8, u9, u10] [] (xs τ 363 i (evo (rws τ.1) (τ.1 365) (τ.1 364) (τ.1 363) i)) := by
    intro a b w6 w7 w8 w9 w10 ha hb'
    obtain ⟨u4, u6, u7, u10, v, q1, q2⟩ := M_rt_84 (s := s) hi hS w hb ha hb' w6 w7 w8 w9 w10
    rw [hl_id hev] at q2
    exact ⟨(0, τ.1 351 i), u4, (8, 0), u6, u7, (1, v), (8, 0), u10, by rw [q1, M_rt_557 hi, q2]⟩
  rw [qM_rooted_7]
  simp only [Int.toNat_natCast]
  rw [if_pos hxs, if_pos hhi, if_pos hx]
  by_cases z1 : 1 < τ.1 351 i
  · have t3 := W3 (by omega)
    have hxA : xin (τ.1 352 i) 3300 := ⟨by omega, by omega⟩
    rw [if_pos z1, if_pos hx, if_pos hxA, if_pos z1]
    by_cases z7 : τ.1 351 i < 7
    · have t4 := W4 (by omega)
      rw [if_pos z7, if_pos hx, if_pos (xin_of (by omega) (by omega))]
      exact key _ _ _ _ _ _ _ (fun _ => rfl) (fun _ => rfl)
    · rw [if_neg z7, qM_rooted_57]
      simp only [Int.toNat_natCast]
      by_cases z9 : 9 < τ.1 351 i
      · rw [if_pos z9]
        by_cases z14 : τ.1 351 i = 14
        · rw [if_pos z14]
          exact key _ _ _ _ _ _ _ (fun _ => rfl) (fun q => by omega)
        · have t4 := W4 (by omega)
          rw [if_neg z14, if_pos hx, if_pos (xin_of (by omega) (by omega))]
          exact key _ _ _ _ _ _ _ (fun _ => rfl) (fun _ => rfl)
      · rw [if_neg z9]
        exact key _ _ _ _ _ _ _ (fun _ => rfl) (fun q => by omega)
  · rw [if_neg z1, if_neg z1, qM_rooted_57, if_neg (by omega)]
    exact key _ _ _ _ _ _ _ (fun q => by omega) (fun q => by omega)
/-- all rows of a statement, then its root's -/
theorem M_rt_all {s hi lo F S : Nat} {sk : Nat → Int} (hs : s < 200) (hh3 : hi ≤ 3300) (hhi : τ.1 349 s = (hi : Int)) (hS : S ≤ F + 24) (w : wfs (rws τ.1) sk F S lo hi) {root : Nat} (hr : τ.1 347 s = (root : Int)) (hr1 : lo ≤ root ∧ root < hi) (hh : ∀ j, j < 10 → -1000000000000 ≤ τ.1 365 j ∧ τ.1 365 j ≤ 1000000000000) (hn : ∀ j, F + j < S → sk (F + j) = 0 → -1000000000000 ≤ τ.1 364 j ∧ τ.1 364 j ≤ 1000000000000) : ∀ (n i : Nat) (τ1 : xS), i + n = hi → lo ≤ i → τ1.2 = τ.2 → (∀ a, a ≠ 363 → τ1.1 a = τ.1 a) → (∀ j, lo ≤ j → j < i → τ1.1 363 j = EV (rws τ.1) (τ.1 365) (τ.1 364) j) → ∀ (w3 w4 w5 w6 w7 w8 w9 w10 : xAV), ∃ τ', X iM_rooted 7 [(2, 305), (0, (s : Int)), (0, (i : Int)), w3, w4, w5, w6, w7, w8, w9, w10] [] τ1 = some ((1, EV (rws τ.1) (τ.1 365) (τ.1 364) root), τ') ∧ τ'.2 = τ.2 ∧ ∀ a, a ≠ 363 → τ'.1 a = τ.1 a := by
  intro n
  induction n with
  | zero =>
    intro i τ1 hi' hlo h2 h3 h4 w3 w4 w5 w6 w7 w8 w9 w10
    refine ⟨τ1, ?_, h2, h3⟩
    have hxs : xin (s : Int) 200 := ⟨by omega, by omega⟩
    rw [qM_rooted_7]
    simp only [Int.toNat_natCast]
    rw [h3 349 (by decide), h3 347 (by decide), hhi, hr, if_pos hxs, if_neg (by omega), if_pos hxs, if_pos (xin_of (by omega) (by omega)), Int.toNat_natCast, h4 root hr1.1 (by omega)]
  | succ n ih =>
    intro i τ1 hi' hlo h2 h3 h4 w3 w4 w5 w6 w7 w8 w9 w10
    have er : rws τ1.1 = rws τ.1 ∨ True := Or.inr trivial
    have ef : ∀ c, c < 6 → rws τ1.1 c = rws τ.1 c := fun c hc => h3 (351 + c) (by omega)
    have wi := w i hlo (by omega)
    have wi1 : wfr (rws τ1.1) sk F S lo i := by
      have chg : ∀ (c : Nat) (j : Int), chw (rws τ.1) lo i c j → chw (rws τ1.1) lo i c j := by
        intro c
        induction c with
        | zero => intro j hj; exact hj
        | succ c ihc =>
          intro j hj
          rcases hj with hj | ⟨g1, g2⟩
          · exact Or.inl hj
          · refine Or.inr ⟨g1, ?_⟩
            rw [ef 4 (by decide)]
            exact ihc _ g2
      unfold wfr at wi ⊢
      rw [ef 0 (by decide), ef 1 (by decide), ef 2 (by decide), ef 3 (by decide), ef 4 (by decide), ef 5 (by decide)]
      exact ⟨wi.1, wi.2.1, wi.2.2.1, wi.2.2.2.1, wi.2.2.2.2.1, wi.2.2.2.2.2.1, fun q => chg _ _ (wi.2.2.2.2.2.2 q)⟩
    have hb : ∀ j, lo ≤ j → j < i → -1000000000000 ≤ τ1.1 363 j ∧ τ1.1 363 j ≤ 1000000000000 := fun j g1 g2 => by
      rw [h4 j g1 g2]
      exact EV_le w hh hn j g1 (by omega)
    obtain ⟨u3, u4, u5, u6, u7, u8, u9, u10, q⟩ := M_rt_7 (τ := τ1) hs (by omega) (by rw [h3 349 (by decide), hhi]; omega) hS wi1 (by rw [h3 365 (by decide)]; exact hh) (by rw [h3 364 (by decide)]; exact hn) hb w3 w4 w5 w6 w7 w8 w9 w10
    have eev : evo (rws τ1.1) (τ1.1 365) (τ1.1 364) (τ1.1 363) i = EV (rws τ.1) (τ.1 365) (τ.1 364) i := by
      rw [EV_eq w hlo (by omega), h3 365 (by decide), h3 364 (by decide)]
      have e1 : evo (rws τ1.1) (τ.1 365) (τ.1 364) (τ1.1 363) i = evo (rws τ.1) (τ.1 365) (τ.1 364) (τ1.1 363) i := by
        have lg : ∀ (k : Int) (c : Nat) (j v : Int), lfo (rws τ1.1) (τ1.1 363) k c j v = lfo (rws τ.1) (τ1.1 363) k c j v := by
          intro k c
          induction c with
          | zero => intro j v; rfl
          | succ c ihc =>
            intro j v
            show (if j < 0 then v else lfo (rws τ1.1) (τ1.1 363) k c (rws τ1.1 4 j.toNat) _) = if j < 0 then v else lfo (rws τ.1) (τ1.1 363) k c (rws τ.1 4 j.toNat) _
            rw [ef 4 (by decide), ihc]
        unfold evo
        rw [lg, lg, ef 0 (by decide), ef 1 (by decide), ef 2 (by decide), ef 3 (by decide), ef 4 (by decide), ef 5 (by decide)]
      rw [e1]
      exact evo_cg wi h4 (fun _ _ _ => rfl)
    rw [eev] at q
    obtain ⟨τ', r1, r2, r3⟩ := ih (i + 1) (xs τ1 363 i (EV (rws τ.1) (τ.1 365) (τ.1 364) i)) (by omega) (by omega) h2 (fun a ha => by rw [xs_ne ha]; exact h3 a ha) (fun j g1 g2 => by
      rw [xs_at]
      by_cases e : j = i
      · rw [e, xup_eq]
      · rw [xup_ne e]; exact h4 j g1 (by omega)) u3 u4 u5 u6 u7 u8 u9 u10
    exact ⟨τ', q.trans r1, r2, r3⟩
theorem M_rooted {s hi lo F S : Nat} {sk : Nat → Int} (hs : s < 200) (hh3 : hi ≤ 3300) (hlo : τ.1 348 s = (lo : Int)) (hhi : τ.1 349 s = (hi : Int)) (hS : S ≤ F + 24) (w : wfs (rws τ.1) sk F S lo hi) {root : Nat} (hr : τ.1 347 s = (root : Int)) (hr1 : lo ≤ root ∧ root < hi) (hh : ∀ j, j < 10 → -1000000000000 ≤ τ.1 365 j ∧ τ.1 365 j ≤ 1000000000000) (hn : ∀ j, F + j < S → sk (F + j) = 0 → -1000000000000 ≤ τ.1 364 j ∧ τ.1 364 j ≤ 1000000000000) : ∃ τ', X iM_rooted 0 [(2, 305), (0, (s : Int)), (9, 0), (9, 0), (9, 0), (9, 0), (9, 0), (9, 0), (9, 0), (9, 0), (9, 0)] [] τ = some ((1, EV (rws τ.1) (τ.1 365) (τ.1 364) root), τ') ∧ τ'.2 = τ.2 ∧ ∀ a, a ≠ 363 → τ'.1 a = τ.1 a := by
  rw [qM_rooted_0, if_pos (xin_of (by omega) (by omega)), Int.toNat_natCast, hlo]
  exact M_rt_all hs hh3 hhi hS w hr hr1 hh hn (hi - lo) lo τ (by omega) (Nat.le_refl _) rfl (fun _ _ => rfl) (fun j g1 g2 => absurd g2 (by omega)) _ _ _ _ _ _ _ _
end ROOTED

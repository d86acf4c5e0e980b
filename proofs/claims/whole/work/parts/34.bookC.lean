/-! the book's methods: the class's -/
def lnk (f : Nat → Int) : List Nat → Int → Prop
  | [], v => v = -1
  | i :: l, v => v = (i : Int) ∧ lnk f l (f i)
/-- the class's book is the reference's -/
def bk_Q (m : Nat → Nat → Int) : Prop := (m 222 = m 318 ∧ m 223 = m 319 ∧ m 224 = m 320 ∧ m 225 = m 321 ∧ m 226 = m 322 ∧ m 227 = m 323) ∧ (m 217 = m 315 ∧ m 218 = m 316 ∧ m 219 = m 317) ∧ (m 216 14 = m 305 22 ∧ m 216 6 = m 305 15 ∧ m 216 0 = m 305 0 ∧ m 216 15 = m 305 23)
/-- its chains -/
def bk_C (m : Nat → Nat → Int) : Prop := (∀ s : Nat, s < (m 305 15).toNat → lnk (m 228) (bk_ch m s (bk_n m)) (m 220 s)) ∧ ∀ s : Nat, m 221 s = ((bk_ch m s (bk_n m)).length : Int)
/-- what its numbers are -/
def bk_V (m : Nat → Nat → Int) : Prop := (0 ≤ m 305 0 ∧ m 305 0 ≤ 1000) ∧ m 305 23 = m 305 23 ∧
  (∀ i : Nat, i < bk_n m → (0 ≤ m 318 i ∧ m 318 i < m 305 15) ∧ (m 317 (m 318 i).toNat ≤ m 319 i ∧ m 319 i ≤ m 305 0) ∧ ((0 ≤ m 320 i ∧ m 320 i ≤ 4) ∨ (10 ≤ m 320 i ∧ m 320 i < 10 + m 305 11)) ∧ (0 ≤ m 321 i ∧ m 321 i ≤ m 305 0) ∧ (-1 ≤ m 322 i ∧ m 322 i ≤ m 305 0)) ∧
  (∀ s : Nat, s < (m 305 15).toNat → (0 ≤ m 317 s ∧ m 317 s ≤ m 305 0) ∧ (0 ≤ m 315 s ∧ m 315 s < m 305 6) ∧ (0 ≤ m 316 s ∧ m 316 s ≤ 3))
def bk_J (m : Nat → Nat → Int) : Prop := bk_B m ∧ bk_Q m ∧ bk_C m ∧ bk_V m
theorem bk_J.fst {m : Nat → Nat → Int} (h : bk_J m) {s : Int} (hs : 0 ≤ s ∧ s < m 305 15) : lnk (m 228) (bk_ch m s (bk_n m)) (m 220 s.toNat) ∧ m 221 s.toNat = ((bk_ch m s (bk_n m)).length : Int) := by
  obtain ⟨a, rfl⟩ : ∃ a : Nat, s = a := ⟨s.toNat, by omega⟩
  rw [Int.toNat_natCast]
  exact ⟨h.2.2.1.1 a (by omega), h.2.2.1.2 a⟩
theorem bk_J.xs {m : Nat → Nat → Int} (h : bk_J m) {s : Int} (hs : 0 ≤ s ∧ s < m 305 15) : xin s 150 := ⟨hs.1, by have := h.1.2; omega⟩
theorem bk_J.lt {m : Nat → Nat → Int} (h : bk_J m) {s : Int} {i : Nat} (hi : i ∈ bk_ch m s (bk_n m)) : i < 600 := by
  have h1 := (bk_ch_mem.mp hi).1
  have h2 := h.1.1
  unfold bk_n at h1
  omega
/-- known, in the class's words -/
theorem bk_J.un {m : Nat → Nat → Int} (h : bk_J m) {s : Int} {i : Nat} (hi : i ∈ bk_ch m s (bk_n m)) : m 322 i = -1 ∨ 0 ≤ m 322 i := by
  have h1 := (h.2.2.2.2.2.1 i (bk_ch_mem.mp hi).1).2.2.2.2
  omega
section BOOKC
variable {σ : xS}
theorem B_lastOf_14 (hJ : bk_J σ.1) {s : Int} (hs : 0 ≤ s ∧ s < σ.1 305 15) (d k : Int) : ∀ (l l0 : List Nat) (b v : Int), bk_ch σ.1 s (bk_n σ.1) = l0 ++ l → lnk (σ.1 228) l v → X iBook_lastOf 14 [(2, 216), (0, s), (0, d), (0, k), (0, b), (0, v), (0, (l0.length : Int))] [] σ = some ((0, bk_l b (l.filter (bk_H σ.1 d k))), σ) := by
  intro l
  have hlen := (hJ.fst hs).2
  have hx := hJ.xs hs
  obtain ⟨⟨e1, e2, e3, e4, e5, e6⟩, ⟨e7, e8, e9⟩, e10, e11, e12, e13⟩ := hJ.2.1
  have h600 : (bk_ch σ.1 s (bk_n σ.1)).length ≤ 600 := by
    have := bk_ch_len (m := σ.1) (s := s) (n := bk_n σ.1)
    have := hJ.1.1
    unfold bk_n at *
    omega
  induction l with
  | nil =>
    intro l0 b v he hv
    rw [List.append_nil] at he
    rw [qBook_lastOf_14, if_pos hx, hlen, he, if_neg (by omega)]
    rfl
  | cons i l ih =>
    intro l0 b v he hv
    obtain ⟨rfl, hv⟩ := hv
    have hi : i ∈ bk_ch σ.1 s (bk_n σ.1) := by rw [he]; simp
    have hi6 := hJ.lt hi
    have hun := hJ.un hi
    rw [he, List.length_append, List.length_cons] at hlen h600
    have hxi : xin (i : Int) 600 := ⟨by omega, by omega⟩
    have nx : xw ((l0.length : Int) + 1) = (((l0 ++ [i]).length : Nat) : Int) := by rw [List.length_append, xw_id (by omega) (by omega)]; simp
    have k1 := fun b => ih (l0 ++ [i]) b (σ.1 228 i) (by rw [he]; simp) hv
    rw [qBook_lastOf_14, if_pos hx, if_pos (by rw [hlen]; omega), if_neg (by omega)]
    simp only [if_pos hxi, Int.toNat_natCast, e1, e2, e4, e5, nx]
    rw [List.filter_cons]
    unfold bk_H at *
    simp only [Bool.and_eq_true, Bool.or_eq_true, decide_eq_true_eq] at *
    repeat' split
    all_goals first
      | (exfalso; omega)
      | exact k1 _
theorem B_lastOf (hJ : bk_J σ.1) {s : Int} (hs : 0 ≤ s ∧ s < σ.1 305 15) (d k : Int) : X iBook_lastOf 0 [(2, 216), (0, s), (0, d), (0, k), (9, 0), (9, 0), (9, 0)] [] σ = some ((0, bk_last σ.1 s d k), σ) := by
  rw [qBook_lastOf_0, if_pos (hJ.xs hs)]
  exact B_lastOf_14 hJ hs d k _ [] (-1) _ rfl (hJ.fst hs).1
theorem B_placeAt (hJ : bk_J σ.1) {s : Int} (hs : 0 ≤ s ∧ s < σ.1 305 15) (d k : Int) : X iBook_placeAt 0 [(2, 216), (0, s), (0, d), (0, k), (9, 0)] [] σ = some ((0, bk_pl σ.1 s d k), σ) := by
  have hN : ((bk_n σ.1 : Nat) : Int) = σ.1 305 22 := Int.toNat_of_nonneg hJ.1.1.1
  have h2 := bk_last_lt (m := σ.1) (s := s) (d := d) (k := k)
  have h3 := (bk_lf_lt (m := σ.1) (s := s) (p := bk_H σ.1 d k) (n := bk_n σ.1)).2
  have h3 : -1 ≤ bk_last σ.1 s d k := h3
  rw [qBook_placeAt_0, B_lastOf hJ hs, Option.bind_some, qBook_placeAt_7]
  unfold bk_pl
  by_cases h : bk_last σ.1 s d k < 0
  · rw [if_pos h, if_pos (by omega)]
  · rw [if_neg h, if_neg (by omega), if_pos (xin_of (by omega) (by have := hJ.1.1.2; omega)), hJ.2.1.1.2.2.1]
theorem B_sinceAt (hJ : bk_J σ.1) {s : Int} (hs : 0 ≤ s ∧ s < σ.1 305 15) (d k : Int) : X iBook_sinceAt 0 [(2, 216), (0, s), (0, d), (0, k), (9, 0)] [] σ = some ((0, bk_si σ.1 s d k), σ) := by
  have hN : ((bk_n σ.1 : Nat) : Int) = σ.1 305 22 := Int.toNat_of_nonneg hJ.1.1.1
  have h2 := bk_last_lt (m := σ.1) (s := s) (d := d) (k := k)
  have h3 := (bk_lf_lt (m := σ.1) (s := s) (p := bk_H σ.1 d k) (n := bk_n σ.1)).2
  have h3 : -1 ≤ bk_last σ.1 s d k := h3
  rw [qBook_sinceAt_0, B_lastOf hJ hs, Option.bind_some, qBook_sinceAt_7]
  unfold bk_si
  by_cases h : bk_last σ.1 s d k < 0
  · rw [if_pos h, if_pos (by omega), if_pos (hJ.xs hs), hJ.2.1.2.1.2.2]
  · rw [if_neg h, if_neg (by omega), if_pos (xin_of (by omega) (by have := hJ.1.1.2; omega)), hJ.2.1.1.2.1]
theorem B_washesAt_17 (hJ : bk_J σ.1) {s : Int} (hs : 0 ≤ s ∧ s < σ.1 305 15) (d k : Int) : ∀ (l l0 : List Nat) (c a v : Int), bk_ch σ.1 s (bk_n σ.1) = l0 ++ l → lnk (σ.1 228) l v → 0 ≤ c → c ≤ l0.length → X iBook_washesAt 17 [(2, 216), (0, s), (0, d), (0, k), (0, c), (0, a), (0, v), (0, (l0.length : Int))] [] σ = some ((0, c + bk_wc σ.1 a (l.filter (bk_H σ.1 d k))), σ) := by
  intro l
  have hlen := (hJ.fst hs).2
  have hx := hJ.xs hs
  obtain ⟨⟨e1, e2, e3, e4, e5, e6⟩, ⟨e7, e8, e9⟩, e10, e11, e12, e13⟩ := hJ.2.1
  have h600 : (bk_ch σ.1 s (bk_n σ.1)).length ≤ 600 := by
    have := bk_ch_len (m := σ.1) (s := s) (n := bk_n σ.1)
    have := hJ.1.1
    unfold bk_n at *
    omega
  induction l with
  | nil =>
    intro l0 c a v he hv _ _
    rw [List.append_nil] at he
    rw [qBook_washesAt_17, if_pos hx, hlen, he, if_neg (by omega)]
    show _ = some ((0, c + 0), σ)
    rw [Int.add_zero]
  | cons i l ih =>
    intro l0 c a v he hv hc0 hc
    obtain ⟨rfl, hv⟩ := hv
    have hi : i ∈ bk_ch σ.1 s (bk_n σ.1) := by rw [he]; simp
    have hi6 := hJ.lt hi
    have hun := hJ.un hi
    rw [he, List.length_append, List.length_cons] at hlen h600
    have hxi : xin (i : Int) 600 := ⟨by omega, by omega⟩
    have nx : xw ((l0.length : Int) + 1) = (((l0 ++ [i]).length : Nat) : Int) := by rw [List.length_append, xw_id (by omega) (by omega)]; simp
    have nc : xw (c + 1) = c + 1 := xw_id (by omega) (by omega)
    have nc0 : xw (c + 0) = c := by rw [xw_id (by omega) (by omega)]; omega
    have hl1 : (((l0 ++ [i]).length : Nat) : Int) = l0.length + 1 := by rw [List.length_append]; simp
    have k1 := fun c a h1 h2 => ih (l0 ++ [i]) c a (σ.1 228 i) (by rw [he]; simp) hv h1 h2
    have no : bk_H σ.1 d k i = false → X iBook_washesAt 42 [(2, 216), (0, s), (0, d), (0, k), (0, c), (0, a), (0, (i : Int)), (0, (l0.length : Int))] [(0, 0)] σ = some ((0, c + bk_wc σ.1 a ((i :: l).filter (bk_H σ.1 d k))), σ) := by
      intro hf
      rw [qBook_washesAt_42, if_pos rfl, if_pos hxi, nx, Int.toNat_natCast, List.filter_cons, if_neg (by rw [hf]; decide)]
      exact k1 c a hc0 (by omega)
    have yes : bk_H σ.1 d k i = true → X iBook_washesAt 42 [(2, 216), (0, s), (0, d), (0, k), (0, c), (0, a), (0, (i : Int)), (0, (l0.length : Int))] [(0, 1)] σ = some ((0, c + bk_wc σ.1 a ((i :: l).filter (bk_H σ.1 d k))), σ) := by
      intro hf
      rw [qBook_washesAt_42, if_neg (by decide), List.filter_cons, if_pos hf]
      simp only [if_pos hxi, nx, nc, nc0, Int.toNat_natCast, e3]
      show _ = some ((0, c + ((if a = 2 ∧ σ.1 320 i = 0 then 1 else 0) + bk_wc σ.1 (σ.1 320 i) (l.filter (bk_H σ.1 d k)))), σ)
      by_cases a1 : a = 2
      · by_cases a2 : σ.1 320 i = 0
        · rw [if_pos a1, if_pos a2, if_pos ⟨a1, a2⟩, k1 _ _ (by omega) (by omega), Int.add_assoc]
        · rw [if_pos a1, if_neg a2, if_neg fun q => a2 q.2, k1 _ _ (by omega) (by omega), Int.zero_add]
      · rw [if_neg a1, if_neg fun q => a1 q.1, k1 _ _ (by omega) (by omega), Int.zero_add]
    rw [qBook_washesAt_17, if_pos hx, if_pos (by rw [hlen]; omega), if_neg (by omega)]
    simp only [if_pos hxi, Int.toNat_natCast, e1, e2, e4, e5]
    unfold bk_H at no yes
    simp only [Bool.and_eq_true, Bool.or_eq_true, decide_eq_true_eq, Bool.and_eq_false_iff, Bool.or_eq_false_iff, decide_eq_false_iff_not] at no yes
    repeat' split
    all_goals first
      | exact no (by omega)
      | exact yes (by omega)
theorem B_washesAt (hJ : bk_J σ.1) {s : Int} (hs : 0 ≤ s ∧ s < σ.1 305 15) (d k : Int) : X iBook_washesAt 0 [(2, 216), (0, s), (0, d), (0, k), (9, 0), (9, 0), (9, 0), (9, 0)] [] σ = some ((0, bk_wa σ.1 s d k), σ) := by
  rw [qBook_washesAt_0, if_pos (hJ.xs hs)]
  have := B_washesAt_17 hJ hs d k _ [] 0 0 _ rfl (hJ.fst hs).1 (Int.le_refl 0) (Int.le_refl 0)
  rw [Int.zero_add] at this
  exact this
theorem B_nightsAt_25 (hJ : bk_J σ.1) {s : Int} (hs : 0 ≤ s ∧ s < σ.1 305 15) {P d k : Int} (hd : 0 ≤ d ∧ d ≤ 1000) : ∀ (l l0 : List Nat) (c a y v : Int), bk_ch σ.1 s (bk_n σ.1) = l0 ++ l → bk_so (σ.1 319) l → lnk (σ.1 228) l v → 0 ≤ c → c ≤ y → y ≤ 1000 → (∀ i ∈ l, y ≤ σ.1 319 i) → X iBook_nightsAt 25 [(2, 216), (0, s), (0, P), (0, d), (0, k), (0, c), (0, a), (0, y), (0, v), (0, (l0.length : Int))] [] σ = some ((0, c + bk_nc σ.1 P d a y (l.filter (bk_H σ.1 d k))), σ) := by
  intro l
  have hlen := (hJ.fst hs).2
  have hx := hJ.xs hs
  obtain ⟨⟨e1, e2, e3, e4, e5, e6⟩, ⟨e7, e8, e9⟩, e10, e11, e12, e13⟩ := hJ.2.1
  have h600 : (bk_ch σ.1 s (bk_n σ.1)).length ≤ 600 := by
    have := bk_ch_len (m := σ.1) (s := s) (n := bk_n σ.1)
    have := hJ.1.1
    unfold bk_n at *
    omega
  induction l with
  | nil =>
    intro l0 c a y v he hso hv hc0 hcy hy hyl
    rw [List.append_nil] at he
    rw [qBook_nightsAt_25, if_pos hx, hlen, he, if_neg (by omega)]
    rw [xw_id (x := d + 1) (by omega) (by omega), xw_id (x := d + 1 - y) (by omega) (by omega), xw_id (x := c + (d + 1 - y)) (by omega) (by omega), xw_id (x := c + 0) (by omega) (by omega)]
    show _ = some ((0, c + if a = P then d + 1 - y else 0), σ)
    by_cases h : a = P
    · rw [if_pos h, if_pos h]
    · rw [if_neg h, if_neg h]
  | cons i l ih =>
    intro l0 c a y v he hso hv hc0 hcy hy hyl
    obtain ⟨rfl, hv⟩ := hv
    have hi : i ∈ bk_ch σ.1 s (bk_n σ.1) := by rw [he]; simp
    have hi6 := hJ.lt hi
    have hun := hJ.un hi
    have hday := (hJ.2.2.2.2.2.1 i (bk_ch_mem.mp hi).1).2.1.2
    have htod := hJ.2.2.2.1.2
    have hyi := hyl i List.mem_cons_self
    rw [he, List.length_append, List.length_cons] at hlen h600
    have hxi : xin (i : Int) 600 := ⟨by omega, by omega⟩
    have nx : xw ((l0.length : Int) + 1) = (((l0 ++ [i]).length : Nat) : Int) := by rw [List.length_append, xw_id (by omega) (by omega)]; simp
    have n1 : xw (σ.1 319 i - y) = σ.1 319 i - y := xw_id (by omega) (by omega)
    have n2 : xw (c + (σ.1 319 i - y)) = c + (σ.1 319 i - y) := xw_id (by omega) (by omega)
    have nc0 : xw (c + 0) = c := by rw [xw_id (by omega) (by omega)]; omega
    have k1 := fun c a y h1 h2 h3 h4 => ih (l0 ++ [i]) c a y (σ.1 228 i) (by rw [he]; simp) hso.2 hv h1 h2 h3 h4
    have no : bk_H σ.1 d k i = false → X iBook_nightsAt 51 [(2, 216), (0, s), (0, P), (0, d), (0, k), (0, c), (0, a), (0, y), (0, (i : Int)), (0, (l0.length : Int))] [(0, 0)] σ = some ((0, c + bk_nc σ.1 P d a y ((i :: l).filter (bk_H σ.1 d k))), σ) := by
      intro hf
      rw [qBook_nightsAt_51, if_pos rfl, if_pos hxi, nx, Int.toNat_natCast, List.filter_cons, if_neg (by rw [hf]; decide)]
      exact k1 c a y hc0 hcy hy fun j hj => hyl j (List.mem_cons_of_mem _ hj)
    have yes : bk_H σ.1 d k i = true → X iBook_nightsAt 51 [(2, 216), (0, s), (0, P), (0, d), (0, k), (0, c), (0, a), (0, y), (0, (i : Int)), (0, (l0.length : Int))] [(0, 1)] σ = some ((0, c + bk_nc σ.1 P d a y ((i :: l).filter (bk_H σ.1 d k))), σ) := by
      intro hf
      rw [qBook_nightsAt_51, if_neg (by decide), List.filter_cons, if_pos hf]
      simp only [if_pos hxi, nx, nc0, Int.toNat_natCast, e3, e2, n1, n2]
      show _ = some ((0, c + ((if a = P then σ.1 319 i - y else 0) + bk_nc σ.1 P d (σ.1 320 i) (σ.1 319 i) (l.filter (bk_H σ.1 d k)))), σ)
      by_cases a1 : a = P
      · rw [if_pos a1, if_pos a1, k1 _ _ _ (by omega) (by omega) (by omega) hso.1, Int.add_assoc]
      · rw [if_neg a1, if_neg a1, k1 _ _ _ (by omega) (by omega) (by omega) hso.1, Int.zero_add]
    rw [qBook_nightsAt_25, if_pos hx, if_pos (by rw [hlen]; omega), if_neg (by omega)]
    simp only [if_pos hxi, Int.toNat_natCast, e1, e2, e4, e5]
    unfold bk_H at no yes
    simp only [Bool.and_eq_true, Bool.or_eq_true, decide_eq_true_eq, Bool.and_eq_false_iff, Bool.or_eq_false_iff, decide_eq_false_iff_not] at no yes
    repeat' split
    all_goals first
      | exact no (by omega)
      | exact yes (by omega)
theorem B_nightsAt (hJ : bk_J σ.1) {s : Int} (hs : 0 ≤ s ∧ s < σ.1 305 15) {P d k : Int} (hd : 0 ≤ d ∧ d ≤ 1000) (hc : σ.1 317 s.toNat ≤ d) : X iBook_nightsAt 0 [(2, 216), (0, s), (0, P), (0, d), (0, k), (9, 0), (9, 0), (9, 0), (9, 0), (9, 0)] [] σ = some ((0, sm (bk_at σ.1 s P k) (d + 1 - σ.1 317 s.toNat).toNat (σ.1 317 s.toNat)), σ) := by
  have hv := hJ.2.2.2
  have hcs := (hv.2.2.2 s.toNat (by omega)).1
  have hday : ∀ i ∈ bk_ch σ.1 s (bk_n σ.1), σ.1 317 s.toNat ≤ σ.1 319 i := fun i hi => by
    obtain ⟨h1, h2⟩ := bk_ch_mem.mp hi
    have := (hv.2.2.1 i h1).2.1.1
    rwa [h2] at this
  rw [qBook_nightsAt_0, if_pos (hJ.xs hs), if_pos (hJ.xs hs), hJ.2.1.2.1.2.2]
  have k1 := B_nightsAt_25 hJ hs (P := P) (k := k) hd _ [] 0 0 (σ.1 317 s.toNat) _ rfl bk_ch_so (hJ.fst hs).1 (Int.le_refl 0) (by omega) (by have := hv.1; omega) hday
  rw [Int.zero_add] at k1
  have k2 := bk_nc_sm (m := σ.1) (P := P) (d := d) (l := bk_hl σ.1 s d k) (a := 0) (c := σ.1 317 s.toNat) (t := (d + 1 - σ.1 317 s.toNat).toNat) (bk_so_filter bk_ch_so) (fun i hi => by
    obtain ⟨h1, h2⟩ := List.mem_filter.mp hi
    refine ⟨hday i h1, ?_⟩
    unfold bk_H at h2
    simp only [Bool.and_eq_true, decide_eq_true_eq] at h2
    exact h2.1) (by omega)
  refine k1.trans ?_
  show some ((0, bk_nc σ.1 P d 0 (σ.1 317 s.toNat) (bk_hl σ.1 s d k)), σ) = _
  rw [← k2]
  rw [sm_cg (g := bk_at σ.1 s P k) _ _ fun x _ hx => by
    unfold bk_at
    rw [bk_pl_plc (d := d) (by omega)]]
theorem B_isAt (hJ : bk_J σ.1) {s : Int} (hs : 0 ≤ s ∧ s < σ.1 305 15) (P : Int) {d k : Int} (hd : 0 ≤ d ∧ d ≤ 1000) (hk : 0 ≤ k ∧ k ≤ 1000) : X iBook_isAt 0 [(2, 216), (0, P), (0, s), (0, d), (0, k)] [] σ = some ((0, if bk_ask σ.1 s d k ∧ bk_pl σ.1 s d k = P then 1 else 0), σ) := by
  have e9 := hJ.2.1.2.1.2.2
  rw [qBook_isAt_0, if_pos (hJ.xs hs), if_pos (hJ.xs hs), e9]
  by_cases h1 : d < σ.1 317 s.toNat
  · rw [if_pos h1, if_neg fun q => absurd q.1.2.2.1 (by omega)]
  · rw [if_neg h1]
    by_cases h2 : k < σ.1 317 s.toNat
    · rw [if_pos h2, if_neg fun q => absurd q.1.2.2.2 (by omega)]
    · rw [if_neg h2, B_placeAt hJ hs, Option.bind_some, qBook_isAt_19]
      by_cases h3 : bk_pl σ.1 s d k = P
      · rw [if_pos h3, if_pos ⟨⟨hs, ⟨hd, hk⟩, by omega, by omega⟩, h3⟩]
      · rw [if_neg h3, if_neg fun q => h3 q.2]
theorem B_manyAt_6 (hJ : bk_J σ.1) (P so : Int) {d k : Int} (hd : 0 ≤ d ∧ d ≤ 1000) (hk : 0 ≤ k ∧ k ≤ 1000) : ∀ (t i : Nat), i + t = (σ.1 305 15).toNat → X iBook_manyAt 6 [(2, 216), (0, P), (0, so), (0, d), (0, k), (0, bk_my σ.1 P so d k i), (0, (i : Int))] [] σ = some ((0, bk_many σ.1 P so d k), σ) := by
  intro t
  have h15 := hJ.1.2
  have e11 := hJ.2.1.2.2.2.1
  have e7 := hJ.2.1.2.1.1
  induction t with
  | zero =>
    intro i hi
    rw [qBook_manyAt_6, if_neg (by rw [e11]; omega), show i = (σ.1 305 15).toNat by omega]
    rfl
  | succ t ih =>
    intro i hi
    have hx : xin (i : Int) 150 := ⟨by omega, by omega⟩
    have nx : xw ((i : Int) + 1) = ((i + 1 : Nat) : Int) := by rw [xw_id (by omega) (by omega)]; omega
    have hl := bk_my_le (m := σ.1) (P := P) (so := so) (d := d) (k := k) (n := i)
    have nc : xw (bk_my σ.1 P so d k i + 1) = bk_my σ.1 P so d k i + 1 := xw_id (by omega) (by omega)
    have nc0 : xw (bk_my σ.1 P so d k i + 0) = bk_my σ.1 P so d k i := by rw [xw_id (by omega) (by omega)]; omega
    have k1 := ih (i + 1) (by omega)
    rw [show bk_my σ.1 P so d k (i + 1) = bk_my σ.1 P so d k i + if σ.1 315 i = so ∧ bk_ask σ.1 i d k ∧ bk_pl σ.1 i d k = P then 1 else 0 from rfl] at k1
    rw [qBook_manyAt_6, if_pos (by rw [e11]; omega), if_pos hx, Int.toNat_natCast, nx, e7, nc0]
    by_cases a1 : σ.1 315 i = so
    · rw [if_pos a1, B_isAt hJ (by omega) P hd hk, Option.bind_some, qBook_manyAt_38, nx, nc, nc0]
      by_cases a2 : bk_ask σ.1 i d k ∧ bk_pl σ.1 i d k = P
      · rw [if_pos a2, if_neg (by decide)]
        rw [if_pos ⟨a1, a2⟩] at k1
        exact k1
      · rw [if_neg a2, if_pos rfl]
        rw [if_neg fun q => a2 q.2, Int.add_zero] at k1
        exact k1
    · rw [if_neg a1]
      rw [if_neg fun q => a1 q.1, Int.add_zero] at k1
      exact k1
theorem B_manyAt (hJ : bk_J σ.1) (P so : Int) {d k : Int} (hd : 0 ≤ d ∧ d ≤ 1000) (hk : 0 ≤ k ∧ k ≤ 1000) : X iBook_manyAt 0 [(2, 216), (0, P), (0, so), (0, d), (0, k), (9, 0), (9, 0)] [] σ = some ((0, bk_many σ.1 P so d k), σ) := by
  rw [qBook_manyAt_0]
  exact B_manyAt_6 hJ P so hd hk (σ.1 305 15).toNat 0 (by omega)
end BOOKC

/-! nodes against rows -/
/-- a chain of parts, behind the first: rows grow to the left -/
def chS (sub : Nat → Nat → Prop) (ok : Nat → Nat → Prop) (m f : Nat → Nat → Int) : List Nat → Nat → Nat → Nat → Prop
  | [], c, r, i => m c 7 = 0 ∧ r = i
  | c' :: L, c, r, i => m c 7 = (c' : Int) ∧ ∃ r', f 1 r' = (r : Int) ∧ 0 ≤ f 2 r' ∧ ok r' c' ∧ sub c' (f 2 r').toNat ∧ chS sub ok m f L c' r' i
/-- a list's parts, behind the first -/
def chL (sub : Nat → Nat → Prop) (m f : Nat → Nat → Int) : List Nat → Nat → Nat → Prop
  | [], c, r => m c 7 = 0 ∧ f 4 r = -1
  | c' :: L, c, r => m c 7 = (c' : Int) ∧ 0 ≤ f 4 r ∧ sub c' (f 4 r).toNat ∧ chL sub m f L c' (f 4 r).toNat
def okS (m f : Nat → Nat → Int) (r c : Nat) : Prop := (f 0 r = 2 ∧ m c 5 = 43) ∨ (f 0 r = 3 ∧ m c 5 = 45)
def okP (m f : Nat → Nat → Int) (r c : Nat) : Prop := (f 0 r = 4 ∧ m c 5 = 42) ∨ (f 0 r = 5 ∧ m c 5 = 47) ∨ (f 0 r = 6 ∧ m c 5 = 37)
def okK (f : Nat → Nat → Int) (k : Int) (r _c : Nat) : Prop := f 0 r = k
/-- a text whose letters have that number -/
def nam (m : Nat → Nat → Int) (t : List (Nat × Nat)) (x w : Int) : Prop := ∃ (c : Nat) (l : List Nat), x = (c : Int) ∧ sto m t c l ∧ wlt l ∧ wcd l 0 = w
/-- node a, its parts within cells from lo to hi, is row i -/
def rl (f m : Nat → Nat → Int) (t : List (Nat × Nat)) (sk sn : Nat → Int) (F S : Nat) : Nat → Nat → Nat → Nat → Nat → Prop
  | 0, _, _, _, _ => False
  | n + 1, lo, hi, a, i => (lo ≤ a ∧ a < hi ∧ nd t a) ∧
    ((f 0 i = 0 ∧ m a 0 = 34 ∧ m a 1 = f 5 i) ∨
     (f 0 i = 1 ∧ 0 ≤ f 1 i ∧ f 1 i < 10 ∧ m a 0 = 24 + f 1 i) ∨
     (f 0 i = 1 ∧ 10 ≤ f 1 i ∧ m a 0 = 35 ∧ m a 1 = (lkc sk F (f 1 i - 10).toNat : Int) ∧ F + (f 1 i - 10).toNat < S ∧ sk (F + (f 1 i - 10).toNat) = 0 ∧ nam m t (m a 4) (sn (F + (f 1 i - 10).toNat))) ∨
     (f 0 i = 7 ∧ m a 0 = 38 ∧ ∃ c : Nat, m a 6 = (c : Int) ∧ f 0 (f 1 i).toNat ≤ 10 ∧ ∃ lo' hi', lo ≤ lo' ∧ hi' ≤ hi ∧ ¬ (lo' ≤ a ∧ a < hi') ∧ rl f m t sk sn F S n lo' hi' c (f 1 i).toNat) ∨
     (f 0 i = 14 ∧ m a 0 = 23 ∧ ∃ c : Nat, m a 6 = (c : Int) ∧ 11 ≤ f 0 (f 1 i).toNat ∧ ∃ lo' hi', lo ≤ lo' ∧ hi' ≤ hi ∧ ¬ (lo' ≤ a ∧ a < hi') ∧ rl f m t sk sn F S n lo' hi' c (f 1 i).toNat) ∨
     (((f 0 i = 8 ∧ m a 0 = 19) ∨ (f 0 i = 9 ∧ m a 0 = 20)) ∧ ∃ (c : Nat) (L : List Nat), m a 6 = (c : Int) ∧ (f 0 (f 1 i).toNat ≤ 10 ∧ ∃ lo' hi', lo ≤ lo' ∧ hi' ≤ hi ∧ ¬ (lo' ≤ a ∧ a < hi') ∧ rl f m t sk sn F S n lo' hi' c (f 1 i).toNat) ∧ chL (fun c j => f 0 j ≤ 10 ∧ ∃ lo' hi', lo ≤ lo' ∧ hi' ≤ hi ∧ ¬ (lo' ≤ a ∧ a < hi') ∧ rl f m t sk sn F S n lo' hi' c j) m f L c (f 1 i).toNat) ∨
     (f 0 i = 10 ∧ m a 0 = 16 ∧ ∃ c1 c2 c3 : Nat, m a 6 = (c1 : Int) ∧ m c1 7 = (c2 : Int) ∧ m c2 7 = (c3 : Int) ∧ m c3 7 = 0 ∧
        (11 ≤ f 0 (f 1 i).toNat ∧ ∃ lo' hi', lo ≤ lo' ∧ hi' ≤ hi ∧ ¬ (lo' ≤ a ∧ a < hi') ∧ rl f m t sk sn F S n lo' hi' c1 (f 1 i).toNat) ∧
        (f 0 (f 2 i).toNat ≤ 10 ∧ ∃ lo' hi', lo ≤ lo' ∧ hi' ≤ hi ∧ ¬ (lo' ≤ a ∧ a < hi') ∧ rl f m t sk sn F S n lo' hi' c2 (f 2 i).toNat) ∧
        (f 0 (f 3 i).toNat ≤ 10 ∧ ∃ lo' hi', lo ≤ lo' ∧ hi' ≤ hi ∧ ¬ (lo' ≤ a ∧ a < hi') ∧ rl f m t sk sn F S n lo' hi' c3 (f 3 i).toNat)) ∨
     (m a 0 = 39 ∧ ∃ c1 c2 : Nat, m a 6 = (c1 : Int) ∧ m c1 7 = (c2 : Int) ∧ m c2 7 = 0 ∧ ((f 0 i = 11 ∧ m c2 5 = 60) ∨ (f 0 i = 12 ∧ m c2 5 = 62) ∨ (f 0 i = 13 ∧ m c2 5 = 61)) ∧
        (f 0 (f 1 i).toNat ≤ 10 ∧ ∃ lo' hi', lo ≤ lo' ∧ hi' ≤ hi ∧ ¬ (lo' ≤ a ∧ a < hi') ∧ rl f m t sk sn F S n lo' hi' c1 (f 1 i).toNat) ∧
        (f 0 (f 2 i).toNat ≤ 10 ∧ ∃ lo' hi', lo ≤ lo' ∧ hi' ≤ hi ∧ ¬ (lo' ≤ a ∧ a < hi') ∧ rl f m t sk sn F S n lo' hi' c2 (f 2 i).toNat)) ∨
     ((f 0 i = 2 ∨ f 0 i = 3) ∧ m a 0 = 36 ∧ ∃ (c r c' : Nat) (L : List Nat), m a 6 = (c : Int) ∧ (f 0 r ≤ 10 ∧ ∃ lo' hi', lo ≤ lo' ∧ hi' ≤ hi ∧ ¬ (lo' ≤ a ∧ a < hi') ∧ rl f m t sk sn F S n lo' hi' c r) ∧ chS (fun c j => f 0 j ≤ 10 ∧ ∃ lo' hi', lo ≤ lo' ∧ hi' ≤ hi ∧ ¬ (lo' ≤ a ∧ a < hi') ∧ rl f m t sk sn F S n lo' hi' c j) (okS m f) m f (c' :: L) c r i) ∨
     ((f 0 i = 4 ∨ f 0 i = 5 ∨ f 0 i = 6) ∧ m a 0 = 37 ∧ ∃ (c r c' : Nat) (L : List Nat), m a 6 = (c : Int) ∧ (f 0 r ≤ 10 ∧ ∃ lo' hi', lo ≤ lo' ∧ hi' ≤ hi ∧ ¬ (lo' ≤ a ∧ a < hi') ∧ rl f m t sk sn F S n lo' hi' c r) ∧ chS (fun c j => f 0 j ≤ 10 ∧ ∃ lo' hi', lo ≤ lo' ∧ hi' ≤ hi ∧ ¬ (lo' ≤ a ∧ a < hi') ∧ rl f m t sk sn F S n lo' hi' c j) (okP m f) m f (c' :: L) c r i) ∨
     (((f 0 i = 15 ∧ m a 0 = 22) ∨ (f 0 i = 16 ∧ m a 0 = 21)) ∧ ∃ (c r c' : Nat) (L : List Nat), m a 6 = (c : Int) ∧ (11 ≤ f 0 r ∧ ∃ lo' hi', lo ≤ lo' ∧ hi' ≤ hi ∧ ¬ (lo' ≤ a ∧ a < hi') ∧ rl f m t sk sn F S n lo' hi' c r) ∧ chS (fun c j => 11 ≤ f 0 j ∧ ∃ lo' hi', lo ≤ lo' ∧ hi' ≤ hi ∧ ¬ (lo' ≤ a ∧ a < hi') ∧ rl f m t sk sn F S n lo' hi' c j) (okK f (f 0 i)) m f (c' :: L) c r i))
theorem rl_nd {f m : Nat → Nat → Int} {t : List (Nat × Nat)} {sk sn : Nat → Int} {F S n lo hi a i : Nat} (h : rl f m t sk sn F S n lo hi a i) : lo ≤ a ∧ a < hi ∧ nd t a := by
  cases n with
  | zero => exact h.elim
  | succ n => exact h.1
/-- rows of a chain lie within -/
theorem chS_in {sub ok : Nat → Nat → Prop} {m f : Nat → Nat → Int} {sk : Nat → Int} {F S lo hi : Nat} (w : wfs f sk F S lo hi) (hok : ∀ r c, ok r c → (2 ≤ f 0 r ∧ f 0 r < 7) ∨ (9 < f 0 r ∧ f 0 r ≠ 14)) : ∀ {L : List Nat} {c r i : Nat}, chS sub ok m f L c r i → lo ≤ i → i < hi → lo ≤ r ∧ r ≤ i
  | [], c, r, i, h, h1, h2 => by rw [h.2]; exact ⟨h1, Nat.le_refl _⟩
  | c' :: L, c, r, i, h, h1, h2 => by
    obtain ⟨_, r', g1, g2, g3, g4, g5⟩ := h
    obtain ⟨k1, k2⟩ := chS_in w hok g5 h1 h2
    have w3 := (w r' k1 (by omega)).2.2.2.1 (by have := hok _ _ g3; omega)
    rw [g1] at w3
    omega
/-- the class's terms: their names' cell -/
def tob (m : Nat → Nat → Int) (t : List (Nat × Nat)) (T N nn : Nat) : Prop := (392 ≤ T ∧ xnth t (T - 392) = some (11, 5)) ∧ m T 3 = 254 ∧ m T 4 = (N : Int) ∧ (392 ≤ N ∧ xnth t (N - 392) = some (101, nn)) ∧ nn ≤ 24
theorem xsetdp_back (σ : xS) (d : Nat) : xsetdp (xsetdp σ d) (xdp σ) = σ := by
  obtain ⟨a, b, c, e, g⟩ := σ
  rfl
theorem cnd_t {α : Type} {a b : α} : cond true a b = a := rfl
theorem cnd_f {α : Type} {a b : α} : cond false a b = b := rfl
theorem kd_w {σ : xS} {A : Nat} (h : A < 10) : xisO xE1 σ ((24 + A : Nat) : Int) 50 = true ∧ xfld xE1 σ ((24 + A : Nat) : Int) 50 0 = some ((22 + A : Nat) : Int) ∧ xfld xE1 σ ((24 + A : Nat) : Int) 50 2 = some (A : Int) ∧ xag xE1 σ 41 (22 + A) = 0 ∧ xfld xE1 σ ((24 + A : Nat) : Int) 50 1 = some ((88 + 2 * A : Nat) : Int) := by
  match A, h with
  | 0, _ => exact ⟨rfl, rfl, rfl, rfl, rfl⟩
  | 1, _ => exact ⟨rfl, rfl, rfl, rfl, rfl⟩
  | 2, _ => exact ⟨rfl, rfl, rfl, rfl, rfl⟩
  | 3, _ => exact ⟨rfl, rfl, rfl, rfl, rfl⟩
  | 4, _ => exact ⟨rfl, rfl, rfl, rfl, rfl⟩
  | 5, _ => exact ⟨rfl, rfl, rfl, rfl, rfl⟩
  | 6, _ => exact ⟨rfl, rfl, rfl, rfl, rfl⟩
  | 7, _ => exact ⟨rfl, rfl, rfl, rfl, rfl⟩
  | 8, _ => exact ⟨rfl, rfl, rfl, rfl, rfl⟩
  | 9, _ => exact ⟨rfl, rfl, rfl, rfl, rfl⟩
  | n + 10, h => omega
theorem xab_pos {b : Int} (hb : -1000000000000 ≤ b ∧ b ≤ 1000000000000) (h0 : b ≠ 0) : 0 < xab 1 b ∧ xab 1 b ≤ 1000000000000 ∧ (xab 1 b = b ∨ xab 1 b = -b) ∧ (0 < b ↔ xab 1 b = b) := by
  show 0 < (if 0 < b then b else xW (-b)) ∧ (if 0 < b then b else xW (-b)) ≤ 1000000000000 ∧ ((if 0 < b then b else xW (-b)) = b ∨ (if 0 < b then b else xW (-b)) = -b) ∧ (0 < b ↔ (if 0 < b then b else xW (-b)) = b)
  by_cases c : 0 < b
  · rw [if_pos c]; omega
  · rw [if_neg c, xW_id (by omega) (by omega)]; omega
theorem C_times {σ : xS} {a b : Int} (ha : -1000000000000 ≤ a ∧ a ≤ 1000000000000) (hb : -1000000000000 ≤ b ∧ b ≤ 1000000000000) : X iTerms_times 0 [(1, a), (8, 0), (1, b), (8, 0)] [] σ = some ((1, tmz a b), σ) := by
  rw [qTerms_times_0]
  unfold tmz
  by_cases a0 : a = 0
  · rw [if_pos a0, if_pos (Or.inl a0)]
  by_cases b0 : b = 0
  · rw [if_neg a0, if_pos b0, if_pos (Or.inr b0)]
  rw [if_neg a0, if_neg b0, if_neg (show ¬ (a = 0 ∨ b = 0) from fun q => q.elim a0 b0)]
  obtain ⟨x1, x2, x3, x4⟩ := xab_pos ha a0
  obtain ⟨y1, y2, y3, y4⟩ := xab_pos hb b0
  have hm := mst_le y1
  have e := mst_div (x := xab 1 a) y1
  have hp : 0 < xab 1 a * xab 1 b := Int.mul_pos x1 y1
  rw [if_neg (by omega), xW_id (x := Int.tdiv 1000000000000 (xab 1 b)) (by omega) (by omega)]
  have sg : (0 < a ↔ 0 < b) ∧ a * b = xab 1 a * xab 1 b ∨ ¬ (0 < a ↔ 0 < b) ∧ a * b = -(xab 1 a * xab 1 b) := by
    by_cases p : 0 < a
    · have e1 := x4.mp p
      by_cases q : 0 < b
      · have e2 := y4.mp q
        exact Or.inl ⟨⟨fun _ => q, fun _ => p⟩, by rw [e1, e2]⟩
      · have e2 : xab 1 b = -b := y3.resolve_left fun z => q (y4.mpr z)
        exact Or.inr ⟨fun z => q (z.mp p), by rw [e1, e2, Int.mul_neg, Int.neg_neg]⟩
    · have e1 : xab 1 a = -a := x3.resolve_left fun z => p (x4.mpr z)
      by_cases q : 0 < b
      · have e2 := y4.mp q
        exact Or.inr ⟨fun z => p (z.mpr q), by rw [e1, e2, Int.neg_mul, Int.neg_neg]⟩
      · have e2 : xab 1 b = -b := y3.resolve_left fun z => q (y4.mpr z)
        exact Or.inl ⟨⟨fun z => absurd z p, fun z => absurd z q⟩, by rw [e1, e2, Int.neg_mul_neg]⟩
  by_cases c : 1000000000000 < xab 1 a * xab 1 b
  · rw [if_pos (e.mpr c)]
    rcases sg with ⟨s1, s2⟩ | ⟨s1, s2⟩
    · rw [s2, hl_hi c]
      by_cases p : 0 < a
      · rw [if_pos p, if_pos (s1.mp p)]
      · rw [if_neg p, if_neg (fun q => p (s1.mpr q))]
    · rw [s2, hl_lo (by omega)]
      by_cases p : 0 < a
      · rw [if_pos p, if_neg (fun q => s1 ⟨fun _ => q, fun _ => p⟩)]
      · by_cases q : 0 < b
        · rw [if_neg p, if_pos q]
        · exact absurd ⟨fun z => absurd z p, fun z => absurd z q⟩ s1
  · rw [if_neg (fun q => c (e.mp q))]
    have hab : -1000000000000 ≤ a * b ∧ a * b ≤ 1000000000000 := by
      rcases sg with ⟨_, s2⟩ | ⟨_, s2⟩ <;> (rw [s2]; omega)
    rw [hl_id hab, xW_id (by omega) (by omega)]
theorem hl_xmm {v : Int} : xmm 0 (-1000000000000) (xmm 1 1000000000000 v) = hl v := by
  show (if -1000000000000 < (if v < 1000000000000 then v else 1000000000000) then (if v < 1000000000000 then v else 1000000000000) else -1000000000000) = hl v
  unfold hl
  by_cases c : v < 1000000000000
  · rw [if_pos c]
    by_cases d : -1000000000000 < v
    · rw [if_pos d, if_neg (by omega), if_neg (by omega)]
    · rw [if_neg d, if_neg (by omega)]
      by_cases e : v < -1000000000000
      · rw [if_pos e]
      · rw [if_neg e]; omega
  · rw [if_neg c, if_pos (by decide)]
    by_cases d : 1000000000000 < v
    · rw [if_pos d]
    · rw [if_neg d, if_neg (by omega)]; omega
section JOINED
variable {σ : xS} {a b : Int}
theorem C_joined_43 (ha : -1000000000000 ≤ a ∧ a ≤ 1000000000000) (hb : -1000000000000 ≤ b ∧ b ≤ 1000000000000) : X iTerms_joined 0 [(1, a), (8, 0), (0, 43), (1, b), (8, 0)] [] σ = some ((1, hl (a + b)), σ) := by
  rw [qTerms_joined_0, if_neg (by decide), if_neg (by decide), if_neg (by decide), if_neg (by decide), if_neg (by decide), if_neg (by decide), if_pos rfl, hl_xmm, xW_id (by omega) (by omega)]
theorem C_joined_45 (ha : -1000000000000 ≤ a ∧ a ≤ 1000000000000) (hb : -1000000000000 ≤ b ∧ b ≤ 1000000000000) : X iTerms_joined 0 [(1, a), (8, 0), (0, 45), (1, b), (8, 0)] [] σ = some ((1, hl (a - b)), σ) := by
  rw [qTerms_joined_0, if_neg (by decide), if_neg (by decide), if_neg (by decide), if_neg (by decide), if_neg (by decide), if_neg (by decide), if_neg (by decide), if_neg (by decide), if_pos rfl, hl_xmm, xW_id (by omega) (by omega)]
theorem C_joined_42 (ha : -1000000000000 ≤ a ∧ a ≤ 1000000000000) (hb : -1000000000000 ≤ b ∧ b ≤ 1000000000000) : X iTerms_joined 0 [(1, a), (8, 0), (0, 42), (1, b), (8, 0)] [] σ = some ((1, tmz a b), σ) := by
  rw [qTerms_joined_0, if_neg (by decide), if_neg (by decide), if_neg (by decide), if_neg (by decide), if_neg (by decide), if_pos rfl, C_times ha hb, Option.bind_some, qTerms_joined_79]
theorem C_joined_47 (ha : -1000000000000 ≤ a ∧ a ≤ 1000000000000) : X iTerms_joined 0 [(1, a), (8, 0), (0, 47), (1, b), (8, 0)] [] σ = some ((1, if b = 0 then 0 else Int.tdiv a b), σ) := by
  have := tdiv_abs (a := a) (b := b) (B := 1000000000000) (by omega)
  rw [qTerms_joined_0, if_neg (by decide), if_neg (by decide), if_neg (by decide), if_neg (by decide), if_neg (by decide), if_neg (by decide), if_neg (by decide), if_neg (by decide), if_neg (by decide), if_neg (by decide), if_pos rfl]
  by_cases c : b = 0
  · rw [if_pos c, if_pos c]
  · rw [if_neg c, if_neg c, if_neg c, xW_id (by omega) (by omega)]
theorem C_joined_37 : X iTerms_joined 0 [(1, a), (8, 0), (0, 37), (1, b), (8, 0)] [] σ = some ((1, if b = 0 then 0 else Int.tmod a b), σ) := by
  rw [qTerms_joined_0, if_pos rfl]
  by_cases c : b = 0
  · rw [if_pos c, if_pos c]
  · rw [if_neg c, if_neg c, if_neg c]
end JOINED

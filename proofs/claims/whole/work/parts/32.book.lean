/-! THE BOOK: a sheet's moves by days, as a list -/
def bk_H (m : Nat → Nat → Int) (d k : Int) (i : Nat) : Bool := decide (m 319 i ≤ d) && (decide (m 321 i ≤ k) && (decide (m 322 i < 0) || decide (k < m 322 i)))
def bk_ins (f : Nat → Int) (i : Nat) : List Nat → List Nat
  | [] => [i]
  | j :: l => if f j ≤ f i then j :: bk_ins f i l else i :: j :: l
def bk_ch (m : Nat → Nat → Int) (s : Int) : Nat → List Nat
  | 0 => []
  | n + 1 => if m 318 n = s then bk_ins (m 319) n (bk_ch m s n) else bk_ch m s n
def bk_n (m : Nat → Nat → Int) : Nat := (m 305 22).toNat
def bk_hl (m : Nat → Nat → Int) (s d k : Int) : List Nat := (bk_ch m s (bk_n m)).filter (bk_H m d k)
def bk_so (f : Nat → Int) : List Nat → Prop
  | [] => True
  | i :: l => (∀ j ∈ l, f i ≤ f j) ∧ bk_so f l
def bk_l (b : Int) (l : List Nat) : Int := l.foldl (fun _ (i : Nat) => (i : Int)) b
theorem bk_ins_mem {f : Nat → Int} {i j : Nat} : ∀ {l : List Nat}, j ∈ bk_ins f i l ↔ j = i ∨ j ∈ l
  | [] => by simp [bk_ins]
  | x :: l => by
    unfold bk_ins
    split
    · rw [List.mem_cons, bk_ins_mem (l := l), List.mem_cons]
      constructor
      · rintro (h | h | h)
        · exact Or.inr (Or.inl h)
        · exact Or.inl h
        · exact Or.inr (Or.inr h)
      · rintro (h | h | h)
        · exact Or.inr (Or.inl h)
        · exact Or.inl h
        · exact Or.inr (Or.inr h)
    · rw [List.mem_cons]
theorem bk_ins_len {f : Nat → Int} {i : Nat} : ∀ {l : List Nat}, (bk_ins f i l).length = l.length + 1
  | [] => rfl
  | x :: l => by
    unfold bk_ins
    split
    · rw [List.length_cons, bk_ins_len (l := l), List.length_cons]
    · rfl
theorem bk_ins_so {f : Nat → Int} {i : Nat} : ∀ {l : List Nat}, bk_so f l → bk_so f (bk_ins f i l)
  | [], _ => ⟨fun j h => absurd h List.not_mem_nil, trivial⟩
  | x :: l, h => by
    unfold bk_ins
    split
    · rename_i hx
      refine ⟨fun j hj => ?_, bk_ins_so h.2⟩
      rcases bk_ins_mem.mp hj with rfl | hj
      · exact hx
      · exact h.1 j hj
    · rename_i hx
      refine ⟨fun j hj => ?_, h⟩
      rcases List.mem_cons.mp hj with rfl | hj
      · omega
      · have := h.1 j hj
        omega
theorem bk_ins_gt {f : Nat → Int} {i : Nat} {l : List Nat} (h : ∀ j ∈ l, f i < f j) : bk_ins f i l = i :: l := by
  cases l with
  | nil => rfl
  | cons x l =>
    unfold bk_ins
    have := h x List.mem_cons_self
    rw [if_neg (by omega)]
theorem bk_ins_app {f : Nat → Int} {i : Nat} : ∀ {l l' : List Nat}, (∀ j ∈ l, f j ≤ f i) → (∀ j ∈ l', f i < f j) → bk_ins f i (l ++ l') = l ++ i :: l'
  | [], l', _, h => bk_ins_gt h
  | x :: l, l', h1, h2 => by
    show bk_ins f i (x :: (l ++ l')) = _
    unfold bk_ins
    rw [if_pos (h1 x List.mem_cons_self), bk_ins_app (fun j hj => h1 j (List.mem_cons_of_mem _ hj)) h2]
    rfl
theorem bk_so_filter {f : Nat → Int} {p : Nat → Bool} : ∀ {l : List Nat}, bk_so f l → bk_so f (l.filter p)
  | [], _ => trivial
  | x :: l, h => by
    rw [List.filter_cons]
    split
    · exact ⟨fun j hj => h.1 j (List.mem_filter.mp hj).1, bk_so_filter h.2⟩
    · exact bk_so_filter h.2
theorem bk_ins_filter {f : Nat → Int} {p : Nat → Bool} {i : Nat} : ∀ {l : List Nat}, bk_so f l → (bk_ins f i l).filter p = if p i then bk_ins f i (l.filter p) else l.filter p
  | [], _ => by
    show [i].filter p = _
    rw [List.filter_cons]
    rfl
  | x :: l, h => by
    by_cases hx : f x ≤ f i
    · rw [show bk_ins f i (x :: l) = x :: bk_ins f i l from if_pos hx, List.filter_cons, bk_ins_filter h.2, List.filter_cons]
      by_cases hp : p x = true
      · rw [if_pos hp, if_pos hp]
        by_cases hi : p i = true
        · rw [if_pos hi, if_pos hi]
          exact (if_pos hx).symm
        · rw [if_neg hi, if_neg hi]
      · rw [if_neg hp, if_neg hp]
    · rw [show bk_ins f i (x :: l) = i :: x :: l from if_neg hx, List.filter_cons]
      by_cases hi : p i = true
      · rw [if_pos hi, if_pos hi, bk_ins_gt]
        intro j hj
        have hj := (List.mem_filter.mp hj).1
        rcases List.mem_cons.mp hj with rfl | hj
        · omega
        · have := h.1 j hj
          omega
      · rw [if_neg hi, if_neg hi]
theorem bk_ch_mem {m : Nat → Nat → Int} {s : Int} {j : Nat} : ∀ {n : Nat}, j ∈ bk_ch m s n ↔ j < n ∧ m 318 j = s
  | 0 => by simp [bk_ch]
  | n + 1 => by
    unfold bk_ch
    split
    · rename_i hs
      rw [bk_ins_mem, bk_ch_mem (n := n)]
      constructor
      · rintro (rfl | h)
        · exact ⟨Nat.lt_succ_self _, hs⟩
        · exact ⟨by omega, h.2⟩
      · intro h
        by_cases e : j = n
        · exact Or.inl e
        · exact Or.inr ⟨by omega, h.2⟩
    · rename_i hs
      rw [bk_ch_mem (n := n)]
      constructor
      · intro h
        exact ⟨by omega, h.2⟩
      · intro h
        by_cases e : j = n
        · subst e
          exact absurd h.2 hs
        · exact ⟨by omega, h.2⟩
theorem bk_ch_so {m : Nat → Nat → Int} {s : Int} : ∀ {n : Nat}, bk_so (m 319) (bk_ch m s n)
  | 0 => trivial
  | n + 1 => by
    unfold bk_ch
    split
    · exact bk_ins_so bk_ch_so
    · exact bk_ch_so
theorem bk_ch_cg {m m' : Nat → Nat → Int} {s : Int} : ∀ {n : Nat}, (∀ i, i < n → m' 318 i = m 318 i ∧ m' 319 i = m 319 i) → bk_ch m' s n = bk_ch m s n
  | 0, _ => rfl
  | n + 1, h => by
    have ih := bk_ch_cg (s := s) (n := n) fun i hi => h i (by omega)
    have hn := h n (Nat.lt_succ_self n)
    unfold bk_ch
    rw [hn.1, ih]
    split
    · have key : ∀ l : List Nat, (∀ j ∈ l, j < n) → bk_ins (m' 319) n l = bk_ins (m 319) n l := by
        intro l
        induction l with
        | nil => intro _; rfl
        | cons x l ih2 =>
          intro hl
          unfold bk_ins
          rw [(h x (by have := hl x List.mem_cons_self; omega)).2, hn.2, ih2 fun j hj => hl j (List.mem_cons_of_mem _ hj)]
      exact key _ fun j hj => (bk_ch_mem.mp hj).1
    · rfl
theorem bk_l_cons (b : Int) (i : Nat) (l : List Nat) : bk_l b (i :: l) = bk_l i l := rfl
theorem bk_l_mem {b : Int} : ∀ {l : List Nat}, l ≠ [] → ∃ i ∈ l, bk_l b l = (i : Int)
  | [], h => absurd rfl h
  | i :: l, _ => by
    by_cases hl : l = []
    · subst hl
      exact ⟨i, List.mem_cons_self, rfl⟩
    · obtain ⟨j, h1, h2⟩ := bk_l_mem (b := (i : Int)) hl
      exact ⟨j, List.mem_cons_of_mem _ h1, h2⟩
theorem bk_l_ins {f : Nat → Int} {n : Nat} : ∀ {l : List Nat} {b : Int}, bk_l b (bk_ins f n l) = if ∀ j ∈ l, f j ≤ f n then (n : Int) else bk_l b l
  | [], b => (if_pos (fun j h => absurd h List.not_mem_nil)).symm
  | x :: l, b => by
    by_cases hx : f x ≤ f n
    · rw [show bk_ins f n (x :: l) = x :: bk_ins f n l from if_pos hx, bk_l_cons, bk_l_ins, bk_l_cons]
      by_cases h : ∀ j ∈ l, f j ≤ f n
      · rw [if_pos h, if_pos]
        intro j hj
        rcases List.mem_cons.mp hj with rfl | hj
        · exact hx
        · exact h j hj
      · rw [if_neg h, if_neg fun q => h fun j hj => q j (List.mem_cons_of_mem _ hj)]
    · rw [show bk_ins f n (x :: l) = n :: x :: l from if_neg hx, if_neg fun q => hx (q x List.mem_cons_self)]
      rfl
theorem bk_l_so {f : Nat → Int} {b : Int} : ∀ {l : List Nat}, bk_so f l → ∀ j ∈ l, ∃ i ∈ l, bk_l b l = (i : Int) ∧ f j ≤ f i
  | [], _, j, hj => absurd hj List.not_mem_nil
  | x :: l, h, j, hj => by
    by_cases hl : l = []
    · subst hl
      rcases List.mem_cons.mp hj with rfl | hj
      · exact ⟨j, List.mem_cons_self, rfl, Int.le_refl _⟩
      · exact absurd hj List.not_mem_nil
    · rcases List.mem_cons.mp hj with rfl | hj
      · obtain ⟨i, h1, h2⟩ := bk_l_mem (b := (j : Int)) hl
        exact ⟨i, List.mem_cons_of_mem _ h1, h2, h.1 i h1⟩
      · obtain ⟨i, h1, h2, h3⟩ := bk_l_so (b := (x : Int)) h.2 j hj
        exact ⟨i, List.mem_cons_of_mem _ h1, h2, h3⟩
theorem bk_l_step {f : Nat → Int} {n : Nat} {l : List Nat} (h : bk_so f l) : bk_l (-1) (bk_ins f n l) = if bk_l (-1) l < 0 then (n : Int) else if f n < f (bk_l (-1) l).toNat then bk_l (-1) l else (n : Int) := by
  rw [bk_l_ins]
  by_cases hl : l = []
  · subst hl
    rw [if_pos fun j h => absurd h List.not_mem_nil, if_pos]
    show (-1 : Int) < 0
    decide
  · obtain ⟨i, h1, h2⟩ := bk_l_mem (b := -1) hl
    rw [h2, if_neg (show ¬ (i : Int) < 0 by omega), Int.toNat_natCast]
    by_cases hi : f n < f i
    · rw [if_pos hi, if_neg fun q => by have := q i h1; omega]
    · rw [if_neg hi, if_pos]
      intro j hj
      obtain ⟨i', g1, g2, g3⟩ := bk_l_so (b := -1) h j hj
      rw [h2] at g2
      have : i = i' := by omega
      subst this
      omega
theorem bk_l_filter {p : Nat → Bool} {b : Int} {l : List Nat} : bk_l b (l.filter p) = l.foldl (fun b (i : Nat) => if p i then (i : Int) else b) b := by
  induction l generalizing b with
  | nil => rfl
  | cons x l ih =>
    rw [List.filter_cons, List.foldl_cons]
    by_cases hp : p x = true
    · rw [if_pos hp, if_pos hp, bk_l_cons, ih]
    · rw [if_neg hp, if_neg hp, ih]
/-- the last, the place, the day of a sheet's history -/
def bk_last (m : Nat → Nat → Int) (s d k : Int) : Int := bk_l (-1) (bk_hl m s d k)
def bk_pl (m : Nat → Nat → Int) (s d k : Int) : Int := if bk_last m s d k < 0 then 0 else m 320 (bk_last m s d k).toNat
def bk_si (m : Nat → Nat → Int) (s d k : Int) : Int := if bk_last m s d k < 0 then m 317 s.toNat else m 319 (bk_last m s d k).toNat
theorem bk_last_lt {m : Nat → Nat → Int} {s d k : Int} : bk_last m s d k < bk_n m := by
  by_cases h : bk_hl m s d k = []
  · have : bk_last m s d k = -1 := by unfold bk_last; rw [h]; rfl
    omega
  · obtain ⟨i, h1, h2⟩ := bk_l_mem (b := -1) h
    have h3 := (bk_ch_mem.mp (List.mem_filter.mp h1).1).1
    have : bk_last m s d k = i := h2
    omega
/-- what counts there are -/
def bk_B (m : Nat → Nat → Int) : Prop := (0 ≤ m 305 22 ∧ m 305 22 ≤ 600) ∧ (0 ≤ m 305 15 ∧ m 305 15 ≤ 150)

/-! the text of rows, and its length -/
section TXS
/-- what must stand around a part -/
def aro (k p : Int) (second : Bool) : Int :=
  if 11 ≤ k ∧ k ≤ 13 then (if p = 10 then 1 else 0)
  else if k = 2 ∨ k = 3 then (if p = 10 ∨ (second = true ∧ (p = 2 ∨ p = 3)) then 1 else 0)
  else if 4 ≤ k ∧ k ≤ 6 then (if p = 10 ∨ (p = 2 ∨ p = 3) ∨ (second = true ∧ (4 ≤ p ∧ p ≤ 6)) then 1 else 0)
  else if k = 7 then (if p = 10 ∨ (p = 2 ∨ p = 3) ∨ (4 ≤ p ∧ p ≤ 6) then 1 else 0)
  else if k = 15 then (if p = 16 then 2 else 0)
  else if k = 14 then (if p = 16 ∨ p = 15 then 2 else 0) else 0
def brk (a : Int) (g : List Nat → List Nat) (l : List Nat) : List Nat := if a = 1 then g (l ++ [40]) ++ [41] else if a = 2 then g (l ++ [91]) ++ [93] else g l
def opx (k : Int) (l : List Nat) : List Nat := if k = 2 then l ++ [43] else if k = 3 then l ++ [45] else if k = 4 then l ++ [42] else if k = 5 then l ++ [47] else if k = 6 then l ++ [37] else if k = 11 then l ++ [60] else if k = 12 then l ++ [62] else if k = 13 then l ++ [61] else if k = 15 then wW l (kwl 20) else wW l (kwl 19)
def lsx (f : Nat → Nat → Int) (g : Nat → List Nat → List Nat) : Nat → Int → List Nat → List Nat
  | 0, _, l => l
  | c + 1, j, l => if j < 0 then l else lsx f g c (f 4 j.toNat) (g j.toNat (l ++ [44]))
def txs (f : Nat → Nat → Int) (wd : Int → List Nat) : Nat → Nat → List Nat → List Nat
  | 0, _, l => l
  | n + 1, i, l =>
    if f 0 i = 0 then wW l (dec (f 5 i)) else if f 0 i = 1 then wW l (wd (f 1 i))
    else if f 0 i = 7 ∨ f 0 i = 14 then brk (aro (f 0 i) (f 0 (f 1 i).toNat) false) (txs f wd n (f 1 i).toNat) (if f 0 i = 7 then l ++ [45] else wW l (kwl 21))
    else if f 0 i = 8 ∨ f 0 i = 9 then lsx f (txs f wd n) i (f 4 (f 1 i).toNat) (txs f wd n (f 1 i).toNat (wW l (if f 0 i = 8 then kwl 17 else kwl 18) ++ [40])) ++ [41]
    else if f 0 i = 10 then txs f wd n (f 3 i).toNat (wW (txs f wd n (f 2 i).toNat (wW (txs f wd n (f 1 i).toNat (wW l (kwl 14))) (kwl 15))) (kwl 16))
    else brk (aro (f 0 i) (f 0 (f 2 i).toNat) true) (txs f wd n (f 2 i).toNat) (opx (f 0 i) (brk (aro (f 0 i) (f 0 (f 1 i).toNat) false) (txs f wd n (f 1 i).toNat) l))
/-- kinds that may stand in brackets -/
def bk (k : Int) : Nat := if (2 ≤ k ∧ k ≤ 6) ∨ k = 10 ∨ k = 15 ∨ k = 16 then 2 else 0
theorem aro_bk {k p : Int} {s : Bool} (h : aro k p s ≠ 0) : bk p = 2 := by
  unfold bk
  unfold aro at h
  refine if_pos ?_
  by_cases c1 : 11 ≤ k ∧ k ≤ 13
  · rw [if_pos c1] at h
    by_cases d : p = 10
    · omega
    · rw [if_neg d] at h; exact absurd rfl h
  rw [if_neg c1] at h
  by_cases c2 : k = 2 ∨ k = 3
  · rw [if_pos c2] at h
    by_cases d : p = 10 ∨ (s = true ∧ (p = 2 ∨ p = 3))
    · rcases d with d | ⟨_, d⟩ <;> omega
    · rw [if_neg d] at h; exact absurd rfl h
  rw [if_neg c2] at h
  by_cases c3 : 4 ≤ k ∧ k ≤ 6
  · rw [if_pos c3] at h
    by_cases d : p = 10 ∨ (p = 2 ∨ p = 3) ∨ (s = true ∧ (4 ≤ p ∧ p ≤ 6))
    · rcases d with d | d | ⟨_, d⟩ <;> omega
    · rw [if_neg d] at h; exact absurd rfl h
  rw [if_neg c3] at h
  by_cases c4 : k = 7
  · rw [if_pos c4] at h
    by_cases d : p = 10 ∨ (p = 2 ∨ p = 3) ∨ (4 ≤ p ∧ p ≤ 6)
    · omega
    · rw [if_neg d] at h; exact absurd rfl h
  rw [if_neg c4] at h
  by_cases c5 : k = 15
  · rw [if_pos c5] at h
    by_cases d : p = 16
    · omega
    · rw [if_neg d] at h; exact absurd rfl h
  rw [if_neg c5] at h
  by_cases c6 : k = 14
  · rw [if_pos c6] at h
    by_cases d : p = 16 ∨ p = 15
    · omega
    · rw [if_neg d] at h; exact absurd rfl h
  · rw [if_neg c6] at h; exact absurd rfl h
theorem brk_len {a : Int} {g : List Nat → List Nat} {l : List Nat} {w b : Nat} (hg : ∀ l, (g l).length + b ≤ l.length + w) (ha : a ≠ 0 → b = 2) : (brk a g l).length ≤ l.length + w := by
  unfold brk
  by_cases h1 : a = 1
  · have := hg (l ++ [40])
    rw [if_pos h1, List.length_append]
    rw [List.length_append] at this
    have hb := ha (by omega)
    have e : ([40] : List Nat).length = 1 := rfl
    have e2 : ([41] : List Nat).length = 1 := rfl
    omega
  by_cases h2 : a = 2
  · have := hg (l ++ [91])
    rw [if_neg h1, if_pos h2, List.length_append]
    rw [List.length_append] at this
    have hb := ha (by omega)
    have e : ([91] : List Nat).length = 1 := rfl
    have e2 : ([93] : List Nat).length = 1 := rfl
    omega
  · have := hg l
    rw [if_neg h1, if_neg h2]
    omega
theorem opx_len {k : Int} {l : List Nat} : (opx k l).length ≤ l.length + (if k = 15 then 4 else if 2 ≤ k ∧ k ≤ 6 ∨ 11 ≤ k ∧ k ≤ 13 then 1 else 3) := by
  have e : ∀ c : Nat, (l ++ [c]).length = l.length + 1 := fun c => List.length_append
  have w1 := (wW_len l (kwl 20)).1
  have w2 := (wW_len l (kwl 19)).1
  have n1 : (kwl 20).length = 3 := rfl
  have n2 : (kwl 19).length = 2 := rfl
  unfold opx
  by_cases h2 : k = 2
  · rw [if_pos h2, e, if_neg (by omega), if_pos (by omega)]; omega
  by_cases h3 : k = 3
  · rw [if_neg h2, if_pos h3, e, if_neg (by omega), if_pos (by omega)]; omega
  by_cases h4 : k = 4
  · rw [if_neg h2, if_neg h3, if_pos h4, e, if_neg (by omega), if_pos (by omega)]; omega
  by_cases h5 : k = 5
  · rw [if_neg h2, if_neg h3, if_neg h4, if_pos h5, e, if_neg (by omega), if_pos (by omega)]; omega
  by_cases h6 : k = 6
  · rw [if_neg h2, if_neg h3, if_neg h4, if_neg h5, if_pos h6, e, if_neg (by omega), if_pos (by omega)]; omega
  by_cases h11 : k = 11
  · rw [if_neg h2, if_neg h3, if_neg h4, if_neg h5, if_neg h6, if_pos h11, e, if_neg (by omega), if_pos (by omega)]; omega
  by_cases h12 : k = 12
  · rw [if_neg h2, if_neg h3, if_neg h4, if_neg h5, if_neg h6, if_neg h11, if_pos h12, e, if_neg (by omega), if_pos (by omega)]; omega
  by_cases h13 : k = 13
  · rw [if_neg h2, if_neg h3, if_neg h4, if_neg h5, if_neg h6, if_neg h11, if_neg h12, if_pos h13, e, if_neg (by omega), if_pos (by omega)]; omega
  by_cases h15 : k = 15
  · rw [if_neg h2, if_neg h3, if_neg h4, if_neg h5, if_neg h6, if_neg h11, if_neg h12, if_neg h13, if_pos h15, if_pos h15]; omega
  · rw [if_neg h2, if_neg h3, if_neg h4, if_neg h5, if_neg h6, if_neg h11, if_neg h12, if_neg h13, if_neg h15, if_neg h15, if_neg (by omega)]; omega
theorem lsx_len {f : Nat → Nat → Int} {g : Nat → List Nat → List Nat} {w : Nat → Nat} {lo i : Nat} (hg : ∀ j, lo ≤ j → j < i → ∀ l, (g j l).length ≤ l.length + w j) : ∀ (c : Nat) (j : Int) (l : List Nat), chw f lo i c j → (lsx f g c j l).length ≤ l.length + lsw f w c j
  | 0, _, l, _ => Nat.le_refl _
  | c + 1, j, l, hc => by
    show (if j < 0 then l else lsx f g c (f 4 j.toNat) (g j.toNat (l ++ [44]))).length ≤ l.length + (if j < 0 then 0 else 1 + w j.toNat + lsw f w c (f 4 j.toNat))
    by_cases h : j < 0
    · rw [if_pos h, if_pos h]; exact Nat.le_refl _
    · rcases hc with hc | ⟨⟨c1, c2⟩, c3⟩
      · exact absurd hc h
      rw [if_neg h, if_neg h]
      have h1 := lsx_len hg c (f 4 j.toNat) (g j.toNat (l ++ [44])) c3
      have h2 := hg j.toNat c1 c2 (l ++ [44])
      rw [List.length_append] at h2
      have e : ([44] : List Nat).length = 1 := rfl
      omega
theorem dec_len {v : Int} : (dec v).length = d10 v := dgs_len _
theorem txs_len {f : Nat → Nat → Int} {wd : Int → List Nat} {lw : Int → Nat} {sk : Nat → Int} {F S lo hi : Nat} (w : wfs f sk F S lo hi) (hw : ∀ x, 0 ≤ x → (wd x).length ≤ lw x) : ∀ (n i : Nat) (l : List Nat), lo ≤ i → i < hi → i < n → (txs f wd n i l).length + bk (f 0 i) ≤ l.length + wln f lw n i
  | 0, i, l, _, _, h => absurd h (Nat.not_lt_zero i)
  | n + 1, i, l, h1, h2, h3 => by
    obtain ⟨w0, w1, w2, w3, w4, w5, w6⟩ := w i h1 h2
    have ih : ∀ x, lo ≤ x → x < i → ∀ l, (txs f wd n x l).length + bk (f 0 x) ≤ l.length + wln f lw n x := fun x x1 x2 l => txs_len w hw n x l x1 (by omega) (by omega)
    show (if f 0 i = 0 then wW l (dec (f 5 i)) else if f 0 i = 1 then wW l (wd (f 1 i))
      else if f 0 i = 7 ∨ f 0 i = 14 then brk (aro (f 0 i) (f 0 (f 1 i).toNat) false) (txs f wd n (f 1 i).toNat) (if f 0 i = 7 then l ++ [45] else wW l (kwl 21))
      else if f 0 i = 8 ∨ f 0 i = 9 then lsx f (txs f wd n) i (f 4 (f 1 i).toNat) (txs f wd n (f 1 i).toNat (wW l (if f 0 i = 8 then kwl 17 else kwl 18) ++ [40])) ++ [41]
      else if f 0 i = 10 then txs f wd n (f 3 i).toNat (wW (txs f wd n (f 2 i).toNat (wW (txs f wd n (f 1 i).toNat (wW l (kwl 14))) (kwl 15))) (kwl 16))
      else brk (aro (f 0 i) (f 0 (f 2 i).toNat) true) (txs f wd n (f 2 i).toNat) (opx (f 0 i) (brk (aro (f 0 i) (f 0 (f 1 i).toNat) false) (txs f wd n (f 1 i).toNat) l))).length + bk (f 0 i) ≤ l.length + (if f 0 i = 0 then 1 + d10 (f 5 i) else if f 0 i = 1 then 1 + lw (f 1 i)
      else if f 0 i = 7 ∨ f 0 i = 14 then 4 - (if f 0 i = 7 then 3 else 0) + wln f lw n (f 1 i).toNat
      else if f 0 i = 8 ∨ f 0 i = 9 then 6 + wln f lw n (f 1 i).toNat + lsw f (wln f lw n) i (f 4 (f 1 i).toNat)
      else if f 0 i = 10 then 15 + wln f lw n (f 1 i).toNat + wln f lw n (f 2 i).toNat + wln f lw n (f 3 i).toNat
      else (if f 0 i = 15 then 6 else if f 0 i = 16 then 5 else 3) + wln f lw n (f 1 i).toNat + wln f lw n (f 2 i).toNat)
    by_cases c0 : f 0 i = 0
    · have := (wW_len l (dec (f 5 i))).1
      have e : bk (f 0 i) = 0 := by rw [c0]; rfl
      rw [if_pos c0, if_pos c0, e]
      rw [dec_len] at this
      omega
    rw [if_neg c0, if_neg c0]
    by_cases c1 : f 0 i = 1
    · have := (wW_len l (wd (f 1 i))).1
      have e : bk (f 0 i) = 0 := by rw [c1]; rfl
      have := hw (f 1 i) (w2 c1).1
      rw [if_pos c1, if_pos c1, e]
      omega
    rw [if_neg c1, if_neg c1]
    have a3 := w3 (by omega)
    have i1 := ih _ a3.2.1 a3.2.2
    have i1' : ∀ l, (txs f wd n (f 1 i).toNat l).length ≤ l.length + wln f lw n (f 1 i).toNat := fun l => by have := i1 l; omega
    by_cases c7 : f 0 i = 7 ∨ f 0 i = 14
    · rw [if_pos c7, if_pos c7]
      have e : bk (f 0 i) = 0 := by rcases c7 with h | h <;> (rw [h]; rfl)
      have hb := brk_len (a := aro (f 0 i) (f 0 (f 1 i).toNat) false) (l := if f 0 i = 7 then l ++ [45] else wW l (kwl 21)) i1 aro_bk
      rw [e]
      by_cases d : f 0 i = 7
      · rw [if_pos d] at hb ⊢
        rw [if_pos d]
        have e2 : (l ++ [45]).length = l.length + 1 := List.length_append
        omega
      · rw [if_neg d] at hb ⊢
        rw [if_neg d]
        have e2 := (wW_len l (kwl 21)).1
        have e3 : (kwl 21).length = 3 := rfl
        omega
    rw [if_neg c7, if_neg c7]
    by_cases c8 : f 0 i = 8 ∨ f 0 i = 9
    · rw [if_pos c8, if_pos c8]
      have e : bk (f 0 i) = 0 := by rcases c8 with h | h <;> (rw [h]; rfl)
      have hk : (if f 0 i = 8 then kwl 17 else kwl 18).length = 3 := by
        by_cases d : f 0 i = 8
        · rw [if_pos d]; rfl
        · rw [if_neg d]; rfl
      have g1 := (wW_len l (if f 0 i = 8 then kwl 17 else kwl 18)).1
      have g2 := i1' (wW l (if f 0 i = 8 then kwl 17 else kwl 18) ++ [40])
      have g3 := lsx_len (f := f) (g := txs f wd n) (w := wln f lw n) (lo := lo) (i := i) (fun j j1 j2 l => by have := ih j j1 j2 l; omega) i (f 4 (f 1 i).toNat) (txs f wd n (f 1 i).toNat (wW l (if f 0 i = 8 then kwl 17 else kwl 18) ++ [40])) (w6 c8)
      have e4 : ∀ (x : List Nat) (y : Nat), (x ++ [y]).length = x.length + 1 := fun x y => List.length_append
      rw [e4] at g2
      rw [e4, e]
      omega
    rw [if_neg c8, if_neg c8]
    have a4 : (2 ≤ f 0 i ∧ f 0 i < 7) ∨ (9 < f 0 i ∧ f 0 i ≠ 14) := by omega
    have a4 := w4 a4
    have i2 := ih _ a4.2.1 a4.2.2
    have i2' : ∀ l, (txs f wd n (f 2 i).toNat l).length ≤ l.length + wln f lw n (f 2 i).toNat := fun l => by have := i2 l; omega
    by_cases c10 : f 0 i = 10
    · rw [if_pos c10, if_pos c10]
      have a5 := w5 c10
      have i3 := ih _ a5.2.1 a5.2.2
      have e : bk (f 0 i) = 2 := by rw [c10]; rfl
      have g1 := (wW_len l (kwl 14)).1
      have g2 := i1' (wW l (kwl 14))
      have g3 := (wW_len (txs f wd n (f 1 i).toNat (wW l (kwl 14))) (kwl 15)).1
      have g4 := i2' (wW (txs f wd n (f 1 i).toNat (wW l (kwl 14))) (kwl 15))
      have g5 := (wW_len (txs f wd n (f 2 i).toNat (wW (txs f wd n (f 1 i).toNat (wW l (kwl 14))) (kwl 15))) (kwl 16)).1
      have g6 := i3 (wW (txs f wd n (f 2 i).toNat (wW (txs f wd n (f 1 i).toNat (wW l (kwl 14))) (kwl 15))) (kwl 16))
      have n1 : (kwl 14).length = 2 := rfl
      have n2 : (kwl 15).length = 4 := rfl
      have n3 : (kwl 16).length = 4 := rfl
      omega
    rw [if_neg c10, if_neg c10]
    have g1 := brk_len (a := aro (f 0 i) (f 0 (f 1 i).toNat) false) (l := l) i1 aro_bk
    have g2 := opx_len (k := f 0 i) (l := brk (aro (f 0 i) (f 0 (f 1 i).toNat) false) (txs f wd n (f 1 i).toNat) l)
    have g3 := brk_len (a := aro (f 0 i) (f 0 (f 2 i).toNat) true) (l := opx (f 0 i) (brk (aro (f 0 i) (f 0 (f 1 i).toNat) false) (txs f wd n (f 1 i).toNat) l)) i2 aro_bk
    have hb : bk (f 0 i) ≤ 2 := by unfold bk; split <;> omega
    by_cases d15 : f 0 i = 15
    · rw [if_pos d15] at g2
      rw [if_pos d15]
      omega
    rw [if_neg d15] at g2
    rw [if_neg d15]
    by_cases d16 : f 0 i = 16
    · rw [if_neg (by omega)] at g2
      rw [if_pos d16]
      omega
    · rw [if_pos (by omega)] at g2
      rw [if_neg d16]
      omega
end TXS

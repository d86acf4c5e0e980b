/-! the text of rows by rows, of statements -/
section TXP
theorem lsx_cg {f : Nat → Nat → Int} {g g' : Nat → List Nat → List Nat} {lo i : Nat} (h : ∀ j, lo ≤ j → j < i → g j = g' j) : ∀ (c : Nat) (j : Int) (l : List Nat), chw f lo i c j → lsx f g c j l = lsx f g' c j l
  | 0, _, _, _ => rfl
  | c + 1, j, l, hc => by
    show (if j < 0 then l else lsx f g c (f 4 j.toNat) (g j.toNat (l ++ [44]))) = (if j < 0 then l else lsx f g' c (f 4 j.toNat) (g' j.toNat (l ++ [44])))
    by_cases hj : j < 0
    · rw [if_pos hj, if_pos hj]
    · rcases hc with hc | ⟨⟨c1, c2⟩, c3⟩
      · exact absurd hc hj
      rw [if_neg hj, if_neg hj, h _ c1 c2, lsx_cg h c _ _ c3]
/-- one round of it -/
def txo (f : Nat → Nat → Int) (wd : Int → List Nat) (g : Nat → List Nat → List Nat) (i : Nat) (l : List Nat) : List Nat :=
    if f 0 i = 0 then wW l (dec (f 5 i)) else if f 0 i = 1 then wW l (wd (f 1 i))
    else if f 0 i = 7 ∨ f 0 i = 14 then brk (aro (f 0 i) (f 0 (f 1 i).toNat) false) (g (f 1 i).toNat) (if f 0 i = 7 then l ++ [45] else wW l (kwl 21))
    else if f 0 i = 8 ∨ f 0 i = 9 then lsx f g i (f 4 (f 1 i).toNat) (g (f 1 i).toNat (wW l (if f 0 i = 8 then kwl 17 else kwl 18) ++ [40])) ++ [41]
    else if f 0 i = 10 then g (f 3 i).toNat (wW (g (f 2 i).toNat (wW (g (f 1 i).toNat (wW l (kwl 14))) (kwl 15))) (kwl 16))
    else brk (aro (f 0 i) (f 0 (f 2 i).toNat) true) (g (f 2 i).toNat) (opx (f 0 i) (brk (aro (f 0 i) (f 0 (f 1 i).toNat) false) (g (f 1 i).toNat) l))
variable {f : Nat → Nat → Int} {wd : Int → List Nat} {sk sn : Nat → Int} {F S lo hi i : Nat} {l : List Nat}
theorem txo_cg {g g' : Nat → List Nat → List Nat} (w : wfr f sk F S lo i) (h : ∀ x, lo ≤ x → x < i → g x = g' x) (l : List Nat) : txo f wd g i l = txo f wd g' i l := by
  obtain ⟨w0, w1, w2, w3, w4, w5, w6⟩ := w
  unfold txo
  by_cases c0 : f 0 i = 0
  · rw [if_pos c0, if_pos c0]
  rw [if_neg c0, if_neg c0]
  by_cases c1 : f 0 i = 1
  · rw [if_pos c1, if_pos c1]
  rw [if_neg c1, if_neg c1]
  have a3 := w3 (by omega)
  have e3 := h _ a3.2.1 a3.2.2
  by_cases c7 : f 0 i = 7 ∨ f 0 i = 14
  · rw [if_pos c7, if_pos c7, e3]
  rw [if_neg c7, if_neg c7]
  by_cases c8 : f 0 i = 8 ∨ f 0 i = 9
  · rw [if_pos c8, if_pos c8, e3, lsx_cg h _ _ _ (w6 c8)]
  rw [if_neg c8, if_neg c8]
  have a4 := w4 (by omega)
  have e4 := h _ a4.2.1 a4.2.2
  by_cases c10 : f 0 i = 10
  · have a5 := w5 c10
    rw [if_pos c10, if_pos c10, e3, e4, h _ a5.2.1 a5.2.2]
  · rw [if_neg c10, if_neg c10, e3, e4]
theorem txs_fu (w : wfs f sk F S lo hi) : ∀ (i n m : Nat), lo ≤ i → i < hi → i < n → i < m → txs f wd n i = txs f wd m i := by
  intro i
  induction i using Nat.strongRecOn with
  | ind i ih =>
    intro n m h1 h2 h3 h4
    obtain ⟨n, rfl⟩ : ∃ n', n = n' + 1 := ⟨n - 1, by omega⟩
    obtain ⟨m, rfl⟩ : ∃ m', m = m' + 1 := ⟨m - 1, by omega⟩
    funext l
    exact txo_cg (wd := wd) (w i h1 h2) (fun j g1 g2 => ih j g2 n m g1 (by omega) (by omega) (by omega)) l
def tx (f : Nat → Nat → Int) (wd : Int → List Nat) (i : Nat) : List Nat → List Nat := txs f wd (i + 1) i
theorem tx_o (w : wfs f sk F S lo hi) (h1 : lo ≤ i) (h2 : i < hi) : tx f wd i l = txo f wd (tx f wd) i l := txo_cg (wd := wd) (g := txs f wd i) (w i h1 h2) (fun x x1 x2 => txs_fu w x _ _ x1 (by omega) x2 (Nat.lt_succ_self x)) l
theorem tx_0 (c0 : f 0 i = 0) : tx f wd i l = wW l (dec (f 5 i)) := if_pos c0
theorem tx_1 (c1 : f 0 i = 1) : tx f wd i l = wW l (wd (f 1 i)) := by
  show (if f 0 i = 0 then _ else if f 0 i = 1 then _ else _) = _
  rw [if_neg (by omega), if_pos c1]
theorem tx_u (w : wfs f sk F S lo hi) (h1 : lo ≤ i) (h2 : i < hi) (hk : f 0 i = 7 ∨ f 0 i = 14) : tx f wd i l = brk (aro (f 0 i) (f 0 (f 1 i).toNat) false) (tx f wd (f 1 i).toNat) (if f 0 i = 7 then l ++ [45] else wW l (kwl 21)) := by
  rw [tx_o w h1 h2]
  unfold txo
  rw [if_neg (by omega), if_neg (by omega), if_pos hk]
theorem tx_l (w : wfs f sk F S lo hi) (h1 : lo ≤ i) (h2 : i < hi) (hk : f 0 i = 8 ∨ f 0 i = 9) : tx f wd i l = lsx f (tx f wd) i (f 4 (f 1 i).toNat) (tx f wd (f 1 i).toNat (wW l (if f 0 i = 8 then kwl 17 else kwl 18) ++ [40])) ++ [41] := by
  rw [tx_o w h1 h2]
  unfold txo
  rw [if_neg (by omega), if_neg (by omega), if_neg (by omega), if_pos hk]
theorem tx_f (w : wfs f sk F S lo hi) (h1 : lo ≤ i) (h2 : i < hi) (hk : f 0 i = 10) : tx f wd i l = tx f wd (f 3 i).toNat (wW (tx f wd (f 2 i).toNat (wW (tx f wd (f 1 i).toNat (wW l (kwl 14))) (kwl 15))) (kwl 16)) := by
  rw [tx_o w h1 h2]
  unfold txo
  rw [if_neg (by omega), if_neg (by omega), if_neg (by omega), if_neg (by omega), if_pos hk]
theorem tx_b (w : wfs f sk F S lo hi) (h1 : lo ≤ i) (h2 : i < hi) (hk : (2 ≤ f 0 i ∧ f 0 i < 7) ∨ 11 ≤ f 0 i ∧ f 0 i ≠ 14) : tx f wd i l = brk (aro (f 0 i) (f 0 (f 2 i).toNat) true) (tx f wd (f 2 i).toNat) (opx (f 0 i) (brk (aro (f 0 i) (f 0 (f 1 i).toNat) false) (tx f wd (f 1 i).toNat) l)) := by
  rw [tx_o w h1 h2]
  unfold txo
  rw [if_neg (by omega), if_neg (by omega), if_neg (by omega), if_neg (by omega), if_neg (by omega)]
/-- letters of a number -/
def nmw (w : Int) : List Nat := dgs 27 96 w (l27 w)
theorem l27_wcd {l : List Nat} (h : wlt l) : l27 (wcd l 0) = l.length := by
  obtain ⟨⟨h1, h8⟩, h2⟩ := h
  have hne : l ≠ [] := fun e => by rw [e] at h1; exact absurd h1 (by decide)
  obtain ⟨b1, b2, b3⟩ := wcd_bd l h2
  have b3 := b3 hne
  generalize wcd l 0 = v at b1 b2 b3
  unfold l27
  rcases (show l.length = 1 ∨ l.length = 2 ∨ l.length = 3 ∨ l.length = 4 ∨ l.length = 5 ∨ l.length = 6 ∨ l.length = 7 ∨ l.length = 8 by omega) with e | e | e | e | e | e | e | e
  · rw [e] at b2 b3 ⊢
    have b2 : v < 27 := b2
    have b3 : 1 ≤ v := b3
    rw [if_pos (by omega)]
  · rw [e] at b2 b3 ⊢
    have b2 : v < 729 := b2
    have b3 : 27 ≤ v := b3
    rw [if_neg (by omega), if_pos (by omega)]
  · rw [e] at b2 b3 ⊢
    have b2 : v < 19683 := b2
    have b3 : 729 ≤ v := b3
    rw [if_neg (by omega), if_neg (by omega), if_pos (by omega)]
  · rw [e] at b2 b3 ⊢
    have b2 : v < 531441 := b2
    have b3 : 19683 ≤ v := b3
    rw [if_neg (by omega), if_neg (by omega), if_neg (by omega), if_pos (by omega)]
  · rw [e] at b2 b3 ⊢
    have b2 : v < 14348907 := b2
    have b3 : 531441 ≤ v := b3
    rw [if_neg (by omega), if_neg (by omega), if_neg (by omega), if_neg (by omega), if_pos (by omega)]
  · rw [e] at b2 b3 ⊢
    have b2 : v < 387420489 := b2
    have b3 : 14348907 ≤ v := b3
    rw [if_neg (by omega), if_neg (by omega), if_neg (by omega), if_neg (by omega), if_neg (by omega), if_pos (by omega)]
  · rw [e] at b2 b3 ⊢
    have b2 : v < 10460353203 := b2
    have b3 : 387420489 ≤ v := b3
    rw [if_neg (by omega), if_neg (by omega), if_neg (by omega), if_neg (by omega), if_neg (by omega), if_neg (by omega), if_pos (by omega)]
  · rw [e] at b2 b3 ⊢
    have b2 : v < 282429536481 := b2
    have b3 : 10460353203 ≤ v := b3
    rw [if_neg (by omega), if_neg (by omega), if_neg (by omega), if_neg (by omega), if_neg (by omega), if_neg (by omega), if_neg (by omega)]
theorem nmw_wcd {l : List Nat} (h : wlt l) : nmw (wcd l 0) = l := by
  unfold nmw
  rw [l27_wcd h]
  exact dgs_wcd l h.2
theorem nmw_len {w : Int} : (nmw w).length = l27 w := dgs_len _
/-- such a number is a word's -/
def nmk (w : Int) : Prop := wlt (nmw w) ∧ wcd (nmw w) 0 = w
theorem nmk_of {m : Nat → Nat → Int} {t : List (Nat × Nat)} {x w : Int} (h : nam m t x w) : nmk w := by
  obtain ⟨c, l, _, _, h3, h4⟩ := h
  rw [← h4]
  unfold nmk
  rw [nmw_wcd h3]
  exact ⟨h3, rfl⟩
def nwx (sn : Nat → Int) (F : Nat) (x : Int) : List Nat := if x < 10 then kwl (22 + x.toNat) else nmw (sn (F + (x - 10).toNat))
theorem nwx_len {x : Int} (hx : 0 ≤ x) : (nwx sn F x).length = lwd sn F x := by
  unfold nwx lwd
  by_cases h : x < 10
  · rw [if_pos h, if_pos h]
    have : ∀ k : Nat, k < 10 → (kwl (22 + k)).length = l27 (kcd (22 + k)) := by decide
    exact this _ (by omega)
  · rw [if_neg h, if_neg h, nmw_len]
theorem nwx_lt {x : Int} (hx : 0 ≤ x) (h10 : 10 ≤ x → F + (x - 10).toNat < S ∧ sk (F + (x - 10).toNat) = 0) (hnm : ∀ y, F ≤ y → y < S → sk y = 0 → nmk (sn y)) : wlt (nwx sn F x) := by
  unfold nwx
  by_cases h : x < 10
  · rw [if_pos h]
    exact kwl_wlt _ (by omega)
  · rw [if_neg h]
    obtain ⟨h1, h2⟩ := h10 (by omega)
    exact (hnm _ (by omega) h1 h2).1
/-- a statement's head, a statement, all of a text's -/
def shx (A : Nat → Nat → Int) (i : Nat) (l : List Nat) : List Nat := if A 0 i = 0 then wW (wW l (kwl 0)) (nmw (A 6 i)) else if A 0 i = 1 then (if A 1 i < 0 then wW l (kwl 1) else wW (wW l (kwl 1)) (dec (A 1 i))) else if A 0 i = 2 then wW (wW l (kwl 2)) (kwl (7 + (A 1 i).toNat)) else if A 0 i = 3 then wW l (kwl 3) else if A 0 i = 4 then wW (wW (wW (wW (wW l (kwl 4)) (dec (A 1 i))) (kwl 10)) (dec (A 2 i))) (kwl 11) else if A 0 i = 5 then wW (wW (wW (wW l (kwl 5)) (dec (A 1 i))) (kwl 12)) (dec (A 2 i)) else wW (wW (wW (wW l (kwl 6)) (dec (A 1 i))) (kwl 13)) (dec (A 2 i))
def stx (A f : Nat → Nat → Int) (F i : Nat) (l : List Nat) : List Nat := (if A 0 i < 5 then tx f (nwx (A 6) F) (A 3 i).toNat (if A 0 i < 4 then shx A i l ++ [61] else shx A i l) else shx A i l) ++ [59]
def txa (A f : Nat → Nat → Int) (F : Nat) : Nat → List Nat
  | 0 => []
  | M + 1 => stx A f F (F + M) (txa A f F M)
/-- what is asked of a statement -/
def stM (A f : Nat → Nat → Int) (F i : Nat) : Prop := (0 ≤ A 0 i ∧ A 0 i ≤ 6) ∧ (A 0 i = 1 → -1 ≤ A 1 i ∧ A 1 i ≤ 999999999) ∧ (A 0 i = 2 → 0 ≤ A 1 i ∧ A 1 i ≤ 2) ∧ (4 ≤ A 0 i → (0 ≤ A 1 i ∧ A 1 i ≤ 999999999) ∧ 0 ≤ A 2 i ∧ A 2 i ≤ 999999999) ∧ (A 0 i < 5 → ∃ lo hi root : Nat, (A 3 i = (root : Int) ∧ A 5 i = (hi : Int)) ∧ (lo ≤ root ∧ root < hi ∧ hi ≤ 3300) ∧ root ≤ lo + 498 ∧ wfs f (A 0) F i lo hi)
theorem shx_len {A : Nat → Nat → Int} {i : Nat} (h0 : 0 ≤ A 0 i) (h2 : A 0 i = 2 → 0 ≤ A 1 i ∧ A 1 i ≤ 2) (l : List Nat) : (shx A i l).length + (if A 0 i < 4 then 2 else 1) ≤ l.length + shw A i := by
  have g := fun (x y : List Nat) => (wW_len x y).1
  have k0 : (kwl 0).length = 3 := rfl
  have k1 : (kwl 1).length = 5 := rfl
  have k2 : (kwl 2).length = 4 := rfl
  have k3 : (kwl 3).length = 6 := rfl
  have k4 : (kwl 4).length = 5 := rfl
  have k5 : (kwl 5).length = 3 := rfl
  have k6 : (kwl 6).length = 4 := rfl
  have k10 : (kwl 10).length = 2 := rfl
  have k11 : (kwl 11).length = 2 := rfl
  have k12 : (kwl 12).length = 4 := rfl
  have k13 : (kwl 13).length = 3 := rfl
  unfold shx shw
  by_cases c0 : A 0 i = 0
  · rw [if_pos c0, if_pos c0, if_pos (by omega)]
    have g1 := g l (kwl 0)
    have g2 := g (wW l (kwl 0)) (nmw (A 6 i))
    rw [nmw_len] at g2
    omega
  rw [if_neg c0, if_neg c0]
  by_cases c1 : A 0 i = 1
  · rw [if_pos c1, if_pos c1, if_pos (show A 0 i < 4 by omega)]
    have g1 := g l (kwl 1)
    by_cases n : A 1 i < 0
    · rw [if_pos n, if_neg (by omega)]
      omega
    · rw [if_neg n, if_pos (by omega)]
      have g2 := g (wW l (kwl 1)) (dec (A 1 i))
      rw [dec_len] at g2
      omega
  rw [if_neg c1, if_neg c1]
  by_cases c2 : A 0 i = 2
  · rw [if_pos c2, if_pos c2, if_pos (by omega)]
    have g1 := g l (kwl 2)
    have g2 := g (wW l (kwl 2)) (kwl (7 + (A 1 i).toNat))
    have g3 : (kwl (7 + (A 1 i).toNat)).length ≤ 5 := by
      have := h2 c2
      rcases (show A 1 i = 0 ∨ A 1 i = 1 ∨ A 1 i = 2 by omega) with d | d | d <;> (rw [d]; decide)
    omega
  rw [if_neg c2, if_neg c2]
  by_cases c3 : A 0 i = 3
  · rw [if_pos c3, if_pos c3, if_pos (by omega)]
    have g1 := g l (kwl 3)
    omega
  rw [if_neg c3, if_neg c3, if_neg (show ¬ A 0 i < 4 by omega)]
  by_cases c4 : A 0 i = 4
  · rw [if_pos c4]
    have g1 := g l (kwl 4)
    have g2 := g (wW l (kwl 4)) (dec (A 1 i))
    have g3 := g (wW (wW l (kwl 4)) (dec (A 1 i))) (kwl 10)
    have g4 := g (wW (wW (wW l (kwl 4)) (dec (A 1 i))) (kwl 10)) (dec (A 2 i))
    have g5 := g (wW (wW (wW (wW l (kwl 4)) (dec (A 1 i))) (kwl 10)) (dec (A 2 i))) (kwl 11)
    rw [dec_len] at g2 g4
    omega
  rw [if_neg c4]
  by_cases c5 : A 0 i = 5
  · rw [if_pos c5]
    have g1 := g l (kwl 5)
    have g2 := g (wW l (kwl 5)) (dec (A 1 i))
    have g3 := g (wW (wW l (kwl 5)) (dec (A 1 i))) (kwl 12)
    have g4 := g (wW (wW (wW l (kwl 5)) (dec (A 1 i))) (kwl 12)) (dec (A 2 i))
    rw [dec_len] at g2 g4
    omega
  · rw [if_neg c5]
    have g1 := g l (kwl 6)
    have g2 := g (wW l (kwl 6)) (dec (A 1 i))
    have g3 := g (wW (wW l (kwl 6)) (dec (A 1 i))) (kwl 13)
    have g4 := g (wW (wW (wW l (kwl 6)) (dec (A 1 i))) (kwl 13)) (dec (A 2 i))
    rw [dec_len] at g2 g4
    omega
theorem stx_len {A f : Nat → Nat → Int} {F i : Nat} (h : stM A f F i) (l : List Nat) : (stx A f F i l).length ≤ l.length + sw A f F i := by
  obtain ⟨h0, h1, h2, h3, h4⟩ := h
  have g := shx_len (A := A) (i := i) h0.1 h2 l
  have e : ∀ (x : List Nat) (c : Nat), (x ++ [c]).length = x.length + 1 := fun x c => List.length_append
  unfold stx sw
  rw [e]
  by_cases c5 : A 0 i < 5
  · obtain ⟨lo, hi, root, ⟨g1, _⟩, ⟨g2, g3, g4⟩, _, g5⟩ := h4 c5
    rw [if_pos c5, if_pos c5, g1, Int.toNat_natCast]
    have t := fun l => txs_len (lw := lwd (A 6) F) (wd := nwx (A 6) F) g5 (fun x hx => Nat.le_of_eq (nwx_len hx)) (root + 1) root l g2 g3 (Nat.lt_succ_self _)
    have t' : ∀ l, (tx f (nwx (A 6) F) root l).length ≤ l.length + wl f (lwd (A 6) F) root := fun l => by
      have := t l
      show (txs f (nwx (A 6) F) (root + 1) root l).length ≤ l.length + wln f (lwd (A 6) F) (root + 1) root
      omega
    by_cases c4 : A 0 i < 4
    · rw [if_pos c4]
      rw [if_pos c4] at g
      have := t' (shx A i l ++ [61])
      rw [e] at this
      omega
    · rw [if_neg c4]
      rw [if_neg c4] at g
      have := t' (shx A i l)
      omega
  · rw [if_neg c5, if_neg c5]
    rw [if_neg (by omega)] at g
    omega
theorem txa_len {A f : Nat → Nat → Int} {F : Nat} : ∀ M : Nat, (∀ j, j < M → stM A f F (F + j)) → (txa A f F M).length ≤ tws A f F M
  | 0, _ => Nat.le_refl _
  | M + 1, h => by
    have h1 := txa_len M fun j hj => h j (by omega)
    have h2 := stx_len (h M (Nat.lt_succ_self M)) (txa A f F M)
    show (stx A f F (F + M) (txa A f F M)).length ≤ tws A f F M + sw A f F (F + M)
    omega
end TXP

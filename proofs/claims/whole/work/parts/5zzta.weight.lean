/-! how much a row may write -/
section WGT
def l27 (w : Int) : Nat := if w < 27 then 1 else if w < 729 then 2 else if w < 19683 then 3 else if w < 531441 then 4 else if w < 14348907 then 5 else if w < 387420489 then 6 else if w < 10460353203 then 7 else 8
def d10 (w : Int) : Nat := if w < 10 then 1 else if w < 100 then 2 else if w < 1000 then 3 else if w < 10000 then 4 else if w < 100000 then 5 else if w < 1000000 then 6 else if w < 10000000 then 7 else if w < 100000000 then 8 else 9
theorem l27_le {w : Int} : ∀ k : Nat, 1 ≤ k → k ≤ 8 → w < pw 27 k → l27 w ≤ k := by
  intro k h1 h2 hw
  unfold l27
  match k, h1, h2, hw with
  | 1, _, _, hw => have hw : w < 27 := hw; rw [if_pos hw]; decide
  | 2, _, _, hw => have hw : w < 729 := hw; repeat' split
                   all_goals omega
  | 3, _, _, hw => have hw : w < 19683 := hw; repeat' split
                   all_goals omega
  | 4, _, _, hw => have hw : w < 531441 := hw; repeat' split
                   all_goals omega
  | 5, _, _, hw => have hw : w < 14348907 := hw; repeat' split
                   all_goals omega
  | 6, _, _, hw => have hw : w < 387420489 := hw; repeat' split
                   all_goals omega
  | 7, _, _, hw => have hw : w < 10460353203 := hw; repeat' split
                   all_goals omega
  | 8, _, _, hw => repeat' split
                   all_goals omega
theorem d10_le {w : Int} : ∀ k : Nat, 1 ≤ k → k ≤ 9 → w < pw 10 k → d10 w ≤ k := by
  intro k h1 h2 hw
  unfold d10
  match k, h1, h2, hw with
  | 1, _, _, hw => have hw : w < 10 := hw; rw [if_pos hw]; decide
  | 2, _, _, hw => have hw : w < 100 := hw; repeat' split
                   all_goals omega
  | 3, _, _, hw => have hw : w < 1000 := hw; repeat' split
                   all_goals omega
  | 4, _, _, hw => have hw : w < 10000 := hw; repeat' split
                   all_goals omega
  | 5, _, _, hw => have hw : w < 100000 := hw; repeat' split
                   all_goals omega
  | 6, _, _, hw => have hw : w < 1000000 := hw; repeat' split
                   all_goals omega
  | 7, _, _, hw => have hw : w < 10000000 := hw; repeat' split
                   all_goals omega
  | 8, _, _, hw => have hw : w < 100000000 := hw; repeat' split
                   all_goals omega
  | 9, _, _, hw => repeat' split
                   all_goals omega
variable {f f' : Nat → Nat → Int} {lw : Int → Nat} {sk : Nat → Int} {F S lo hi : Nat}
/-- further parts of a list -/
def lsw (f : Nat → Nat → Int) (g : Nat → Nat) : Nat → Int → Nat
  | 0, _ => 0
  | c + 1, j => if j < 0 then 0 else 1 + g j.toNat + lsw f g c (f 4 j.toNat)
def wln (f : Nat → Nat → Int) (lw : Int → Nat) : Nat → Nat → Nat
  | 0, _ => 0
  | n + 1, i => if f 0 i = 0 then 1 + d10 (f 5 i) else if f 0 i = 1 then 1 + lw (f 1 i)
    else if f 0 i = 7 ∨ f 0 i = 14 then 4 - (if f 0 i = 7 then 3 else 0) + wln f lw n (f 1 i).toNat
    else if f 0 i = 8 ∨ f 0 i = 9 then 6 + wln f lw n (f 1 i).toNat + lsw f (wln f lw n) i (f 4 (f 1 i).toNat)
    else if f 0 i = 10 then 15 + wln f lw n (f 1 i).toNat + wln f lw n (f 2 i).toNat + wln f lw n (f 3 i).toNat
    else (if f 0 i = 15 then 6 else if f 0 i = 16 then 5 else 3) + wln f lw n (f 1 i).toNat + wln f lw n (f 2 i).toNat
def wl (f : Nat → Nat → Int) (lw : Int → Nat) (i : Nat) : Nat := wln f lw (i + 1) i
theorem lsw_cg {g g' : Nat → Nat} {i : Nat} (hg : ∀ j, lo ≤ j → j < i → g' j = g j) (h4 : ∀ j, lo ≤ j → j < i → f' 4 j = f 4 j) : ∀ {c : Nat} {j : Int}, chw f lo i c j → lsw f' g' c j = lsw f g c j
  | 0, _, _ => rfl
  | c + 1, j, hc => by
    show (if j < 0 then 0 else 1 + g' j.toNat + lsw f' g' c (f' 4 j.toNat)) = if j < 0 then 0 else 1 + g j.toNat + lsw f g c (f 4 j.toNat)
    by_cases hj : j < 0
    · rw [if_pos hj, if_pos hj]
    · rw [if_neg hj, if_neg hj]
      rcases hc with hc | ⟨⟨h1, h2⟩, h3⟩
      · exact absurd hc hj
      · rw [hg j.toNat h1 h2, h4 j.toNat h1 h2, lsw_cg hg h4 h3]
theorem wln_cg (w : wfs f sk F S lo hi) : ∀ (i n m : Nat), lo ≤ i → i < hi → i < n → i < m → (∀ j, lo ≤ j → j ≤ i → (∀ q, q ≤ 5 → q ≠ 4 → f' q j = f q j) ∧ (j < i → f' 4 j = f 4 j)) → wln f' lw m i = wln f lw n i := by
  intro i
  induction i using Nat.strongRecOn with
  | ind i ih =>
    intro n m h1 h2 hn hm hf
    obtain ⟨n, rfl⟩ : ∃ x, n = x + 1 := ⟨n - 1, by omega⟩
    obtain ⟨m, rfl⟩ : ∃ x, m = x + 1 := ⟨m - 1, by omega⟩
    obtain ⟨w0, w1, w2, w3, w4, w5, w6⟩ := w i h1 h2
    have e : ∀ q, q ≤ 5 → q ≠ 4 → f' q i = f q i := (hf i h1 (Nat.le_refl _)).1
    have sub : ∀ j, lo ≤ j → j < i → wln f' lw m j = wln f lw n j := fun j j1 j2 => ih j j2 n m j1 (by omega) (by omega) (by omega) fun x x1 x2 => ⟨(hf x x1 (by omega)).1, fun x3 => (hf x x1 (by omega)).2 (by omega)⟩
    show (if f' 0 i = 0 then 1 + d10 (f' 5 i) else if f' 0 i = 1 then 1 + lw (f' 1 i)
      else if f' 0 i = 7 ∨ f' 0 i = 14 then 4 - (if f' 0 i = 7 then 3 else 0) + wln f' lw m (f' 1 i).toNat
      else if f' 0 i = 8 ∨ f' 0 i = 9 then 6 + wln f' lw m (f' 1 i).toNat + lsw f' (wln f' lw m) i (f' 4 (f' 1 i).toNat)
      else if f' 0 i = 10 then 15 + wln f' lw m (f' 1 i).toNat + wln f' lw m (f' 2 i).toNat + wln f' lw m (f' 3 i).toNat
      else (if f' 0 i = 15 then 6 else if f' 0 i = 16 then 5 else 3) + wln f' lw m (f' 1 i).toNat + wln f' lw m (f' 2 i).toNat) = (if f 0 i = 0 then 1 + d10 (f 5 i) else if f 0 i = 1 then 1 + lw (f 1 i)
      else if f 0 i = 7 ∨ f 0 i = 14 then 4 - (if f 0 i = 7 then 3 else 0) + wln f lw n (f 1 i).toNat
      else if f 0 i = 8 ∨ f 0 i = 9 then 6 + wln f lw n (f 1 i).toNat + lsw f (wln f lw n) i (f 4 (f 1 i).toNat)
      else if f 0 i = 10 then 15 + wln f lw n (f 1 i).toNat + wln f lw n (f 2 i).toNat + wln f lw n (f 3 i).toNat
      else (if f 0 i = 15 then 6 else if f 0 i = 16 then 5 else 3) + wln f lw n (f 1 i).toNat + wln f lw n (f 2 i).toNat)
    rw [e 0 (by decide) (by decide), e 1 (by decide) (by decide), e 2 (by decide) (by decide), e 3 (by decide) (by decide), e 5 (by decide) (by decide)]
    refine ite_congr rfl (fun _ => rfl) fun z0 => ite_congr rfl (fun _ => rfl) fun z1 => ?_
    have a3 := w3 (by omega)
    have s1 := sub _ a3.2.1 a3.2.2
    refine ite_congr rfl (fun _ => by rw [s1]) fun z2 => ite_congr rfl (fun z3 => ?_) fun z3 => ite_congr rfl (fun z4 => ?_) fun z4 => ?_
    · have e4 : f' 4 (f 1 i).toNat = f 4 (f 1 i).toNat := (hf _ a3.2.1 (by omega)).2 a3.2.2
      rw [s1, e4, lsw_cg (lo := lo) (i := i) sub (fun j j1 j2 => (hf j j1 (by omega)).2 j2) (w6 z3)]
    · have a4 := w4 (by omega)
      have a5 := w5 z4
      rw [s1, sub _ a4.2.1 a4.2.2, sub _ a5.2.1 a5.2.2]
    · have a4 := w4 (by omega)
      rw [s1, sub _ a4.2.1 a4.2.2]
theorem wl_cg (w : wfs f sk F S lo hi) {i : Nat} (h1 : lo ≤ i) (h2 : i < hi) (hf : ∀ q j, j ≤ i → (q = 4 → j < i) → f' q j = f q j) : wl f' lw i = wl f lw i := wln_cg w i (i + 1) (i + 1) h1 h2 (Nat.lt_succ_self i) (Nat.lt_succ_self i) fun j _ j2 => ⟨fun q _ q4 => hf q j j2 (fun z => absurd z q4), fun j3 => hf 4 j j2 (fun _ => j3)⟩
end WGT

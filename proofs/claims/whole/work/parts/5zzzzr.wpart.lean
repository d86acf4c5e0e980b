/-! the class writes a node -/
section WRC
variable {σ0 σ τ υ : xS} {l : List Nat} {f : Nat → Nat → Int} {wd : Int → List Nat} {sk sn : Nat → Int} {F S lo hi d : Nat}
theorem xna3_k {c : Nat} (h : c < 128) : xna 3 (c : Int) = (c : Int) := by
  show (c : Int) % 65536 = _
  omega
theorem bs_f (h : bs σ0 σ l) {a : Nat} (ha : nd σ0.2.1 a) (k : Nat) : xfld xE1 σ (a : Int) 7 k = some (σ0.1 a k) := by
  have e := bs_ext h
  rw [xfld_new k ha.1 (ext_ty e ha.2), e.2 a (ty_lt ha.1 ha.2)]
theorem ap_ge (l w : List Nat) : l.length ≤ (l ++ w).length := by rw [List.length_append]; omega
theorem brk_ge {a : Int} {g : List Nat → List Nat} (hg : ∀ l, l.length ≤ (g l).length) (l : List Nat) : l.length ≤ (brk a g l).length := by
  have g1 := hg (l ++ [40])
  have g2 := hg (l ++ [91])
  have g3 := hg l
  have e : ∀ (x : List Nat) (c : Nat), (x ++ [c]).length = x.length + 1 := fun x c => List.length_append
  rw [e] at g1 g2
  unfold brk
  by_cases h1 : a = 1
  · rw [if_pos h1, e]; omega
  by_cases h2 : a = 2
  · rw [if_neg h1, if_pos h2, e]; omega
  · rw [if_neg h1, if_neg h2]; exact g3
theorem opx_ge (k : Int) (l : List Nat) : l.length ≤ (opx k l).length := by
  unfold opx
  repeat' split
  all_goals first | exact ap_ge _ _ | exact wW_ge _ _
theorem lsx_ge {g : Nat → List Nat → List Nat} (hg : ∀ j l, l.length ≤ (g j l).length) : ∀ (c : Nat) (j : Int) (l : List Nat), l.length ≤ (lsx f g c j l).length
  | 0, _, _ => Nat.le_refl _
  | c + 1, j, l => by
    show l.length ≤ (if j < 0 then l else lsx f g c (f 4 j.toNat) (g j.toNat (l ++ [44]))).length
    by_cases h : j < 0
    · rw [if_pos h]; exact Nat.le_refl _
    · rw [if_neg h]
      exact Nat.le_trans (ap_ge l [44]) (Nat.le_trans (hg _ _) (lsx_ge hg c _ _))
theorem txs_ge : ∀ (n i : Nat) (l : List Nat), l.length ≤ (txs f wd n i l).length
  | 0, _, _ => Nat.le_refl _
  | n + 1, i, l => by
    have ih := fun i l => txs_ge n i l
    show l.length ≤ (txo f wd (txs f wd n) i l).length
    unfold txo
    by_cases c0 : f 0 i = 0
    · rw [if_pos c0]; exact wW_ge _ _
    rw [if_neg c0]
    by_cases c1 : f 0 i = 1
    · rw [if_pos c1]; exact wW_ge _ _
    rw [if_neg c1]
    by_cases c7 : f 0 i = 7 ∨ f 0 i = 14
    · rw [if_pos c7]
      refine Nat.le_trans ?_ (brk_ge (ih _) _)
      by_cases d7 : f 0 i = 7
      · rw [if_pos d7]; exact ap_ge _ _
      · rw [if_neg d7]; exact wW_ge _ _
    rw [if_neg c7]
    by_cases c8 : f 0 i = 8 ∨ f 0 i = 9
    · rw [if_pos c8]
      exact Nat.le_trans (wW_ge _ _) (Nat.le_trans (ap_ge _ _) (Nat.le_trans (ih _ _) (Nat.le_trans (lsx_ge ih _ _ _) (ap_ge _ _))))
    rw [if_neg c8]
    by_cases c10 : f 0 i = 10
    · rw [if_pos c10]
      exact Nat.le_trans (wW_ge _ _) (Nat.le_trans (ih _ _) (Nat.le_trans (wW_ge _ _) (Nat.le_trans (ih _ _) (Nat.le_trans (wW_ge _ _) (ih _ _)))))
    · rw [if_neg c10]
      exact Nat.le_trans (brk_ge (ih _) _) (Nat.le_trans (opx_ge _ _) (brk_ge (ih _) _))
theorem tx_ge (i : Nat) (l : List Nat) : l.length ≤ (tx f wd i l).length := txs_ge _ _ _
/-- a row's kind, a node's kind -/
def kdr (k x : Int) : Prop := ((x = 16 ↔ k = 10) ∧ (x = 36 ↔ k = 2 ∨ k = 3) ∧ (x = 37 ↔ 4 ≤ k ∧ k ≤ 6) ∧ (x = 21 ↔ k = 16) ∧ (x = 22 ↔ k = 15)) ∧ 16 ≤ x ∧ x ≤ 39
def whl (k wk : Int) : Prop := (wk = 36 ∧ (k = 2 ∨ k = 3)) ∨ (wk = 37 ∧ 4 ≤ k ∧ k ≤ 6) ∨ (wk = 39 ∧ 11 ≤ k ∧ k ≤ 13) ∨ (wk = 38 ∧ k = 7) ∨ (wk = 21 ∧ k = 16) ∨ (wk = 22 ∧ k = 15) ∨ (wk = 23 ∧ k = 14)
theorem rl_kd {m : Nat → Nat → Int} {t : List (Nat × Nat)} {n cl ch a i : Nat} (h : rl f m t sk sn F S n cl ch a i) : kdr (f 0 i) (m a 0) := by
  cases n with
  | zero => exact h.elim
  | succ n =>
    unfold kdr
    rcases h.2 with ⟨h1, h2, _⟩ | ⟨h1, h2, h3, h4⟩ | ⟨h1, h2, h3, _⟩ | ⟨h1, h2, _⟩ | ⟨h1, h2, _⟩ | ⟨⟨h1, h2⟩ | ⟨h1, h2⟩, _⟩ | ⟨h1, h2, _⟩ | ⟨h2, c1, c2, _, _, _, ⟨h1, _⟩ | ⟨h1, _⟩ | ⟨h1, _⟩, _⟩ | ⟨h1, h2, _⟩ | ⟨h1, h2, _⟩ | ⟨⟨h1, h2⟩ | ⟨h1, h2⟩, _⟩
    all_goals omega
theorem aro_s {k p : Int} {s : Bool} (h : k = 2 ∨ k = 3) : aro k p s = if p = 10 ∨ (s = true ∧ (p = 2 ∨ p = 3)) then 1 else 0 := by
  unfold aro
  rw [if_neg (by omega), if_pos h]
theorem aro_p {k p : Int} {s : Bool} (h : 4 ≤ k ∧ k ≤ 6) : aro k p s = if p = 10 ∨ (p = 2 ∨ p = 3) ∨ (s = true ∧ (4 ≤ p ∧ p ≤ 6)) then 1 else 0 := by
  unfold aro
  rw [if_neg (by omega), if_neg (by omega), if_pos h]
theorem aro_c {k p : Int} {s : Bool} (h : 11 ≤ k ∧ k ≤ 13) : aro k p s = if p = 10 then 1 else 0 := by
  unfold aro
  rw [if_pos h]
theorem aro_m {k p : Int} {s : Bool} (h : k = 7) : aro k p s = if p = 10 ∨ (p = 2 ∨ p = 3) ∨ (4 ≤ p ∧ p ≤ 6) then 1 else 0 := by
  unfold aro
  rw [if_neg (by omega), if_neg (by omega), if_neg (by omega), if_pos h]
theorem aro_a {k p : Int} {s : Bool} (h : k = 15) : aro k p s = if p = 16 then 2 else 0 := by
  unfold aro
  rw [if_neg (by omega), if_neg (by omega), if_neg (by omega), if_neg (by omega), if_pos h]
theorem aro_n {k p : Int} {s : Bool} (h : k = 14) : aro k p s = if p = 16 ∨ p = 15 then 2 else 0 := by
  unfold aro
  rw [if_neg (by omega), if_neg (by omega), if_neg (by omega), if_neg (by omega), if_neg (by omega), if_pos h]
theorem aro_o {k p : Int} {s : Bool} (h : k = 16) : aro k p s = 0 := by
  unfold aro
  rw [if_neg (by omega), if_neg (by omega), if_neg (by omega), if_neg (by omega), if_neg (by omega), if_neg (by omega)]
/-- which brackets -/
theorem aro_w {k p wk : Int} {s : Bool} (hw : whl k wk) : aro k p s = 0 ∨ (aro k p s = 2 ∧ (p = 15 ∨ p = 16)) ∨ (aro k p s = 1 ∧ p ≠ 15 ∧ p ≠ 16) := by
  rcases hw with ⟨_, h⟩ | ⟨_, h⟩ | ⟨_, h⟩ | ⟨_, h⟩ | ⟨_, h⟩ | ⟨_, h⟩ | ⟨_, h⟩
  · rw [aro_s h]
    by_cases q : p = 10 ∨ (s = true ∧ (p = 2 ∨ p = 3))
    · rw [if_pos q]; refine Or.inr (Or.inr ⟨rfl, ?_⟩)
      rcases q with q | ⟨_, q⟩ <;> omega
    · rw [if_neg q]; exact Or.inl rfl
  · rw [aro_p h]
    by_cases q : p = 10 ∨ (p = 2 ∨ p = 3) ∨ (s = true ∧ (4 ≤ p ∧ p ≤ 6))
    · rw [if_pos q]; refine Or.inr (Or.inr ⟨rfl, ?_⟩)
      rcases q with q | q | ⟨_, q⟩ <;> omega
    · rw [if_neg q]; exact Or.inl rfl
  · rw [aro_c h]
    by_cases q : p = 10
    · rw [if_pos q]; exact Or.inr (Or.inr ⟨rfl, by omega⟩)
    · rw [if_neg q]; exact Or.inl rfl
  · rw [aro_m h]
    by_cases q : p = 10 ∨ (p = 2 ∨ p = 3) ∨ (4 ≤ p ∧ p ≤ 6)
    · rw [if_pos q]; exact Or.inr (Or.inr ⟨rfl, by omega⟩)
    · rw [if_neg q]; exact Or.inl rfl
  · exact Or.inl (aro_o h)
  · rw [aro_a h]
    by_cases q : p = 16
    · rw [if_pos q]; exact Or.inr (Or.inl ⟨rfl, by omega⟩)
    · rw [if_neg q]; exact Or.inl rfl
  · rw [aro_n h]
    by_cases q : p = 16 ∨ p = 15
    · rw [if_pos q]; exact Or.inr (Or.inl ⟨rfl, by omega⟩)
    · rw [if_neg q]; exact Or.inl rfl
theorem ite1 {α : Type} {a b : α} : (if (1 : Int) = 0 then a else b) = b := if_neg (by decide)
theorem ite2 {α : Type} {a b : α} : (if (2 : Int) = 0 then a else b) = b := if_neg (by decide)
theorem ite0 {α : Type} {a b : α} : (if (0 : Int) = 0 then a else b) = a := if_pos rfl
/-- whether a part is held apart -/
theorem C_held {k p x wk a2 : Int} {s : Bool} (hk : kdr p x) (hw : whl k wk) (ha : (s = true ∧ a2 = 0) ∨ (s = false ∧ a2 = 1)) : X iNode_isHeldApart 0 [(2, x), (2, wk), (0, a2)] [] σ = some ((0, if aro k p s = 0 then 0 else 1), σ) := by
  obtain ⟨⟨k1, k2, k3, k4, k5⟩, k6⟩ := hk
  have xc : ∀ y : Int, 2 ≤ y ∧ y ≤ 39 → (xcm x && xcm y) = true := fun y hy => by rw [xcm_k ⟨by omega, k6.2⟩, xcm_k hy]; rfl
  rcases hw with ⟨rfl, h⟩ | ⟨rfl, h⟩ | ⟨rfl, h⟩ | ⟨rfl, h⟩ | ⟨rfl, h⟩ | ⟨rfl, h⟩ | ⟨rfl, h⟩
  · rw [qNode_isHeldApart_0, show xisO xE1 σ 36 50 = true from rfl, cnd_t, show xfld xE1 σ 36 50 0 = some 34 from rfl, xob_some, if_pos (show xin 34 38 by decide), show xag xE1 σ 41 (34 : Int).toNat = 9 from rfl, if_pos rfl, aro_s h]
    rw [xc 16 (by decide), cnd_t]
    by_cases c1 : x = 16
    · rw [if_pos c1, if_pos (Or.inl (k1.mp c1)), ite1]
    have n1 : ¬ p = 10 := fun q => c1 (k1.mpr q)
    rw [if_neg c1, xc 36 (by decide), cnd_t]
    by_cases c2 : x = 36
    · rcases ha with ⟨s1, a1⟩ | ⟨s1, a1⟩
      · rw [if_pos c2, a1, ite0, if_pos (Or.inr ⟨s1, k2.mp c2⟩), ite1]
      · rw [if_pos c2, a1, ite1, if_neg (show ¬ (p = 10 ∨ (s = true ∧ (p = 2 ∨ p = 3))) from fun q => q.elim n1 (fun z => by rw [s1] at z; exact absurd z.1 (by decide))), ite0]
    · rw [if_neg c2, if_neg (show ¬ (p = 10 ∨ (s = true ∧ (p = 2 ∨ p = 3))) from fun q => q.elim n1 (fun z => c2 (k2.mpr z.2))), ite0]
  · rw [qNode_isHeldApart_0, show xisO xE1 σ 37 50 = true from rfl, cnd_t, show xfld xE1 σ 37 50 0 = some 35 from rfl, xob_some, if_pos (show xin 35 38 by decide), show xag xE1 σ 41 (35 : Int).toNat = 10 from rfl, if_neg (show ¬ (10 : Int) = 9 by decide), if_pos rfl, aro_p h]
    rw [xc 16 (by decide), cnd_t]
    by_cases c1 : x = 16
    · rw [if_pos c1, if_pos (Or.inl (k1.mp c1)), ite1]
    have n1 : ¬ p = 10 := fun q => c1 (k1.mpr q)
    rw [if_neg c1, xc 36 (by decide), cnd_t]
    by_cases c2 : x = 36
    · rw [if_pos c2, if_pos (Or.inr (Or.inl (k2.mp c2))), ite1]
    have n2 : ¬ (p = 2 ∨ p = 3) := fun q => c2 (k2.mpr q)
    rw [if_neg c2, xc 37 (by decide), cnd_t]
    by_cases c3 : x = 37
    · rcases ha with ⟨s1, a1⟩ | ⟨s1, a1⟩
      · rw [if_pos c3, a1, ite0, if_pos (Or.inr (Or.inr ⟨s1, k3.mp c3⟩)), ite1]
      · rw [if_pos c3, a1, ite1, if_neg (show ¬ (p = 10 ∨ (p = 2 ∨ p = 3) ∨ (s = true ∧ (4 ≤ p ∧ p ≤ 6))) from fun q => q.elim n1 (fun z => z.elim n2 (fun z => by rw [s1] at z; exact absurd z.1 (by decide)))), ite0]
    · rw [if_neg c3, if_neg (show ¬ (p = 10 ∨ (p = 2 ∨ p = 3) ∨ (s = true ∧ (4 ≤ p ∧ p ≤ 6))) from fun q => q.elim n1 (fun z => z.elim n2 (fun z => c3 (k3.mpr z.2)))), ite0]
  · rw [qNode_isHeldApart_0, show xisO xE1 σ 39 50 = true from rfl, cnd_t, show xfld xE1 σ 39 50 0 = some 37 from rfl, xob_some, if_pos (show xin 37 38 by decide), show xag xE1 σ 41 (37 : Int).toNat = 11 from rfl, if_neg (show ¬ (11 : Int) = 9 by decide), if_neg (show ¬ (11 : Int) = 10 by decide), if_pos rfl, aro_c h]
    rw [xc 16 (by decide), cnd_t]
    by_cases c1 : x = 16
    · rw [if_pos c1, if_pos (k1.mp c1), ite1]
    · rw [if_neg c1, if_neg (show ¬ (p = 10) from fun q => c1 (k1.mpr q)), ite0]
  · rw [qNode_isHeldApart_0, show xisO xE1 σ 38 50 = true from rfl, cnd_t, show xfld xE1 σ 38 50 0 = some 36 from rfl, xob_some, if_pos (show xin 36 38 by decide), show xag xE1 σ 41 (36 : Int).toNat = 12 from rfl, if_neg (show ¬ (12 : Int) = 9 by decide), if_neg (show ¬ (12 : Int) = 10 by decide), if_neg (show ¬ (12 : Int) = 11 by decide), if_pos rfl, aro_m h]
    rw [xc 16 (by decide), cnd_t]
    by_cases c1 : x = 16
    · rw [if_pos c1, if_pos (Or.inl (k1.mp c1)), ite1]
    have n1 : ¬ p = 10 := fun q => c1 (k1.mpr q)
    rw [if_neg c1, xc 36 (by decide), cnd_t]
    by_cases c2 : x = 36
    · rw [if_pos c2, if_pos (Or.inr (Or.inl (k2.mp c2))), ite1]
    have n2 : ¬ (p = 2 ∨ p = 3) := fun q => c2 (k2.mpr q)
    rw [if_neg c2, xc 37 (by decide), cnd_t]
    by_cases c3 : x = 37
    · rw [if_pos c3, if_pos (Or.inr (Or.inr (k3.mp c3))), ite1]
    · rw [if_neg c3, if_neg (show ¬ (p = 10 ∨ (p = 2 ∨ p = 3) ∨ (4 ≤ p ∧ p ≤ 6)) from fun q => q.elim n1 (fun z => z.elim n2 (fun z => c3 (k3.mpr z)))), ite0]
  · rw [qNode_isHeldApart_0, show xisO xE1 σ 21 50 = true from rfl, cnd_t, show xfld xE1 σ 21 50 0 = some 19 from rfl, xob_some, if_pos (show xin 19 38 by decide), show xag xE1 σ 41 (19 : Int).toNat = 13 from rfl, if_neg (show ¬ (13 : Int) = 9 by decide), if_neg (show ¬ (13 : Int) = 10 by decide), if_neg (show ¬ (13 : Int) = 11 by decide), if_neg (show ¬ (13 : Int) = 12 by decide), if_pos rfl, aro_o h]
    rw [ite0]
  · rw [qNode_isHeldApart_0, show xisO xE1 σ 22 50 = true from rfl, cnd_t, show xfld xE1 σ 22 50 0 = some 20 from rfl, xob_some, if_pos (show xin 20 38 by decide), show xag xE1 σ 41 (20 : Int).toNat = 14 from rfl, if_neg (show ¬ (14 : Int) = 9 by decide), if_neg (show ¬ (14 : Int) = 10 by decide), if_neg (show ¬ (14 : Int) = 11 by decide), if_neg (show ¬ (14 : Int) = 12 by decide), if_neg (show ¬ (14 : Int) = 13 by decide), if_pos rfl, aro_a h]
    rw [xc 21 (by decide), cnd_t]
    by_cases c1 : x = 21
    · rw [if_pos c1, if_pos (k4.mp c1), ite2]
    · rw [if_neg c1, if_neg (show ¬ (p = 16) from fun q => c1 (k4.mpr q)), ite0]
  · rw [qNode_isHeldApart_0, show xisO xE1 σ 23 50 = true from rfl, cnd_t, show xfld xE1 σ 23 50 0 = some 21 from rfl, xob_some, if_pos (show xin 21 38 by decide), show xag xE1 σ 41 (21 : Int).toNat = 15 from rfl, if_neg (show ¬ (15 : Int) = 9 by decide), if_neg (show ¬ (15 : Int) = 10 by decide), if_neg (show ¬ (15 : Int) = 11 by decide), if_neg (show ¬ (15 : Int) = 12 by decide), if_neg (show ¬ (15 : Int) = 13 by decide), if_neg (show ¬ (15 : Int) = 14 by decide), if_pos rfl, aro_n h]
    rw [xc 21 (by decide), cnd_t]
    by_cases c1 : x = 21
    · rw [if_pos c1, if_pos (Or.inl (k4.mp c1)), ite2]
    rw [if_neg c1, xc 22 (by decide), cnd_t]
    by_cases c2 : x = 22
    · rw [if_pos c2, if_pos (Or.inr (k5.mp c2)), ite2]
    · rw [if_neg c2, if_neg (show ¬ (p = 16 ∨ p = 15) from fun q => q.elim (fun z => c1 (k4.mpr z)) (fun z => c2 (k5.mpr z))), ite0]
/-- node c is written as g says, in depth d -/
def wok (σ0 : xS) (c d : Nat) (g : List Nat → List Nat) : Prop := ∀ (σ : xS) (l : List Nat), bs σ0 σ l → d ≤ xdp σ → (g l).length ≤ 1389 → ∃ τ, X iNode_write 0 [(2, (c : Int)), (2, ((nn σ0 : Nat) : Int))] [] σ = some ((9, 0), τ) ∧ bs σ0 τ (g l) ∧ xdp τ = xdp σ
/-- a call of it takes from the depth -/
theorem wok_c {c : Nat} {g : List Nat → List Nat} (hg : wok σ0 c d g) (h : bs σ0 σ l) (hd : d + 1 ≤ xdp σ) (hl : (g l).length ≤ 1389) : Nat.beq (xdp σ) 0 = false ∧ ∃ τ, X iNode_write 0 [(2, (c : Int)), (2, ((nn σ0 : Nat) : Int))] [] (xsetdp σ (xdp σ - 1)) = some ((9, 0), τ) ∧ bs σ0 (xsetdp τ (xdp σ)) (g l) := by
  obtain ⟨τ, h1, h2, _⟩ := hg (xsetdp σ (xdp σ - 1)) l (bs_dp h _) (by show d ≤ xdp σ - 1; omega) hl
  exact ⟨beq_ff (by omega), τ, h1, bs_dp h2 _⟩
/-- a part -/
theorem C_wPart {c r : Nat} {k wk a2 : Int} {s : Bool} (hc : nd σ0.2.1 c) (hk : kdr (f 0 r) (σ0.1 c 0)) (hw : whl k wk) (ha : (s = true ∧ a2 = 0) ∨ (s = false ∧ a2 = 1)) (hg : wok σ0 c d (tx f wd r)) (h : bs σ0 σ l) (hd : d + 1 ≤ xdp σ) (hl : (brk (aro k (f 0 r) s) (tx f wd r) l).length ≤ 1389) : ∃ τ, X iNode_writePart 0 [(2, (c : Int)), (2, wk), (0, a2), (2, ((nn σ0 : Nat) : Int)), (9, 0)] [] σ = some ((9, 0), τ) ∧ bs σ0 τ (brk (aro k (f 0 r) s) (tx f wd r) l) ∧ xdp τ = xdp σ := by
  have hc0 : ¬ (c : Int) = 0 := by have := hc.1; omega
  have f0 := bs_f h hc 0
  have hx := hk.2
  have xc : ∀ y : Int, 2 ≤ y ∧ y ≤ 39 → (xcm (σ0.1 c 0) && xcm y) = true := fun y hy => by rw [xcm_k ⟨by omega, hx.2⟩, xcm_k hy]; rfl
  have e : ∀ (x : List Nat) (c : Nat), (x ++ [c]).length = x.length + 1 := fun x c => List.length_append
  rcases aro_w (p := f 0 r) (s := s) hw with z | ⟨z, hp⟩ | ⟨z, hp⟩
  · have eb : brk (aro k (f 0 r) s) (tx f wd r) l = tx f wd r l := by
      rw [z]; unfold brk; rw [if_neg (by decide), if_neg (by decide)]
    rw [eb] at hl ⊢
    obtain ⟨b0, τ, b1, b2⟩ := wok_c hg h hd hl
    refine ⟨_, ?_, b2, rfl⟩
    rw [qNode_writePart_0, if_neg hc0, f0, xob_some, C_held hk hw ha, Option.bind_some, qNode_writePart_14, z, ite0, ite0, b0, cnd_f, b1, Option.bind_some, qNode_writePart_22]
  · have eb : brk (aro k (f 0 r) s) (tx f wd r) l = tx f wd r (l ++ [91]) ++ [93] := by
      rw [z]; unfold brk; rw [if_neg (by decide), if_pos rfl]
    rw [eb] at hl ⊢
    have g1 := tx_ge (f := f) (wd := wd) r (l ++ [91])
    rw [e] at hl g1
    obtain ⟨τ1, a1, a2', a3⟩ := C_chr (c := 91) h (by decide) (by omega)
    have a1 : X iJB_append1 0 [(2, ((nn σ0 : Nat) : Int)), (0, 91)] [] σ = some ((2, ((nn σ0 : Nat) : Int)), τ1) := a1
    obtain ⟨b0, τ2, b1, b2⟩ := wok_c hg a2' (by omega) (by omega)
    obtain ⟨τ3, c1, c2, c3⟩ := C_chr (c := 93) b2 (by decide) (by omega)
    have c1 : X iJB_append1 0 [(2, ((nn σ0 : Nat) : Int)), (0, 93)] [] (xsetdp τ2 (xdp τ1)) = some ((2, ((nn σ0 : Nat) : Int)), τ3) := c1
    have tail : ∀ w1 w2, X iNode_writePart 66 [(2, (c : Int)), w1, w2, (2, ((nn σ0 : Nat) : Int)), (0, 1)] [(2, ((nn σ0 : Nat) : Int))] τ1 = some ((9, 0), τ3) := fun w1 w2 => by
      rw [qNode_writePart_66, b0, cnd_f, b1, Option.bind_some, qNode_writePart_72, ite1, bs_b b2, cnd_t, c1, Option.bind_some, qNode_writePart_88]
    refine ⟨τ3, ?_, c2, c3.trans a3⟩
    rw [qNode_writePart_0, if_neg hc0, f0, xob_some, C_held hk hw ha, Option.bind_some, qNode_writePart_14, z, ite2, ite1, f0, xob_some, xc 21 (by decide), cnd_t]
    by_cases q : σ0.1 c 0 = 21
    · rw [if_pos q, bs_b h, cnd_t, a1, Option.bind_some, tail]
    · have q2 : σ0.1 c 0 = 22 := by
        rcases hp with hp | hp
        · exact hk.1.2.2.2.2.mpr hp
        · exact absurd (hk.1.2.2.2.1.mpr hp) q
      rw [if_neg q, xob_some, xc 22 (by decide), cnd_t, if_pos q2, bs_b h, cnd_t, a1, Option.bind_some, tail]
  · have eb : brk (aro k (f 0 r) s) (tx f wd r) l = tx f wd r (l ++ [40]) ++ [41] := by
      rw [z]; unfold brk; rw [if_pos rfl]
    rw [eb] at hl ⊢
    have g1 := tx_ge (f := f) (wd := wd) r (l ++ [40])
    rw [e] at hl g1
    obtain ⟨τ1, a1, a2', a3⟩ := C_chr (c := 40) h (by decide) (by omega)
    have a1 : X iJB_append1 0 [(2, ((nn σ0 : Nat) : Int)), (0, 40)] [] σ = some ((2, ((nn σ0 : Nat) : Int)), τ1) := a1
    obtain ⟨b0, τ2, b1, b2⟩ := wok_c hg a2' (by omega) (by omega)
    obtain ⟨τ3, c1, c2, c3⟩ := C_chr (c := 41) b2 (by decide) (by omega)
    have c1 : X iJB_append1 0 [(2, ((nn σ0 : Nat) : Int)), (0, 41)] [] (xsetdp τ2 (xdp τ1)) = some ((2, ((nn σ0 : Nat) : Int)), τ3) := c1
    have q1 : ¬ σ0.1 c 0 = 21 := fun q => hp.2 (hk.1.2.2.2.1.mp q)
    have q2 : ¬ σ0.1 c 0 = 22 := fun q => hp.1 (hk.1.2.2.2.2.mp q)
    refine ⟨τ3, ?_, c2, c3.trans a3⟩
    rw [qNode_writePart_0, if_neg hc0, f0, xob_some, C_held hk hw ha, Option.bind_some, qNode_writePart_14, z, ite1, ite1, f0, xob_some, xc 21 (by decide), cnd_t, if_neg q1, xob_some, xc 22 (by decide), cnd_t, if_neg q2, bs_b h, cnd_t, a1, Option.bind_some, qNode_writePart_66, b0, cnd_f, b1, Option.bind_some, qNode_writePart_72, ite0, bs_b b2, cnd_t, c1, Option.bind_some, qNode_writePart_88]
end WRC

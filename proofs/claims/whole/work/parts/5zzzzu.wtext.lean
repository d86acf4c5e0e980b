/-! the class writes a statement, a text -/
section WST
variable {σ0 σ τ υ : xS} {l : List Nat} {A f : Nat → Nat → Int} {F M i a ah : Nat}
/-- a statement but for its end -/
def sbx (A f : Nat → Nat → Int) (F i : Nat) (l : List Nat) : List Nat := if A 0 i < 5 then tx f (nwx (A 6) F) (A 3 i).toNat (if A 0 i < 4 then shx A i l ++ [61] else shx A i l) else shx A i l
theorem stx_sbx : stx A f F i l = sbx A f F i l ++ [59] := rfl
theorem sbx_ge (L : List Nat) (h : L = if A 0 i < 5 then tx f (nwx (A 6) F) (A 3 i).toNat (if A 0 i < 4 then shx A i l ++ [61] else shx A i l) else shx A i l) : (shx A i l).length ≤ L.length := by
  rw [h]
  by_cases c5 : A 0 i < 5
  · rw [if_pos c5]
    refine Nat.le_trans ?_ (tx_ge _ _)
    by_cases c4 : A 0 i < 4
    · rw [if_pos c4]; exact ap_ge _ _
    · rw [if_neg c4]; exact Nat.le_refl _
  · rw [if_neg c5]; exact Nat.le_refl _
theorem C_wPair2 {kq : Nat} {n1 n2 : Int} (h : bs σ0 σ l) (ha : nd σ0.2.1 a) (h1 : σ0.1 a 1 = n1) (h2 : σ0.1 a 2 = n2) (b1 : 0 ≤ n1 ∧ n1 ≤ 999999999) (b2 : 0 ≤ n2 ∧ n2 ≤ 999999999) (hq : kq < 32) {kk : Int} (hk : ∀ σ : xS, xfld xE1 σ kk 50 1 = some ((44 + 2 * kq : Nat) : Int)) (hl : (wW (wW (wW l (dec n1)) (kwl kq)) (dec n2)).length ≤ 1389) : ∃ τ, X iNode_writePair 0 [(2, (a : Int)), (2, kk), (2, ((nn σ0 : Nat) : Int))] [] σ = some ((9, 0), τ) ∧ bs σ0 τ (wW (wW (wW l (dec n1)) (kwl kq)) (dec n2)) ∧ xdp τ = xdp σ := by
  have g1 := wW_ge l (dec n1)
  have g2 := wW_ge (wW l (dec n1)) (kwl kq)
  have g3 := wW_ge (wW (wW l (dec n1)) (kwl kq)) (dec n2)
  obtain ⟨τ1, x1, x2, x3⟩ := C_wN (v := n1) h b1 (by omega)
  obtain ⟨τ2, y1, y2, y3⟩ := C_wW (w := kwl kq) x2 (kwx kq hq) (by omega)
  obtain ⟨τ3, z1, z2, z3⟩ := C_wN (v := n2) y2 b2 (by omega)
  refine ⟨τ3, ?_, z2, z3.trans (y3.trans x3)⟩
  rw [qNode_writePair_0, bs_f h ha 1, xob_some, h1, x1, Option.bind_some, qNode_writePair_8, hk, xob_some, y1, Option.bind_some, qNode_writePair_16, bs_f y2 ha 2, xob_some, h2, z1, Option.bind_some, qNode_writePair_24]
/-- the EX of a statement -/
noncomputable def EXq (a out : Int) (σ : xS) : Option (xAV × xS) :=
  xob (xfld xE1 σ a 7 6) none fun w1 => if w1 = 0 then X iNode_writeStatement 191 [(2, a), (2, out)] [] σ
  else xob (xfld xE1 σ a 7 0) none fun w2 => bif (xcm w2 && xcm 6) then (if w2 = 6 then (xob (xfld xE1 σ a 7 6) none fun w3 => (X iNode_write 0 [(2, w3), (2, out)] [] σ).bind fun q4 => X iNode_writeStatement 191 [(2, a), (2, out)] [] q4.2)
    else bif xisO xE1 σ out 1 then ((X iJB_append1 0 [(2, out), (0, 61)] [] σ).bind fun q5 => X iNode_writeStatement 182 [(2, a), (2, out)] [q5.1] q5.2)
    else none)
  else none
theorem C_EX (hst : stN A f σ0.1 σ0.2.1 F i a ah) {L : List Nat} (hL : L = shx A i l) (h : bs σ0 σ L) (hd : 1200 ≤ xdp σ) (hl : (sbx A f F i l).length ≤ 1389) : ∃ τ, EXq (a : Int) ((nn σ0 : Nat) : Int) σ = some ((9, 0), τ) ∧ bs σ0 τ (sbx A f F i l) ∧ xdp τ = xdp σ := by
  subst hL
  obtain ⟨h1, h2, h3, h4, h5, h6, h7, h8, h9, h10⟩ := hst
  unfold EXq
  unfold sbx at hl ⊢
  have f6 := bs_f h h1 6
  by_cases c5 : A 0 i < 5
  · obtain ⟨lo, hi, root, n, cl, ch, c, g1, ⟨g2, g3, g4⟩, ⟨g5, g6, g7⟩, ⟨g8, _⟩, g9, g10, g11, g12⟩ := h9 (by omega)
    have W := C_write (σ0 := σ0) (sn := A 6) g10 n cl ch c root g12 g5 g6
    have hc := (rl_nd g12).2.2
    have hc0 : ¬ (c : Int) = 0 := by have := hc.1; omega
    have xx : (xcm (σ0.1 a 0) && xcm 6) = true := by rw [xcm_k (by omega)]; rfl
    rw [if_pos c5, g4, Int.toNat_natCast] at hl ⊢
    rw [f6, xob_some, g9, if_neg hc0, bs_f h h1 0, xob_some, xx, cnd_t]
    by_cases c4 : A 0 i < 4
    · rw [if_pos c4] at hl ⊢
      have e : (shx A i l ++ [61]).length = (shx A i l).length + 1 := List.length_append
      have tg := tx_ge (f := f) (wd := nwx (A 6) F) root (shx A i l ++ [61])
      obtain ⟨τ1, x1, x2, x3⟩ := C_chr (c := 61) h (by decide) (by omega)
      have x1 : X iJB_append1 0 [(2, ((nn σ0 : Nat) : Int)), (0, 61)] [] σ = some ((2, ((nn σ0 : Nat) : Int)), τ1) := x1
      obtain ⟨τ2, y1, y2, y3⟩ := W τ1 _ x2 (by omega) hl
      refine ⟨τ2, ?_, y2, y3.trans x3⟩
      rw [h2, if_neg (by omega), bs_b h, cnd_t, x1, Option.bind_some, qNode_writeStatement_182, bs_f x2 h1 6, xob_some, g9, y1, Option.bind_some, qNode_writeStatement_191]
    · rw [if_neg c4] at hl ⊢
      obtain ⟨τ2, y1, y2, y3⟩ := W σ _ h (by omega) hl
      refine ⟨τ2, ?_, y2, y3⟩
      rw [h2, if_pos (by omega), xob_some, y1, Option.bind_some, qNode_writeStatement_191]
  · rw [if_neg c5] at hl ⊢
    refine ⟨σ, ?_, h, rfl⟩
    rw [f6, xob_some, h10 (by omega), if_pos rfl, qNode_writeStatement_191]
theorem C_wStm (hst : stN A f σ0.1 σ0.2.1 F i a ah) (h : bs σ0 σ l) (hd : 1200 ≤ xdp σ) (hl : (sbx A f F i l).length ≤ 1389) : ∃ τ, X iNode_writeStatement 0 [(2, (a : Int)), (2, ((nn σ0 : Nat) : Int))] [] σ = some ((9, 0), τ) ∧ bs σ0 τ (sbx A f F i l) ∧ xdp τ = xdp σ := by
  have hst' := hst
  obtain ⟨h1, h2, h3, h4, h5, h6, h7, h8, h9, h10⟩ := hst'
  have sg := sbx_ge (A := A) (f := f) (F := F) (i := i) (l := l) _ rfl
  have sg : (shx A i l).length ≤ (sbx A f F i l).length := sg
  have EX := fun (υ : xS) (L : List Nat) (e : L = shx A i l) (b : bs σ0 υ L) (d : 1200 ≤ xdp υ) => C_EX hst e b d hl
  have f0 := bs_f h h1 0
  rcases (show A 0 i = 0 ∨ A 0 i = 1 ∨ A 0 i = 2 ∨ A 0 i = 3 ∨ A 0 i = 4 ∨ A 0 i = 5 ∨ A 0 i = 6 by omega) with c | c | c | c | c | c | c
  · have es : shx A i l = wW (wW l (kwl 0)) (nmw (A 6 i)) := by unfold shx; rw [if_pos c]
    have e0 : σ0.1 a 0 = 2 := by rw [h2, c]; rfl
    rw [es] at sg
    have g1 := wW_ge l (kwl 0)
    have g2 := wW_ge (wW l (kwl 0)) (nmw (A 6 i))
    obtain ⟨τ1, x1, x2, x3⟩ := C_wW (w := kwl 0) h (kwx 0 (by decide)) (by omega)
    have x1 : X iNode_writeWord 0 [(2, 44), (2, ((nn σ0 : Nat) : Int))] [] σ = some ((9, 0), τ1) := x1
    obtain ⟨c4, L, n1, n2, n3, n4⟩ := (h4 c).2
    have en : nmw (A 6 i) = L := by rw [← n4]; exact nmw_wcd n3
    obtain ⟨τ2, y1, y2, y3⟩ := C_wW (w := L) x2 (strx_sto n2 n3) (by omega)
    obtain ⟨τ3, z1, z2, z3⟩ := EX τ2 _ (by rw [es, en]) y2 (by omega)
    refine ⟨τ3, ?_, z2, z3.trans (y3.trans x3)⟩
    rw [qNode_writeStatement_0, f0, xob_some, e0, show xfld xE1 σ 2 50 1 = some 44 from rfl, xob_some, x1, Option.bind_some, qNode_writeStatement_11, bs_f x2 h1 0, xob_some, e0, show xisO xE1 τ1 2 50 = true from rfl, cnd_t, show xfld xE1 τ1 2 50 0 = some 0 from rfl, xob_some, if_pos (show xin 0 38 by decide), show xag xE1 τ1 41 (0 : Int).toNat = 1 from rfl, if_pos rfl, bs_f x2 h1 4, xob_some, n1, y1, Option.bind_some, qNode_writeStatement_68]
    exact z1
  · have e0 : σ0.1 a 0 = 3 := by rw [h2, c]; rfl
    have g1 := wW_ge l (kwl 1)
    obtain ⟨p1, p2, p3⟩ := h5 c
    by_cases n : A 1 i < 0
    · have es : shx A i l = wW l (kwl 1) := by unfold shx; rw [if_neg (show ¬ A 0 i = 0 by omega), if_pos c, if_pos n]
      rw [es] at sg
      obtain ⟨τ1, x1, x2, x3⟩ := C_wW (w := kwl 1) h (kwx 1 (by decide)) (by omega)
      have x1 : X iNode_writeWord 0 [(2, 46), (2, ((nn σ0 : Nat) : Int))] [] σ = some ((9, 0), τ1) := x1
      obtain ⟨τ3, z1, z2, z3⟩ := EX τ1 _ es.symm x2 (by omega)
      refine ⟨τ3, ?_, z2, z3.trans x3⟩
      rw [qNode_writeStatement_0, f0, xob_some, e0, show xfld xE1 σ 3 50 1 = some 46 from rfl, xob_some, x1, Option.bind_some, qNode_writeStatement_11, bs_f x2 h1 0, xob_some, e0, show xisO xE1 τ1 3 50 = true from rfl, cnd_t, show xfld xE1 τ1 3 50 0 = some 1 from rfl, xob_some, if_pos (show xin 1 38 by decide), show xag xE1 τ1 41 (1 : Int).toNat = 2 from rfl, if_neg (show ¬ (2 : Int) = 1 by decide), if_pos rfl, bs_f x2 h1 1, xob_some, p1, if_pos (show A 1 i = -1 by omega)]
      unfold EXq at z1
      rw [bs_f x2 h1 0, e0] at z1
      exact z1
    · have es : shx A i l = wW (wW l (kwl 1)) (dec (A 1 i)) := by unfold shx; rw [if_neg (show ¬ A 0 i = 0 by omega), if_pos c, if_neg n]
      rw [es] at sg
      have g2 := wW_ge (wW l (kwl 1)) (dec (A 1 i))
      obtain ⟨τ1, x1, x2, x3⟩ := C_wW (w := kwl 1) h (kwx 1 (by decide)) (by omega)
      have x1 : X iNode_writeWord 0 [(2, 46), (2, ((nn σ0 : Nat) : Int))] [] σ = some ((9, 0), τ1) := x1
      obtain ⟨τ2, y1, y2, y3⟩ := C_wN (v := A 1 i) x2 ⟨by omega, p3⟩ (by omega)
      obtain ⟨τ3, z1, z2, z3⟩ := EX τ2 _ es.symm y2 (by omega)
      refine ⟨τ3, ?_, z2, z3.trans (y3.trans x3)⟩
      rw [qNode_writeStatement_0, f0, xob_some, e0, show xfld xE1 σ 3 50 1 = some 46 from rfl, xob_some, x1, Option.bind_some, qNode_writeStatement_11, bs_f x2 h1 0, xob_some, e0, show xisO xE1 τ1 3 50 = true from rfl, cnd_t, show xfld xE1 τ1 3 50 0 = some 1 from rfl, xob_some, if_pos (show xin 1 38 by decide), show xag xE1 τ1 41 (1 : Int).toNat = 2 from rfl, if_neg (show ¬ (2 : Int) = 1 by decide), if_pos rfl, bs_f x2 h1 1, xob_some, p1, if_neg (show ¬ A 1 i = -1 by omega), xob_some, y1, Option.bind_some, qNode_writeStatement_87]
      exact z1
  · have e0 : σ0.1 a 0 = 4 := by rw [h2, c]; rfl
    obtain ⟨p1, p2, p3⟩ := h6 c
    obtain ⟨P, hP⟩ : ∃ P : Nat, A 1 i = (P : Int) := ⟨(A 1 i).toNat, by omega⟩
    have es : shx A i l = wW (wW l (kwl 2)) (kwl (7 + P)) := by unfold shx; rw [if_neg (show ¬ A 0 i = 0 by omega), if_neg (show ¬ A 0 i = 1 by omega), if_pos c, hP, Int.toNat_natCast]
    rw [es] at sg
    have g1 := wW_ge l (kwl 2)
    have g2 := wW_ge (wW l (kwl 2)) (kwl (7 + P))
    obtain ⟨τ1, x1, x2, x3⟩ := C_wW (w := kwl 2) h (kwx 2 (by decide)) (by omega)
    have x1 : X iNode_writeWord 0 [(2, 48), (2, ((nn σ0 : Nat) : Int))] [] σ = some ((9, 0), τ1) := x1
    obtain ⟨τ2, y1, y2, y3⟩ := C_wW (w := kwl (7 + P)) x2 (kwx (7 + P) (by omega)) (by omega)
    obtain ⟨τ3, z1, z2, z3⟩ := EX τ2 _ es.symm y2 (by omega)
    refine ⟨τ3, ?_, z2, z3.trans (y3.trans x3)⟩
    have ek : xfld xE1 τ1 (9 + (P : Int)) 50 1 = some ((44 + 2 * (7 + P) : Nat) : Int) := by
      rcases (show P = 0 ∨ P = 1 ∨ P = 2 by omega) with q | q | q <;> (subst q; rfl)
    rw [qNode_writeStatement_0, f0, xob_some, e0, show xfld xE1 σ 4 50 1 = some 48 from rfl, xob_some, x1, Option.bind_some, qNode_writeStatement_11, bs_f x2 h1 0, xob_some, e0, show xisO xE1 τ1 4 50 = true from rfl, cnd_t, show xfld xE1 τ1 4 50 0 = some 2 from rfl, xob_some, if_pos (show xin 2 38 by decide), show xag xE1 τ1 41 (2 : Int).toNat = 3 from rfl, if_neg (show ¬ (3 : Int) = 1 by decide), if_neg (show ¬ (3 : Int) = 2 by decide), if_pos rfl, bs_f x2 h1 3, xob_some, p1, hP, if_neg (show ¬ 9 + (P : Int) = 0 by omega), xob_some, ek, xob_some, y1, Option.bind_some, qNode_writeStatement_113]
    exact z1
  · have e0 : σ0.1 a 0 = 5 := by rw [h2, c]; rfl
    have es : shx A i l = wW l (kwl 3) := by unfold shx; rw [if_neg (show ¬ A 0 i = 0 by omega), if_neg (show ¬ A 0 i = 1 by omega), if_neg (show ¬ A 0 i = 2 by omega), if_pos c]
    rw [es] at sg
    have g1 := wW_ge l (kwl 3)
    obtain ⟨τ1, x1, x2, x3⟩ := C_wW (w := kwl 3) h (kwx 3 (by decide)) (by omega)
    have x1 : X iNode_writeWord 0 [(2, 50), (2, ((nn σ0 : Nat) : Int))] [] σ = some ((9, 0), τ1) := x1
    obtain ⟨τ3, z1, z2, z3⟩ := EX τ1 _ es.symm x2 (by omega)
    refine ⟨τ3, ?_, z2, z3.trans x3⟩
    rw [qNode_writeStatement_0, f0, xob_some, e0, show xfld xE1 σ 5 50 1 = some 50 from rfl, xob_some, x1, Option.bind_some, qNode_writeStatement_11, bs_f x2 h1 0, xob_some, e0, show xisO xE1 τ1 5 50 = true from rfl, cnd_t, show xfld xE1 τ1 5 50 0 = some 3 from rfl, xob_some, if_pos (show xin 3 38 by decide), show xag xE1 τ1 41 (3 : Int).toNat = 19 from rfl, if_neg (show ¬ (19 : Int) = 1 by decide), if_neg (show ¬ (19 : Int) = 2 by decide), if_neg (show ¬ (19 : Int) = 3 by decide), if_neg (show ¬ (19 : Int) = 4 by decide), if_neg (show ¬ (19 : Int) = 5 by decide), if_neg (show ¬ (19 : Int) = 6 by decide)]
    unfold EXq at z1
    rw [bs_f x2 h1 0, e0] at z1
    exact z1
  · have e0 : σ0.1 a 0 = 6 := by rw [h2, c]; rfl
    obtain ⟨⟨p1, p2⟩, p3, p4⟩ := h8 (by omega)
    have es : shx A i l = wW (wW (wW (wW (wW l (kwl 4)) (dec (A 1 i))) (kwl 10)) (dec (A 2 i))) (kwl 11) := by unfold shx; rw [if_neg (show ¬ A 0 i = 0 by omega), if_neg (show ¬ A 0 i = 1 by omega), if_neg (show ¬ A 0 i = 2 by omega), if_neg (show ¬ A 0 i = 3 by omega), if_pos c]
    rw [es] at sg
    have g1 := wW_ge l (kwl 4)
    have g2 := wW_ge (wW l (kwl 4)) (dec (A 1 i))
    have g3 := wW_ge (wW (wW l (kwl 4)) (dec (A 1 i))) (kwl 10)
    have g4 := wW_ge (wW (wW (wW l (kwl 4)) (dec (A 1 i))) (kwl 10)) (dec (A 2 i))
    have g5 := wW_ge (wW (wW (wW (wW l (kwl 4)) (dec (A 1 i))) (kwl 10)) (dec (A 2 i))) (kwl 11)
    obtain ⟨τ1, x1, x2, x3⟩ := C_wW (w := kwl 4) h (kwx 4 (by decide)) (by omega)
    have x1 : X iNode_writeWord 0 [(2, 52), (2, ((nn σ0 : Nat) : Int))] [] σ = some ((9, 0), τ1) := x1
    obtain ⟨τ2, y1, y2, y3⟩ := C_wPair2 (kq := 10) (kk := 12) x2 h1 p1 p2 p3 p4 (by decide) (fun σ => rfl) (by omega)
    obtain ⟨τ4, w1, w2, w3⟩ := C_wW (w := kwl 11) y2 (kwx 11 (by decide)) (by omega)
    have w1 : X iNode_writeWord 0 [(2, 66), (2, ((nn σ0 : Nat) : Int))] [] τ2 = some ((9, 0), τ4) := w1
    obtain ⟨τ3, z1, z2, z3⟩ := EX τ4 _ es.symm w2 (by omega)
    refine ⟨τ3, ?_, z2, z3.trans (w3.trans (y3.trans x3))⟩
    rw [qNode_writeStatement_0, f0, xob_some, e0, show xfld xE1 σ 6 50 1 = some 52 from rfl, xob_some, x1, Option.bind_some, qNode_writeStatement_11, bs_f x2 h1 0, xob_some, e0, show xisO xE1 τ1 6 50 = true from rfl, cnd_t, show xfld xE1 τ1 6 50 0 = some 4 from rfl, xob_some, if_pos (show xin 4 38 by decide), show xag xE1 τ1 41 (4 : Int).toNat = 4 from rfl, if_neg (show ¬ (4 : Int) = 1 by decide), if_neg (show ¬ (4 : Int) = 2 by decide), if_neg (show ¬ (4 : Int) = 3 by decide), if_pos rfl, y1, Option.bind_some, qNode_writeStatement_124, w1, Option.bind_some, qNode_writeStatement_134]
    exact z1
  · have e0 : σ0.1 a 0 = 7 := by rw [h2, c]; rfl
    obtain ⟨⟨p1, p2⟩, p3, p4⟩ := h8 (by omega)
    have es : shx A i l = wW (wW (wW (wW l (kwl 5)) (dec (A 1 i))) (kwl 12)) (dec (A 2 i)) := by unfold shx; rw [if_neg (show ¬ A 0 i = 0 by omega), if_neg (show ¬ A 0 i = 1 by omega), if_neg (show ¬ A 0 i = 2 by omega), if_neg (show ¬ A 0 i = 3 by omega), if_neg (show ¬ A 0 i = 4 by omega), if_pos c]
    rw [es] at sg
    have g1 := wW_ge l (kwl 5)
    have g2 := wW_ge (wW l (kwl 5)) (dec (A 1 i))
    have g3 := wW_ge (wW (wW l (kwl 5)) (dec (A 1 i))) (kwl 12)
    have g4 := wW_ge (wW (wW (wW l (kwl 5)) (dec (A 1 i))) (kwl 12)) (dec (A 2 i))
    obtain ⟨τ1, x1, x2, x3⟩ := C_wW (w := kwl 5) h (kwx 5 (by decide)) (by omega)
    have x1 : X iNode_writeWord 0 [(2, 54), (2, ((nn σ0 : Nat) : Int))] [] σ = some ((9, 0), τ1) := x1
    obtain ⟨τ2, y1, y2, y3⟩ := C_wPair2 (kq := 12) (kk := 14) x2 h1 p1 p2 p3 p4 (by decide) (fun σ => rfl) (by omega)
    obtain ⟨τ3, z1, z2, z3⟩ := EX τ2 _ es.symm y2 (by omega)
    refine ⟨τ3, ?_, z2, z3.trans (y3.trans x3)⟩
    rw [qNode_writeStatement_0, f0, xob_some, e0, show xfld xE1 σ 7 50 1 = some 54 from rfl, xob_some, x1, Option.bind_some, qNode_writeStatement_11, bs_f x2 h1 0, xob_some, e0, show xisO xE1 τ1 7 50 = true from rfl, cnd_t, show xfld xE1 τ1 7 50 0 = some 5 from rfl, xob_some, if_pos (show xin 5 38 by decide), show xag xE1 τ1 41 (5 : Int).toNat = 5 from rfl, if_neg (show ¬ (5 : Int) = 1 by decide), if_neg (show ¬ (5 : Int) = 2 by decide), if_neg (show ¬ (5 : Int) = 3 by decide), if_neg (show ¬ (5 : Int) = 4 by decide), if_pos rfl, y1, Option.bind_some, qNode_writeStatement_145]
    exact z1
  · have e0 : σ0.1 a 0 = 8 := by rw [h2, c]; rfl
    obtain ⟨⟨p1, p2⟩, p3, p4⟩ := h8 (by omega)
    have es : shx A i l = wW (wW (wW (wW l (kwl 6)) (dec (A 1 i))) (kwl 13)) (dec (A 2 i)) := by unfold shx; rw [if_neg (show ¬ A 0 i = 0 by omega), if_neg (show ¬ A 0 i = 1 by omega), if_neg (show ¬ A 0 i = 2 by omega), if_neg (show ¬ A 0 i = 3 by omega), if_neg (show ¬ A 0 i = 4 by omega), if_neg (show ¬ A 0 i = 5 by omega)]
    rw [es] at sg
    have g1 := wW_ge l (kwl 6)
    have g2 := wW_ge (wW l (kwl 6)) (dec (A 1 i))
    have g3 := wW_ge (wW (wW l (kwl 6)) (dec (A 1 i))) (kwl 13)
    have g4 := wW_ge (wW (wW (wW l (kwl 6)) (dec (A 1 i))) (kwl 13)) (dec (A 2 i))
    obtain ⟨τ1, x1, x2, x3⟩ := C_wW (w := kwl 6) h (kwx 6 (by decide)) (by omega)
    have x1 : X iNode_writeWord 0 [(2, 56), (2, ((nn σ0 : Nat) : Int))] [] σ = some ((9, 0), τ1) := x1
    obtain ⟨τ2, y1, y2, y3⟩ := C_wPair2 (kq := 13) (kk := 15) x2 h1 p1 p2 p3 p4 (by decide) (fun σ => rfl) (by omega)
    obtain ⟨τ3, z1, z2, z3⟩ := EX τ2 _ es.symm y2 (by omega)
    refine ⟨τ3, ?_, z2, z3.trans (y3.trans x3)⟩
    rw [qNode_writeStatement_0, f0, xob_some, e0, show xfld xE1 σ 8 50 1 = some 56 from rfl, xob_some, x1, Option.bind_some, qNode_writeStatement_11, bs_f x2 h1 0, xob_some, e0, show xisO xE1 τ1 8 50 = true from rfl, cnd_t, show xfld xE1 τ1 8 50 0 = some 6 from rfl, xob_some, if_pos (show xin 6 38 by decide), show xag xE1 τ1 41 (6 : Int).toNat = 6 from rfl, if_neg (show ¬ (6 : Int) = 1 by decide), if_neg (show ¬ (6 : Int) = 2 by decide), if_neg (show ¬ (6 : Int) = 3 by decide), if_neg (show ¬ (6 : Int) = 4 by decide), if_neg (show ¬ (6 : Int) = 5 by decide), if_pos rfl, y1, Option.bind_some, qNode_writeStatement_156]
    exact z1
/-- all of a text -/
theorem C_tOf {cs : Nat → Nat} (hst : ∀ j, j < M → (∃ ah, stN A f σ0.1 σ0.2.1 F (F + j) (cs j) ah) ∧ σ0.1 (cs j) 7 = cn cs M (j + 1)) (hsM : ∀ j, j < M → stM A f F (F + j)) (hw : tws A f F M ≤ 1389) (w0 : xAV) : ∀ (d j : Nat) (σ : xS), j + d = M → bs σ0 σ (txa A f F j) → 1200 ≤ xdp σ → ∃ τ, X iNode_textOf 10 [w0, (2, ((nn σ0 : Nat) : Int)), (2, cn cs M j)] [] σ = X iNode_textOf 10 [w0, (2, ((nn σ0 : Nat) : Int)), (2, 0)] [] τ ∧ bs σ0 τ (txa A f F M) ∧ xdp τ = xdp σ
  | 0, j, σ, e, h, _ => by
    have e : j = M := e
    subst e
    exact ⟨σ, by rw [cn_ge (Nat.lt_irrefl j)], h, rfl⟩
  | d + 1, j, σ, e, h, hd => by
    have hj : j < M := by omega
    obtain ⟨⟨ah, s1⟩, s2⟩ := hst j hj
    have l1 := txa_len (j + 1) fun x hx => hsM x (by omega)
    have l2 : tws A f F (j + 1) ≤ tws A f F M := by
      have := tws_le (A := A) (f := f) (F := F) (M - (j + 1)) (j + 1)
      rwa [show j + 1 + (M - (j + 1)) = M by omega] at this
    have e1 : txa A f F (j + 1) = sbx A f F (F + j) (txa A f F j) ++ [59] := rfl
    rw [e1, List.length_append] at l1
    have e2 : ([59] : List Nat).length = 1 := rfl
    have hc0 : ¬ ((cs j : Nat) : Int) = 0 := by have := s1.1.1; omega
    obtain ⟨τ1, x1, x2, x3⟩ := C_wStm s1 h hd (by omega)
    obtain ⟨τ2, y1, y2, y3⟩ := C_chr (c := 59) x2 (by decide) (by omega)
    have y1 : X iJB_append1 0 [(2, ((nn σ0 : Nat) : Int)), (0, 59)] [] τ1 = some ((2, ((nn σ0 : Nat) : Int)), τ2) := y1
    obtain ⟨τ3, z1, z2, z3⟩ := C_tOf hst hsM hw w0 d (j + 1) τ2 (by omega) y2 (by omega)
    refine ⟨τ3, ?_, z2, z3.trans (y3.trans x3)⟩
    rw [cn_lt hj, qNode_textOf_10, if_neg hc0, x1, Option.bind_some, qNode_textOf_19, bs_b x2, cnd_t, y1, Option.bind_some, qNode_textOf_25, bs_f y2 s1.1 7, xob_some, s2]
    exact z1
/-- the range from the start on -/
theorem C_rng {v cap k : Nat} (h6 : 392 ≤ v) (h7 : xnth σ.2.1 (v - 392) = some (102, cap)) (hk : k ≤ cap) (hc : cap ≤ 50000) : X iJR_copyOfRange 0 [(2, (v : Int)), (0, 0), (0, (k : Int))] [] σ = some ((2, ((nn σ : Nat) : Int)), xcopy xE1 (xal xE1 σ 102 k) v 0 (nn σ) 0 k) := by
  by_cases q : k < cap
  · exact C_range h6 h7 q hc
  · have e : k = cap := by omega
    subst e
    have c1 : Nat.ble xNC v = true := Nat.ble_eq_true_of_le (Nat.le_trans (by decide) h6)
    rw [qJR_copyOfRange_0, if_pos rfl, xlen_new (t := 2) h6 h7 (by decide), xob_some, if_pos rfl, xarr_new (t := 2) h6 h7, xob_some, Int.toNat_natCast, c1]
    rfl
theorem C_str2 {a v cap : Nat} {l : List Nat} (h : sbd σ.1 σ.2.1 a v cap l) : ∃ τ, X iJB_toString 0 [(2, (a : Int))] [] σ = some ((2, ((nn σ : Nat) : Int)), τ) ∧ sto τ.1 τ.2.1 (nn σ) l ∧ τ.2.1 = σ.2.1 ++ [(0, 4), (102, l.length)] ∧ τ.2.2.1 = σ.2.2.1 + 4 + l.length ∧ τ.2.2.2 = σ.2.2.2 ∧ ∀ x, x < nn σ → τ.1 x = σ.1 x := by
  obtain ⟨⟨h1, h2⟩, ⟨h3, h4, h5⟩, ⟨h6, h7⟩, ⟨h8, h9⟩, h10⟩ := h
  have gn := nn_ge (σ := σ)
  have han := ty_lt h1 h2
  have hvn := ty_lt h6 h7
  have a1 : xnth (xal xE1 σ 0 4).2.1 (a - 392) = some (1, 4) := xal_to h2
  have v1 : xnth (xal xE1 σ 0 4).2.1 (v - 392) = some (102, cap) := xal_to h7
  have s1 : xnth (xal xE1 σ 0 4).2.1 (nn σ - 392) = some (0, 4) := xal_ty
  have i0 : xisO xE1 (xal xE1 σ 0 4) ((nn σ : Nat) : Int) 0 = true := xisO_new gn s1
  have i1 : xisO xE1 (xal xE1 σ 0 4) (a : Int) 1 = true := xisO_new h1 a1
  have ea : (xal xE1 σ 0 4).1 a = σ.1 a := xal_ne (by omega)
  have rr := C_rng (σ := xs (xal xE1 σ 0 4) (nn σ) 1 0) (k := l.length) h6 v1 h8 h9
  have nx : nn (xs (xal xE1 σ 0 4) (nn σ) 1 0) = nn σ + 1 := by rw [nn_xs, xal_nn]
  rw [nx] at rr
  generalize hυ : xcopy xE1 (xal xE1 (xs (xal xE1 σ 0 4) (nn σ) 1 0) 102 l.length) v 0 (nn σ + 1) 0 l.length = υ at rr
  have u2 : υ.2.1 = σ.2.1 ++ [(0, 4), (102, l.length)] := by
    rw [← hυ]
    show (σ.2.1 ++ [(0, 4)]) ++ [(102, l.length)] = _
    rw [List.append_assoc]; rfl
  have us : xnth υ.2.1 (nn σ - 392) = some (0, 4) := by
    rw [← hυ]
    exact xal_to (σ := xs (xal xE1 σ 0 4) (nn σ) 1 0) s1
  have ua : xnth υ.2.1 (nn σ + 1 - 392) = some (102, l.length) := by
    have := xal_ty (σ := xs (xal xE1 σ 0 4) (nn σ) 1 0) (c := 102) (n := l.length)
    rw [nx] at this
    rw [← hυ]
    exact this
  have em : ∀ x, x ≠ nn σ + 1 → υ.1 x = (xs (xal xE1 σ 0 4) (nn σ) 1 0).1 x := fun x hx => by rw [← hυ, xcp_ne hx, xal_ne (by rw [nx]; exact hx)]
  have iu : xisO xE1 υ ((nn σ : Nat) : Int) 0 = true := xisO_new gn us
  have gb : ¬ nn σ = 0 := by omega
  refine ⟨xs υ (nn σ) 0 ((nn σ + 1 : Nat) : Int), ?_, ⟨gn, us, ?_, nn σ + 1, ?_, by omega, ua, fun i hi => ?_⟩, u2, ?_, ?_, fun x hx => ?_⟩
  · rw [qJB_toString_0, nnx, i0, cnd_t, qJS_init2_0, i0, cnd_t, qJS_init1_0, Int.toNat_natCast, beq_ff gb, cnd_f, i1, cnd_t, xfld_new 0 h1 a1, xob_some, cnd_t, cnd_t, xfld_new 3 h1 a1, xob_some, cnd_t, xfld_new 1 h1 a1, xob_some, ea, h4, if_pos (show xna 2 0 = 0 from rfl), i0, cnd_t, xwr_new gn, xob_some, h3, h5, rr, Option.bind_some, qJS_init1_35, iu, cnd_t, xwr_new gn, xob_some, Option.bind_some, qJS_init2_6, Option.bind_some, qJB_toString_8]
  · rw [xs_at, xup_ne (by decide), em _ (by omega), xs_at, xup_eq]
  · rw [xs_at, xup_eq]
  · rw [xs_ne (by omega), ← hυ, xcp_at h6, if_pos hi, xal_ne (by rw [nx]; omega), xs_ne (by omega), xal_ne (by omega)]
    exact h10 i hi
  · rw [← hυ]; rfl
  · rw [← hυ]; rfl
  · rw [xs_ne (by omega), em _ (by omega), xs_ne (by omega), xal_ne (by omega)]
/-- new cells alone, so many, so many slots -/
def grw (σ τ : xS) (k q : Nat) : Prop := (∃ L : List (Nat × Nat), τ.2.1 = σ.2.1 ++ L ∧ L.length ≤ k) ∧ τ.2.2.1 ≤ σ.2.2.1 + q ∧ τ.2.2.2 = σ.2.2.2 ∧ ∀ x, x < nn σ → τ.1 x = σ.1 x
theorem C_textOf {cs : Nat → Nat} (hst : ∀ j, j < M → (∃ ah, stN A f σ0.1 σ0.2.1 F (F + j) (cs j) ah) ∧ σ0.1 (cs j) 7 = cn cs M (j + 1)) (hsM : ∀ j, j < M → stM A f F (F + j)) (hw : tws A f F M ≤ 1389) (hd : 1200 ≤ xdp σ0) : ∃ (τ : xS) (s : Nat), X iNode_textOf 0 [(2, cn cs M 0), (9, 0), (9, 0)] [] σ0 = some ((2, (s : Int)), τ) ∧ sto τ.1 τ.2.1 s (txa A f F M) ∧ (∀ c ∈ txa A f F M, c < 128) ∧ grw σ0 τ 12 7100 := by
  have gn := nn_ge (σ := σ0)
  have s1 : xnth (xal xE1 σ0 1 4).2.1 (nn σ0 - 392) = some (1, 4) := xal_ty
  have n1 : nn (xal xE1 σ0 1 4) = nn σ0 + 1 := xal_nn
  have s2 : xnth (xal xE1 (xal xE1 σ0 1 4) 102 16).2.1 (nn σ0 - 392) = some (1, 4) := xal_to s1
  have s3 : xnth (xal xE1 (xal xE1 σ0 1 4) 102 16).2.1 (nn σ0 + 1 - 392) = some (102, 16) := by
    have := xal_ty (σ := xal xE1 σ0 1 4) (c := 102) (n := 16)
    rwa [n1] at this
  have i1 : xisO xE1 (xal xE1 σ0 1 4) ((nn σ0 : Nat) : Int) 1 = true := xisO_new gn s1
  have i2 : xisO xE1 (xal xE1 (xal xE1 σ0 1 4) 102 16) ((nn σ0 : Nat) : Int) 1 = true := xisO_new gn s2
  have i3 : xisO xE1 (xs (xal xE1 (xal xE1 σ0 1 4) 102 16) (nn σ0) 0 ((nn σ0 + 1 : Nat) : Int)) ((nn σ0 : Nat) : Int) 1 = true := xisO_new (σ := xs (xal xE1 (xal xE1 σ0 1 4) 102 16) (nn σ0) 0 ((nn σ0 + 1 : Nat) : Int)) gn s2
  generalize hσ : xs (xs (xal xE1 (xal xE1 σ0 1 4) 102 16) (nn σ0) 0 ((nn σ0 + 1 : Nat) : Int)) (nn σ0) 1 0 = σ2
  have e2 : σ2.2 = (xal xE1 (xal xE1 σ0 1 4) 102 16).2 := by rw [← hσ]; rfl
  have eo : ∀ x, x < nn σ0 → σ2.1 x = σ0.1 x := fun x hx => by rw [← hσ, xs_ne (by omega), xs_ne (by omega), xal_ne (by omega), xal_ne (by omega)]
  have z3 : (xal xE1 (xal xE1 σ0 1 4) 102 16).1 (nn σ0) 3 = 0 := by
    rw [xal_ne (by omega)]
    show cond (Nat.beq (nn σ0) (xnew xE1 σ0)) 0 _ = 0
    rw [show xnew xE1 σ0 = nn σ0 from rfl, beq_tt]; rfl
  have hb : bs σ0 σ2 (txa A f F 0) := by
    refine ⟨nn σ0 + 1, 16, ⟨⟨gn, by rw [e2]; exact s2⟩, ⟨?_, ?_, ?_⟩, ⟨by omega, by rw [e2]; exact s3⟩, ⟨Nat.zero_le _, by decide⟩, fun i hi => absurd hi (Nat.not_lt_zero i)⟩, fun c hc => absurd hc (by intro q; cases q), by omega, ⟨0, [(1, 4), (102, 16)], ?_, rfl, by decide⟩, by decide, ?_, by rw [e2]; rfl, eo⟩
    · rw [← hσ, xs_at, xup_ne (by decide), xs_at, xup_eq]
    · rw [← hσ, xs_at, xup_eq]
    · rw [← hσ, xs_at, xup_ne (by decide), xs_at, xup_ne (by decide)]; exact z3
    · rw [e2]
      show (σ0.2.1 ++ [(1, 4)]) ++ [(102, 16)] = _
      rw [List.append_assoc]; rfl
    · rw [e2]
      show σ0.2.2.1 + 4 + 16 ≤ _
      omega
  have hd2 : xdp σ2 = xdp σ0 := by
    show σ2.2.2.2.1 = _
    rw [e2]; rfl
  obtain ⟨τ1, x1, x2, x3⟩ := C_tOf hst hsM hw (2, cn cs M 0) M 0 σ2 (Nat.zero_add _) hb (by omega)
  have x2' := x2
  obtain ⟨v, cap, y1, y2, y3, ⟨k, L, y4, y5, y6⟩, y7, y8, y9, y10⟩ := x2'
  obtain ⟨τ2, t1, t2, t3, t4, t5, t6⟩ := C_str2 y1
  have hl := txa_len M hsM
  have hk : k ≤ 7 := by
    by_cases q : k ≤ 7
    · exact q
    · have := Nat.pow_le_pow_right (show 0 < 2 by decide) (show 8 ≤ k by omega)
      have : (2 : Nat) ^ 8 = 256 := rfl
      omega
  have hnn : nn σ0 ≤ nn τ1 := by rw [nn_eq, nn_eq, y4, List.length_append]; omega
  refine ⟨τ2, nn τ1, ?_, t2, y2, ⟨⟨L ++ [(0, 4), (102, (txa A f F M).length)], ?_, ?_⟩, ?_, ?_, fun x hx => ?_⟩⟩
  · have gb : ¬ nn σ0 = 0 := by omega
    rw [qNode_textOf_0, nnx, i1, cnd_t, cnd_t, Int.toNat_natCast, beq_ff gb, cnd_f, i2, cnd_t, nnx, n1, xwr_new gn, xob_some, i3, cnd_t, xwr_new gn, xob_some, hσ, x1, qNode_textOf_10, if_pos rfl, bs_b x2, cnd_t, t1, Option.bind_some, qNode_textOf_38]
  · rw [t3, y4, List.append_assoc]
  · rw [List.length_append, y5]
    show 2 + k + 2 ≤ 12
    omega
  · rw [t4]; omega
  · rw [t5]
    have e3 : τ1.2.2.2.1 = σ0.2.2.2.1 := by
      have : xdp τ1 = xdp σ0 := x3.trans hd2
      exact this
    have : ∀ (p q : Nat × Nat × (Nat → Int)), p.1 = q.1 → p.2 = q.2 → p = q := fun p q h1 h2 => by
      obtain ⟨a, b⟩ := p
      obtain ⟨c, d⟩ := q
      cases h1
      cases h2
      rfl
    exact this _ _ e3 y9
  · rw [t6 x (by omega)]; exact y10 x hx
end WST

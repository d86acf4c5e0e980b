/-! the reference writes a statement, all of a text -/
section MST
theorem xw_T {n : Nat} (h : n < 2000000000) : xw ((n : Int) + 1) = ((n + 1 : Nat) : Int) := by rw [xw_id (by omega) (by omega)]; omega
theorem xw_nm {F : Nat} {x : Int} (h1 : 10 ≤ x) (h2 : F + (x - 10).toNat < 200) : xw (xw ((F : Int) + x) - 10) = ((F + (x - 10).toNat : Nat) : Int) := by
  rw [xw_id (x := (F : Int) + x) (by omega) (by omega), xw_id (by omega) (by omega)]; omega
variable {σ0 σ τ υ : xS} {A f : Nat → Nat → Int} {l : List Nat} {i F t : Nat}
theorem M_kw {k : Nat} (h : wo σ.1 l) (hk : k < 32) (hl : l.length ≤ 1390) : ∃ τ, X iM_writesWord 0 [(2, 305), (1, wcd (kwl k) 0), (8, 0), (9, 0), (9, 0)] [] σ = some ((9, 0), τ) ∧ wo τ.1 (wW l (kwl k)) ∧ wf2 σ τ := by
  have hw := kwl_wlt k hk
  obtain ⟨τ, h1, h2, h3⟩ := M_wW h hw (by have := hw.1.2; omega)
  exact ⟨τ, h1, h2, wf2_1 h3⟩
theorem M_nw {w : Int} (h : wo σ.1 l) (hk : nmk w) (hl : l.length ≤ 1390) : ∃ τ, X iM_writesWord 0 [(2, 305), (1, w), (8, 0), (9, 0), (9, 0)] [] σ = some ((9, 0), τ) ∧ wo τ.1 (wW l (nmw w)) ∧ wf2 σ τ := by
  have hw := hk.1
  obtain ⟨τ, h1, h2, h3⟩ := M_wW h hw (by have := hw.1.2; omega)
  rw [hk.2] at h1
  exact ⟨τ, h1, h2, wf2_1 h3⟩
theorem d10_l9 (v : Int) : d10 v ≤ 9 := by
  unfold d10
  repeat' split
  all_goals decide
theorem M_nn {v : Int} (h : wo σ.1 l) (hv : 0 ≤ v ∧ v ≤ 999999999) (hl : l.length ≤ 1390) : ∃ τ, X iM_writesNumber 0 [(2, 305), (1, v), (8, 0), (9, 0), (9, 0)] [] σ = some ((9, 0), τ) ∧ wo τ.1 (wW l (dec v)) ∧ wf2 σ τ := by
  obtain ⟨τ, h1, h2, h3⟩ := M_wN h hv (by rw [dec_len]; have := d10_l9 v; omega)
  exact ⟨τ, h1, h2, wf2_1 h3⟩
theorem wf2_A (h : wf2 σ τ) (hA : ∀ q, q < 7 → σ.1 (344 + q) = A q) : ∀ q, q < 7 → τ.1 (344 + q) = A q := fun q hq => by rw [h.2.1 _ (by omega) (by omega)]; exact hA q hq
theorem wW_ge (l ws : List Nat) : l.length ≤ (wW l ws).length := (wW_len l ws).2
theorem M_sh (hw : wo σ.1 l) (hA : ∀ q, q < 7 → σ.1 (344 + q) = A q) (hi : i < 200) (hst : stM A f F i) (hnm : A 0 i = 0 → nmk (A 6 i)) (hl : l.length + shw A i ≤ 1390) (t : Int) : ∃ τ, X iM_writesStatement 0 [(2, 305), (0, t), (0, (i : Int)), (9, 0)] [] σ = X iM_writesStatement 250 [(2, 305), (0, t), (0, (i : Int)), (0, A 0 i)] [] τ ∧ wo τ.1 (shx A i l) ∧ wf2 σ τ := by
  obtain ⟨h0, h1, h2, h3, h4⟩ := hst
  have hx : xin (i : Int) 200 := xin_of (by omega) (by omega)
  have e0 : σ.1 344 i = A 0 i := congrFun (hA 0 (by decide)) i
  have hL := shx_len (A := A) (i := i) h0.1 h2 l
  unfold shx at hL ⊢
  have g := fun (x y : List Nat) => wW_ge x y
  have rd : ∀ {υ : xS} (q : Nat), q < 7 → wf2 σ υ → υ.1 (344 + q) i = A q i := fun {υ} q hq h => congrFun (wf2_A h hA q hq) i
  rcases (show A 0 i = 0 ∨ A 0 i = 1 ∨ A 0 i = 2 ∨ A 0 i = 3 ∨ A 0 i = 4 ∨ A 0 i = 5 ∨ A 0 i = 6 by omega) with c | c | c | c | c | c | c
  · rw [if_pos c] at hL ⊢
    have g1 := g (wW l (kwl 0)) (nmw (A 6 i))
    have g2 := g l (kwl 0)
    obtain ⟨τ1, a1, a2, a3⟩ := M_kw (k := 0) hw (by decide) (by omega)
    have a1 : X iM_writesWord 0 [(2, 305), (1, 8903), (8, 0), (9, 0), (9, 0)] [] σ = some ((9, 0), τ1) := a1
    obtain ⟨τ2, b1, b2, b3⟩ := M_nw (w := A 6 i) a2 (hnm c) (by omega)
    have e6 : τ1.1 350 i = A 6 i := rd 6 (by decide) a3
    refine ⟨τ2, ?_, b2, wf2_tr a3 b3⟩
    rw [qM_writesStatement_0, if_pos hx, Int.toNat_natCast, e0, c, if_pos rfl, a1, Option.bind_some, qM_writesStatement_18, if_pos hx, Int.toNat_natCast, e6, b1, Option.bind_some, qM_writesStatement_28]
  · rw [if_neg (show ¬ A 0 i = 0 by omega), if_pos c] at hL ⊢
    obtain ⟨τ1, a1, a2, a3⟩ := M_kw (k := 1) hw (by decide) (by have := g l (kwl 1); omega)
    have a1 : X iM_writesWord 0 [(2, 305), (1, 8863997), (8, 0), (9, 0), (9, 0)] [] σ = some ((9, 0), τ1) := a1
    have e1 : τ1.1 345 i = A 1 i := rd 1 (by decide) a3
    have k1 : (kwl 1).length = 5 := rfl
    have g1 := (wW_len l (kwl 1)).1
    have s1 : 8 ≤ shw A i := by
      unfold shw
      rw [if_neg (show ¬ A 0 i = 0 by omega), if_pos c]
      exact Nat.le_add_right _ _
    by_cases n : A 1 i < 0
    · rw [if_pos n]
      refine ⟨τ1, ?_, a2, a3⟩
      rw [qM_writesStatement_0, if_pos hx, Int.toNat_natCast, e0, c, if_neg (show ¬ (1 : Int) = 0 by decide), if_pos rfl, a1, Option.bind_some, qM_writesStatement_43, if_pos hx, Int.toNat_natCast, e1, if_pos n]
    · rw [if_neg n]
      obtain ⟨τ2, b1, b2, b3⟩ := M_nn (v := A 1 i) a2 ⟨by omega, (h1 c).2⟩ (by omega)
      refine ⟨τ2, ?_, b2, wf2_tr a3 b3⟩
      rw [qM_writesStatement_0, if_pos hx, Int.toNat_natCast, e0, c, if_neg (show ¬ (1 : Int) = 0 by decide), if_pos rfl, a1, Option.bind_some, qM_writesStatement_43, if_pos hx, Int.toNat_natCast, e1, if_neg n, if_pos hx, b1, Option.bind_some, qM_writesStatement_63]
  · rw [if_neg (show ¬ A 0 i = 0 by omega), if_neg (show ¬ A 0 i = 1 by omega), if_pos c] at hL ⊢
    obtain ⟨τ1, a1, a2, a3⟩ := M_kw (k := 2) hw (by decide) (by omega)
    have a1 : X iM_writesWord 0 [(2, 305), (1, 247663), (8, 0), (9, 0), (9, 0)] [] σ = some ((9, 0), τ1) := a1
    have e1 : τ1.1 345 i = A 1 i := rd 1 (by decide) a3
    have g1 := g (wW l (kwl 2)) (kwl (7 + (A 1 i).toNat))
    obtain ⟨h2a, h2b⟩ := h2 c
    rcases (show A 1 i = 0 ∨ A 1 i = 1 ∨ A 1 i = 2 by omega) with d | d | d
    · rw [d]
      obtain ⟨τ2, b1, b2, b3⟩ := M_kw (k := 7) a2 (by decide) (by omega)
      have b1 : X iM_writesWord 0 [(2, 305), (1, 4562600), (8, 0), (9, 0), (9, 0)] [] τ1 = some ((9, 0), τ2) := b1
      refine ⟨τ2, ?_, b2, wf2_tr a3 b3⟩
      rw [qM_writesStatement_0, if_pos hx, Int.toNat_natCast, e0, c, if_neg (show ¬ (2 : Int) = 0 by decide), if_neg (show ¬ (2 : Int) = 1 by decide), if_pos rfl, a1, Option.bind_some, qM_writesStatement_78, if_pos hx, Int.toNat_natCast, e1, d, if_pos rfl, b1, Option.bind_some, qM_writesStatement_94]
    · rw [d]
      obtain ⟨τ2, b1, b2, b3⟩ := M_kw (k := 8) a2 (by decide) (by omega)
      have b1 : X iM_writesWord 0 [(2, 305), (1, 12531826), (8, 0), (9, 0), (9, 0)] [] τ1 = some ((9, 0), τ2) := b1
      refine ⟨τ2, ?_, b2, wf2_tr a3 b3⟩
      rw [qM_writesStatement_0, if_pos hx, Int.toNat_natCast, e0, c, if_neg (show ¬ (2 : Int) = 0 by decide), if_neg (show ¬ (2 : Int) = 1 by decide), if_pos rfl, a1, Option.bind_some, qM_writesStatement_78, if_pos hx, Int.toNat_natCast, e1, d, if_neg (show ¬ (1 : Int) = 0 by decide), if_pos hx, if_pos rfl, b1, Option.bind_some, qM_writesStatement_114]
    · rw [d]
      obtain ⟨τ2, b1, b2, b3⟩ := M_kw (k := 9) a2 (by decide) (by omega)
      have b1 : X iM_writesWord 0 [(2, 305), (1, 326280), (8, 0), (9, 0), (9, 0)] [] τ1 = some ((9, 0), τ2) := b1
      refine ⟨τ2, ?_, b2, wf2_tr a3 b3⟩
      rw [qM_writesStatement_0, if_pos hx, Int.toNat_natCast, e0, c, if_neg (show ¬ (2 : Int) = 0 by decide), if_neg (show ¬ (2 : Int) = 1 by decide), if_pos rfl, a1, Option.bind_some, qM_writesStatement_78, if_pos hx, Int.toNat_natCast, e1, d, if_neg (show ¬ (2 : Int) = 0 by decide), if_pos hx, if_neg (show ¬ (2 : Int) = 1 by decide), b1, Option.bind_some, qM_writesStatement_124]
  · rw [if_neg (show ¬ A 0 i = 0 by omega), if_neg (show ¬ A 0 i = 1 by omega), if_neg (show ¬ A 0 i = 2 by omega), if_pos c] at hL ⊢
    obtain ⟨τ1, a1, a2, a3⟩ := M_kw (k := 3) hw (by decide) (by omega)
    have a1 : X iM_writesWord 0 [(2, 305), (1, 261338243), (8, 0), (9, 0), (9, 0)] [] σ = some ((9, 0), τ1) := a1
    refine ⟨τ1, ?_, a2, a3⟩
    rw [qM_writesStatement_0, if_pos hx, Int.toNat_natCast, e0, c, if_neg (show ¬ (3 : Int) = 0 by decide), if_neg (show ¬ (3 : Int) = 1 by decide), if_neg (show ¬ (3 : Int) = 2 by decide), if_pos rfl, a1, Option.bind_some, qM_writesStatement_139]
  · rw [if_neg (show ¬ A 0 i = 0 by omega), if_neg (show ¬ A 0 i = 1 by omega), if_neg (show ¬ A 0 i = 2 by omega), if_neg (show ¬ A 0 i = 3 by omega), if_pos c] at hL ⊢
    have g5 := g (wW (wW (wW (wW l (kwl 4)) (dec (A 1 i))) (kwl 10)) (dec (A 2 i))) (kwl 11)
    have g4 := g (wW (wW (wW l (kwl 4)) (dec (A 1 i))) (kwl 10)) (dec (A 2 i))
    have g3 := g (wW (wW l (kwl 4)) (dec (A 1 i))) (kwl 10)
    have g2 := g (wW l (kwl 4)) (dec (A 1 i))
    have g1 := g l (kwl 4)
    obtain ⟨h3a, h3b⟩ := h3 (by omega)
    obtain ⟨τ1, a1, a2, a3⟩ := M_kw (k := 4) hw (by decide) (by omega)
    have a1 : X iM_writesWord 0 [(2, 305), (1, 3288323), (8, 0), (9, 0), (9, 0)] [] σ = some ((9, 0), τ1) := a1
    have e1 : τ1.1 345 i = A 1 i := rd 1 (by decide) a3
    obtain ⟨τ2, b1, b2, b3⟩ := M_nn (v := A 1 i) a2 h3a (by omega)
    obtain ⟨τ3, c1, c2, c3⟩ := M_kw (k := 10) b2 (by decide) (by omega)
    have c1 : X iM_writesWord 0 [(2, 305), (1, 555), (8, 0), (9, 0), (9, 0)] [] τ2 = some ((9, 0), τ3) := c1
    have e2 : τ3.1 346 i = A 2 i := rd 2 (by decide) (wf2_tr a3 (wf2_tr b3 c3))
    obtain ⟨τ4, d1, d2, d3⟩ := M_nn (v := A 2 i) c2 h3b (by omega)
    obtain ⟨τ5, f1, f2, f3⟩ := M_kw (k := 11) d2 (by decide) (by omega)
    have f1 : X iM_writesWord 0 [(2, 305), (1, 79), (8, 0), (9, 0), (9, 0)] [] τ4 = some ((9, 0), τ5) := f1
    refine ⟨τ5, ?_, f2, wf2_tr a3 (wf2_tr b3 (wf2_tr c3 (wf2_tr d3 f3)))⟩
    rw [qM_writesStatement_0, if_pos hx, Int.toNat_natCast, e0, c, if_neg (show ¬ (4 : Int) = 0 by decide), if_neg (show ¬ (4 : Int) = 1 by decide), if_neg (show ¬ (4 : Int) = 2 by decide), if_neg (show ¬ (4 : Int) = 3 by decide), if_pos rfl, a1, Option.bind_some, qM_writesStatement_154, qM_writesStatement_179, if_pos hx, Int.toNat_natCast, e1, b1, Option.bind_some, qM_writesStatement_190, if_pos rfl, c1, Option.bind_some, qM_writesStatement_202, qM_writesStatement_227, if_pos hx, Int.toNat_natCast, e2, d1, Option.bind_some, qM_writesStatement_238, if_pos rfl, f1, Option.bind_some]
  · rw [if_neg (show ¬ A 0 i = 0 by omega), if_neg (show ¬ A 0 i = 1 by omega), if_neg (show ¬ A 0 i = 2 by omega), if_neg (show ¬ A 0 i = 3 by omega), if_neg (show ¬ A 0 i = 4 by omega), if_pos c] at hL ⊢
    have g4 := g (wW (wW (wW l (kwl 5)) (dec (A 1 i))) (kwl 12)) (dec (A 2 i))
    have g3 := g (wW (wW l (kwl 5)) (dec (A 1 i))) (kwl 12)
    have g2 := g (wW l (kwl 5)) (dec (A 1 i))
    have g1 := g l (kwl 5)
    obtain ⟨h3a, h3b⟩ := h3 (by omega)
    obtain ⟨τ1, a1, a2, a3⟩ := M_kw (k := 5) hw (by decide) (by omega)
    have a1 : X iM_writesWord 0 [(2, 305), (1, 9744), (8, 0), (9, 0), (9, 0)] [] σ = some ((9, 0), τ1) := a1
    have e1 : τ1.1 345 i = A 1 i := rd 1 (by decide) a3
    obtain ⟨τ2, b1, b2, b3⟩ := M_nn (v := A 1 i) a2 h3a (by omega)
    obtain ⟨τ3, c1, c2, c3⟩ := M_kw (k := 12) b2 (by decide) (by omega)
    have c1 : X iM_writesWord 0 [(2, 305), (1, 459818), (8, 0), (9, 0), (9, 0)] [] τ2 = some ((9, 0), τ3) := c1
    have e2 : τ3.1 346 i = A 2 i := rd 2 (by decide) (wf2_tr a3 (wf2_tr b3 c3))
    obtain ⟨τ4, d1, d2, d3⟩ := M_nn (v := A 2 i) c2 h3b (by omega)
    refine ⟨τ4, ?_, d2, wf2_tr a3 (wf2_tr b3 (wf2_tr c3 d3))⟩
    rw [qM_writesStatement_0, if_pos hx, Int.toNat_natCast, e0, c, if_neg (show ¬ (5 : Int) = 0 by decide), if_neg (show ¬ (5 : Int) = 1 by decide), if_neg (show ¬ (5 : Int) = 2 by decide), if_neg (show ¬ (5 : Int) = 3 by decide), if_neg (show ¬ (5 : Int) = 4 by decide), if_pos rfl, a1, Option.bind_some, qM_writesStatement_169, qM_writesStatement_179, if_pos hx, Int.toNat_natCast, e1, b1, Option.bind_some, qM_writesStatement_190, if_neg (show ¬ (5 : Int) = 4 by decide), if_pos rfl, c1, Option.bind_some, qM_writesStatement_217, qM_writesStatement_227, if_pos hx, Int.toNat_natCast, e2, d1, Option.bind_some, qM_writesStatement_238, if_neg (show ¬ (5 : Int) = 4 by decide)]
  · rw [if_neg (show ¬ A 0 i = 0 by omega), if_neg (show ¬ A 0 i = 1 by omega), if_neg (show ¬ A 0 i = 2 by omega), if_neg (show ¬ A 0 i = 3 by omega), if_neg (show ¬ A 0 i = 4 by omega), if_neg (show ¬ A 0 i = 5 by omega)] at hL ⊢
    have g4 := g (wW (wW (wW l (kwl 6)) (dec (A 1 i))) (kwl 13)) (dec (A 2 i))
    have g3 := g (wW (wW l (kwl 6)) (dec (A 1 i))) (kwl 13)
    have g2 := g (wW l (kwl 6)) (dec (A 1 i))
    have g1 := g l (kwl 6)
    obtain ⟨h3a, h3b⟩ := h3 (by omega)
    obtain ⟨τ1, a1, a2, a3⟩ := M_kw (k := 6) hw (by decide) (by omega)
    have a1 : X iM_writesWord 0 [(2, 305), (1, 161156), (8, 0), (9, 0), (9, 0)] [] σ = some ((9, 0), τ1) := a1
    have e1 : τ1.1 345 i = A 1 i := rd 1 (by decide) a3
    obtain ⟨τ2, b1, b2, b3⟩ := M_nn (v := A 1 i) a2 h3a (by omega)
    obtain ⟨τ3, c1, c2, c3⟩ := M_kw (k := 13) b2 (by decide) (by omega)
    have c1 : X iM_writesWord 0 [(2, 305), (1, 4797), (8, 0), (9, 0), (9, 0)] [] τ2 = some ((9, 0), τ3) := c1
    have e2 : τ3.1 346 i = A 2 i := rd 2 (by decide) (wf2_tr a3 (wf2_tr b3 c3))
    obtain ⟨τ4, d1, d2, d3⟩ := M_nn (v := A 2 i) c2 h3b (by omega)
    refine ⟨τ4, ?_, d2, wf2_tr a3 (wf2_tr b3 (wf2_tr c3 d3))⟩
    rw [qM_writesStatement_0, if_pos hx, Int.toNat_natCast, e0, c, if_neg (show ¬ (6 : Int) = 0 by decide), if_neg (show ¬ (6 : Int) = 1 by decide), if_neg (show ¬ (6 : Int) = 2 by decide), if_neg (show ¬ (6 : Int) = 3 by decide), if_neg (show ¬ (6 : Int) = 4 by decide), if_neg (show ¬ (6 : Int) = 5 by decide), a1, Option.bind_some, qM_writesStatement_179, if_pos hx, Int.toNat_natCast, e1, b1, Option.bind_some, qM_writesStatement_190, if_neg (show ¬ (6 : Int) = 4 by decide), if_neg (show ¬ (6 : Int) = 5 by decide), c1, Option.bind_some, qM_writesStatement_227, if_pos hx, Int.toNat_natCast, e2, d1, Option.bind_some, qM_writesStatement_238, if_neg (show ¬ (6 : Int) = 4 by decide)]
theorem M_wdAt (hF : t < 8 ∧ σ0.1 341 t = (F : Int)) (hA : σ0.1 350 = A 6) {S : Nat} (hS : S ≤ 200) (hnm : ∀ y, F ≤ y → y < S → A 0 y = 0 → nmk (A 6 y)) (x : Int) (hx : 0 ≤ x) (h10 : 10 ≤ x → F + (x - 10).toNat < S ∧ A 0 (F + (x - 10).toNat) = 0) : wlt (nwx (A 6) F x) ∧ (nwx (A 6) F x).length = lwd (A 6) F x ∧ ∀ υ : xS, wf2 σ0 υ → X iM_wordAt 0 [(2, 305), (0, (t : Int)), (0, x)] [] υ = some ((1, wcd (nwx (A 6) F x) 0), υ) := by
  refine ⟨nwx_lt (sk := A 0) hx h10 hnm, nwx_len hx, fun υ hυ => ?_⟩
  by_cases h : x < 10
  · have e : nwx (A 6) F x = kwl (22 + x.toNat) := if_pos h
    rw [e]
    rcases (show x = 0 ∨ x = 1 ∨ x = 2 ∨ x = 3 ∨ x = 4 ∨ x = 5 ∨ x = 6 ∨ x = 7 ∨ x = 8 ∨ x = 9 by omega) with d | d | d | d | d | d | d | d | d | d
    · rw [d, qM_wordAt_0, if_pos rfl]; rfl
    · rw [d, qM_wordAt_0, if_neg (show ¬ (1 : Int) = 0 by decide), if_pos rfl]; rfl
    · rw [d, qM_wordAt_0, if_neg (show ¬ (2 : Int) = 0 by decide), if_neg (show ¬ (2 : Int) = 1 by decide), if_pos rfl]; rfl
    · rw [d, qM_wordAt_0, if_neg (show ¬ (3 : Int) = 0 by decide), if_neg (show ¬ (3 : Int) = 1 by decide), if_neg (show ¬ (3 : Int) = 2 by decide), if_pos rfl]; rfl
    · rw [d, qM_wordAt_0, if_neg (show ¬ (4 : Int) = 0 by decide), if_neg (show ¬ (4 : Int) = 1 by decide), if_neg (show ¬ (4 : Int) = 2 by decide), if_neg (show ¬ (4 : Int) = 3 by decide), if_pos rfl]; rfl
    · rw [d, qM_wordAt_0, if_neg (show ¬ (5 : Int) = 0 by decide), if_neg (show ¬ (5 : Int) = 1 by decide), if_neg (show ¬ (5 : Int) = 2 by decide), if_neg (show ¬ (5 : Int) = 3 by decide), if_neg (show ¬ (5 : Int) = 4 by decide), if_pos rfl]; rfl
    · rw [d, qM_wordAt_0, if_neg (show ¬ (6 : Int) = 0 by decide), if_neg (show ¬ (6 : Int) = 1 by decide), if_neg (show ¬ (6 : Int) = 2 by decide), if_neg (show ¬ (6 : Int) = 3 by decide), if_neg (show ¬ (6 : Int) = 4 by decide), if_neg (show ¬ (6 : Int) = 5 by decide), if_pos rfl]; rfl
    · rw [d, qM_wordAt_0, if_neg (show ¬ (7 : Int) = 0 by decide), if_neg (show ¬ (7 : Int) = 1 by decide), if_neg (show ¬ (7 : Int) = 2 by decide), if_neg (show ¬ (7 : Int) = 3 by decide), if_neg (show ¬ (7 : Int) = 4 by decide), if_neg (show ¬ (7 : Int) = 5 by decide), if_neg (show ¬ (7 : Int) = 6 by decide), if_pos rfl]; rfl
    · rw [d, qM_wordAt_0, if_neg (show ¬ (8 : Int) = 0 by decide), if_neg (show ¬ (8 : Int) = 1 by decide), if_neg (show ¬ (8 : Int) = 2 by decide), if_neg (show ¬ (8 : Int) = 3 by decide), if_neg (show ¬ (8 : Int) = 4 by decide), if_neg (show ¬ (8 : Int) = 5 by decide), if_neg (show ¬ (8 : Int) = 6 by decide), if_neg (show ¬ (8 : Int) = 7 by decide), if_pos rfl]; rfl
    · rw [d, qM_wordAt_0, if_neg (show ¬ (9 : Int) = 0 by decide), if_neg (show ¬ (9 : Int) = 1 by decide), if_neg (show ¬ (9 : Int) = 2 by decide), if_neg (show ¬ (9 : Int) = 3 by decide), if_neg (show ¬ (9 : Int) = 4 by decide), if_neg (show ¬ (9 : Int) = 5 by decide), if_neg (show ¬ (9 : Int) = 6 by decide), if_neg (show ¬ (9 : Int) = 7 by decide), if_neg (show ¬ (9 : Int) = 8 by decide), if_pos rfl]; rfl
  · obtain ⟨g1, g2⟩ := h10 (by omega)
    have e : nwx (A 6) F x = nmw (A 6 (F + (x - 10).toNat)) := if_neg h
    have h341 : υ.1 341 t = (F : Int) := by rw [hυ.2.1 341 (by decide) (by decide)]; exact hF.2
    have h350 : υ.1 350 = A 6 := by rw [hυ.2.1 350 (by decide) (by decide)]; exact hA
    have ht : xin (t : Int) 8 := xin_of (by omega) (by omega)
    rw [e, (hnm _ (Nat.le_add_right _ _) g1 g2).2, qM_wordAt_0, if_neg (show ¬ x = 0 by omega), if_neg (show ¬ x = 1 by omega), if_neg (show ¬ x = 2 by omega), if_neg (show ¬ x = 3 by omega), if_neg (show ¬ x = 4 by omega), if_neg (show ¬ x = 5 by omega), if_neg (show ¬ x = 6 by omega), if_neg (show ¬ x = 7 by omega), if_neg (show ¬ x = 8 by omega), if_neg (show ¬ x = 9 by omega), if_pos ht, Int.toNat_natCast, h341, xw_nm (by omega) (by omega), if_pos (xin_of (by omega) (by omega)), Int.toNat_natCast, h350]
/-- a statement -/
theorem M_wStm (hw : wo σ.1 l) (hf : ∀ q, q < 6 → σ.1 (351 + q) = f q) (hA : ∀ q, q < 7 → σ.1 (344 + q) = A q) (hF : t < 8 ∧ σ.1 341 t = (F : Int)) (hi : F ≤ i ∧ i < 200) (hst : stM A f F i) (hnm : ∀ y, F ≤ y → y ≤ i → A 0 y = 0 → nmk (A 6 y)) (hl : l.length + sw A f F i ≤ 1389) : ∃ τ, X iM_writesStatement 0 [(2, 305), (0, (t : Int)), (0, (i : Int)), (9, 0)] [] σ = some ((9, 0), τ) ∧ wo τ.1 (stx A f F i l) ∧ wf2 σ τ := by
  have hst' := hst
  have hsx := stx_len hst l
  have hsl := shx_len (A := A) (i := i) hst.1.1 hst.2.2.1 l
  obtain ⟨h0, h1, h2, h3, h4⟩ := hst'
  have e : ∀ (x : List Nat) (c : Nat), (x ++ [c]).length = x.length + 1 := fun x c => List.length_append
  have swx : shw A i + (if A 0 i < 5 then wl f (lwd (A 6) F) (A 3 i).toNat else 0) = sw A f F i := rfl
  obtain ⟨τ1, a1, a2, a3⟩ := M_sh (f := f) (F := F) hw hA hi.2 hst (hnm i hi.1 (Nat.le_refl _)) (by omega) (t : Int)
  have hx : xin (i : Int) 200 := xin_of (by omega) (by omega)
  have fin : ∀ (υ : xS) (L : List Nat) (w1 w2 w3 : xAV), wo υ.1 L → L.length < 1400 → ∃ τ, X iM_writesStatement 277 [(2, 305), w1, w2, w3] [] υ = some ((9, 0), τ) ∧ wo τ.1 (L ++ [59]) ∧ wf2 υ τ := fun υ L w1 w2 w3 hL hLn => by
    refine ⟨xs (xs (xs υ 370 L.length 59) 305 92 ((L.length + 1 : Nat) : Int)) 305 93 0, ?_, ⟨wo2_93 (wo2_put hL.1 59) 0, ?_⟩, wf2_1 (wfr1_tr (wfr1_tr (wfr1_s (Or.inl rfl) _) (wfr1_s (Or.inr ⟨rfl, Or.inl rfl⟩) _)) (wfr1_s (Or.inr ⟨rfl, Or.inr rfl⟩) _))⟩
    · rw [qM_writesStatement_277, hL.1.1, if_pos (xin_of (by omega) (by omega)), Int.toNat_natCast, xw_T (by omega)]
    · rw [xs_at, xup_eq, lld_snoc]; rfl
  have node : A 0 i < 5 → ∀ (υ : xS) (L : List Nat), wo υ.1 L → wf2 σ υ → L.length + (if A 0 i < 5 then wl f (lwd (A 6) F) (A 3 i).toNat else 0) ≤ 1390 → ∃ τ, X iM_writesNode 0 [(2, 305), (0, (t : Int)), (0, A 3 i), (9, 0), (9, 0), (9, 0)] [] υ = some ((9, 0), τ) ∧ wo τ.1 (tx f (nwx (A 6) F) (A 3 i).toNat L) ∧ wf2 υ τ := fun c5 υ L hL hυ hn => by
    obtain ⟨lo, hi', root, ⟨g1, _⟩, ⟨g2, g3, g4⟩, g6, g5⟩ := h4 c5
    rw [if_pos c5, g1, Int.toNat_natCast] at hn
    have hf' : ∀ q, q < 6 → υ.1 (351 + q) = f q := fun q hq => by rw [hυ.2.1 _ (by omega) (by omega)]; exact hf q hq
    have Wt := W_tree (σ0 := σ) (wd := nwx (A 6) F) (t := (t : Int)) (lw := lwd (A 6) F) g5 g4 (fun x hx0 hx1 => M_wdAt hF (hA 6 (by decide)) (S := i) (by omega) (fun y y1 y2 => hnm y y1 (by omega)) x hx0 hx1) (fun x hx0 => Nat.le_of_eq (nwx_len hx0)) (root + 1) root g2 g3 (Nat.lt_succ_self _)
    have hn : L.length + wln f (lwd (A 6) F) (root + 1) root ≤ 1390 := hn
    obtain ⟨τ, k1, k2, _, k4⟩ := M_wNode hL hf' hυ Wt ⟨by omega, g2⟩ hn
    rw [g1, Int.toNat_natCast]
    exact ⟨τ, k1, k2, k4⟩
  unfold stx at hsx ⊢
  rw [e] at hsx
  by_cases c5 : A 0 i < 5
  · rw [if_pos c5] at hsx ⊢
    have node := node c5
    rw [if_pos c5] at node swx
    by_cases c4 : A 0 i < 4
    · rw [if_pos c4] at hsx hsl ⊢
      have q1 : wf2 τ1 (xs (xs (xs τ1 370 (shx A i l).length 61) 305 92 (((shx A i l).length + 1 : Nat) : Int)) 305 93 0) := wf2_1 (wfr1_tr (wfr1_tr (wfr1_s (Or.inl rfl) _) (wfr1_s (Or.inr ⟨rfl, Or.inl rfl⟩) _)) (wfr1_s (Or.inr ⟨rfl, Or.inr rfl⟩) _))
      obtain ⟨τ2, b1, b2, b3⟩ := node _ (shx A i l ++ [61]) ⟨wo2_93 (wo2_put a2.1 61) 0, by rw [xs_at, xup_eq, lld_snoc]; rfl⟩ (wf2_tr a3 q1) (by rw [e]; omega)
      have b1 : X iM_writesNode 0 [(2, 305), (0, (t : Int)), (0, A 3 i), (9, 0), (9, 0), (9, 0)] [] (xs (xs (xs τ1 370 (shx A i l).length 61) 305 92 (((shx A i l).length + 1 : Nat) : Int)) 305 93 0) = some ((9, 0), τ2) := b1
      obtain ⟨τ3, d1, d2, d3⟩ := fin τ2 _ (0, (t : Int)) (0, (i : Int)) (0, A 0 i) b2 (by omega)
      refine ⟨τ3, ?_, d2, wf2_tr a3 (wf2_tr q1 (wf2_tr b3 d3))⟩
      have e3 : τ1.1 347 i = A 3 i := congrFun (wf2_A a3 hA 3 (by decide)) i
      rw [a1, qM_writesStatement_250, if_pos c4, a2.1.1, if_pos (xin_of (by omega) (by omega)), if_pos c5, if_pos hx, Int.toNat_natCast, Int.toNat_natCast, xw_T (by omega), e3, b1, Option.bind_some, d1]
    · rw [if_neg c4] at hsx hsl ⊢
      obtain ⟨τ2, b1, b2, b3⟩ := node τ1 (shx A i l) a2 a3 (by omega)
      obtain ⟨τ3, d1, d2, d3⟩ := fin τ2 _ (0, (t : Int)) (0, (i : Int)) (0, A 0 i) b2 (by omega)
      refine ⟨τ3, ?_, d2, wf2_tr a3 (wf2_tr b3 d3)⟩
      have e3 : τ1.1 347 i = A 3 i := congrFun (wf2_A a3 hA 3 (by decide)) i
      rw [a1, qM_writesStatement_250, if_neg c4, if_pos c5, if_pos hx, Int.toNat_natCast, e3, b1, Option.bind_some, d1]
  · rw [if_neg c5] at hsx ⊢
    rw [if_neg (show ¬ A 0 i < 4 by omega)] at hsl
    obtain ⟨τ3, d1, d2, d3⟩ := fin τ1 _ (0, (t : Int)) (0, (i : Int)) (0, A 0 i) a2 (by omega)
    refine ⟨τ3, ?_, d2, wf2_tr a3 d3⟩
    rw [a1, qM_writesStatement_250, if_neg (show ¬ A 0 i < 4 by omega), if_neg c5, d1]
end MST

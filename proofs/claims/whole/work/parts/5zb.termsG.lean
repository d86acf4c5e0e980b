/-! TERMS between calls: class and reference alike -/
/-- the node of a statement: none behind the last -/
def cn (cs : Nat → Nat) (M j : Nat) : Int := if j < M then (cs j : Int) else 0
theorem cn_lt {cs : Nat → Nat} {M j : Nat} (h : j < M) : cn cs M j = (cs j : Int) := if_pos h
theorem cn_ge {cs : Nat → Nat} {M j : Nat} (h : ¬ j < M) : cn cs M j = 0 := if_neg h
/-- an EX of statement i -/
def te_X (m : Nat → Nat → Int) (t : List (Nat × Nat)) (F i : Nat) (x : Int) : Prop := ∃ lo hi root n cl ch c : Nat, (m 348 i = (lo : Int) ∧ m 349 i = (hi : Int) ∧ m 347 i = (root : Int)) ∧ (lo ≤ root ∧ root < hi ∧ hi ≤ 3300) ∧ n ≤ 400 ∧ x = (c : Int) ∧ wfs (rws m) (m 344) F i lo hi ∧ rws m 0 root ≤ 10 ∧ rl (rws m) m t (m 344) (m 350) F i n cl ch c root
def te_N (m : Nat → Nat → Int) (t : List (Nat × Nat)) (F i a : Nat) : Prop :=
  nd t a ∧ m a 0 = 2 + m 344 i ∧ (0 ≤ m 344 i ∧ m 344 i ≤ 6) ∧
  (m 344 i = 0 → m a 1 = (lkc (m 344) F (i - F) : Int) ∧ nam m t (m a 4) (m 350 i)) ∧
  (m 344 i = 1 → m a 1 = m 345 i ∧ -1 ≤ m 345 i ∧ m 345 i ≤ 999999999) ∧
  (m 344 i = 2 → m a 3 = 9 + m 345 i ∧ 0 ≤ m 345 i ∧ m 345 i ≤ 2) ∧
  (m 344 i = 3 → m 345 i = -1) ∧
  (4 ≤ m 344 i → (m a 1 = m 345 i ∧ m a 2 = m 346 i) ∧ (0 ≤ m 345 i ∧ m 345 i ≤ 999999999) ∧ 0 ≤ m 346 i ∧ m 346 i ≤ 999999999) ∧
  (m 344 i ≤ 4 → te_X m t F i (m a 6)) ∧ (5 ≤ m 344 i → m a 6 = 0)
def te_B (m : Nat → Nat → Int) (t : List (Nat × Nat)) (x F M T N : Nat) (cs : Nat → Nat) : Prop :=
  (m 341 x = (F : Int) ∧ m 342 x = (M : Int) ∧ M ≤ 24 ∧ ((F + M : Nat) : Int) ≤ m 305 57) ∧ m 244 x = (T : Int) ∧ m T 0 = m 343 x ∧ tob m t T N (lkc (m 344) F M) ∧ m T 2 = cn cs M 0 ∧ ∀ j, j < M → te_N m t F (F + j) (cs j) ∧ m (cs j) 7 = cn cs M (j + 1)
def te_T (m : Nat → Nat → Int) (t : List (Nat × Nat)) (x : Nat) : Prop := ∃ (F M T N : Nat) (cs : Nat → Nat), te_B m t x F M T N cs
def te_J (m : Nat → Nat → Int) (t : List (Nat × Nat)) : Prop := m 243 5 = m 305 49 ∧ (0 ≤ m 305 49 ∧ m 305 49 ≤ 8) ∧ (0 ≤ m 305 57 ∧ m 305 57 ≤ 24 * m 305 49) ∧ (0 ≤ m 305 64 ∧ m 305 64 ≤ 400 * m 305 49) ∧ ∀ x, x < (m 305 49).toNat → (0 ≤ m 343 x ∧ m 343 x ≤ 1000) ∧ te_T m t x
/-- not a cell of longs -/
def nlg (t : List (Nat × Nat)) (b : Nat) : Prop := 392 ≤ b ∧ ∀ n, xnth t (b - 392) ≠ some (101, n)
theorem nlg_of {t : List (Nat × Nat)} {b c n : Nat} (h : 392 ≤ b) (ht : xnth t (b - 392) = some (c, n)) (hc : c ≠ 101) : nlg t b := ⟨h, fun n' q => hc (by rw [ht] at q; exact congrArg Prod.fst (Option.some.inj q))⟩
theorem nd_nlg {t : List (Nat × Nat)} {b : Nat} (h : nd t b) : nlg t b := nlg_of h.1 h.2 (by decide)
section TECG
variable {m m' : Nat → Nat → Int} {t : List (Nat × Nat)}
theorem sto_cg (h : ∀ b, nlg t b → m' b = m b) {a : Nat} {l : List Nat} (hs : sto m t a l) : sto m' t a l := by
  obtain ⟨h1, h2, h3, v, h4, h5, h6, h7⟩ := hs
  have ea := h a (nlg_of h1 h2 (by decide))
  have ev := h v (nlg_of h5 h6 (by decide))
  exact ⟨h1, h2, by rw [ea]; exact h3, v, by rw [ea]; exact h4, h5, h6, by rw [ev]; exact h7⟩
theorem nam_cg (h : ∀ b, nlg t b → m' b = m b) {x w : Int} (hs : nam m t x w) : nam m' t x w := by
  obtain ⟨c, l, h1, h2, h3, h4⟩ := hs
  exact ⟨c, l, h1, sto_cg h h2, h3, h4⟩
/-- what terms look at stands -/
def te_st (t : List (Nat × Nat)) (m m' : Nat → Nat → Int) : Prop := (∀ b, nlg t b → m' b = m b) ∧ (∀ a, a = 244 ∨ (341 ≤ a ∧ a ≤ 356) → m' a = m a) ∧ m' 243 5 = m 243 5 ∧ m' 305 49 = m 305 49 ∧ m' 305 57 = m 305 57 ∧ m' 305 64 = m 305 64
theorem te_X_cg (h : te_st t m m') {F i : Nat} {x : Int} (hx : te_X m t F i x) : te_X m' t F i x := by
  obtain ⟨h1, h2, _⟩ := h
  obtain ⟨lo, hi, root, n, cl, ch, c, g1, g2, g3, g4, g5, g6, g7⟩ := hx
  have ef : ∀ c, c ≤ 5 → rws m' c = rws m c := fun c hc => h2 (351 + c) (by omega)
  refine ⟨lo, hi, root, n, cl, ch, c, by rw [h2 348 (by omega), h2 349 (by omega), h2 347 (by omega)]; exact g1, g2, g3, g4, wfs_fc ef (fun j _ _ => by rw [h2 344 (by omega)]) g5, by rw [ef 0 (by decide)]; exact g6, ?_⟩
  exact rl_cg g5 (fun _ q => q) (fun j _ _ => by rw [h2 344 (by omega), h2 350 (by omega)]; exact ⟨rfl, rfl⟩) (fun x w => nam_cg h1) n cl ch c root g2.1 g2.2.1 (fun b k _ _ b3 _ => by rw [h1 b (nd_nlg b3)]) (fun j _ _ => ⟨fun c hc _ => by rw [ef c hc], fun _ => by rw [ef 4 (by decide)]⟩) g7
theorem te_N_cg (h : te_st t m m') {F i a : Nat} (hx : te_N m t F i a) : te_N m' t F i a := by
  have h' := h
  obtain ⟨h1, h2, _⟩ := h
  obtain ⟨g1, g2, g3, g4, g5, g6, g7, g8, g9, g10⟩ := hx
  have ea := h1 a (nd_nlg g1)
  unfold te_N
  rw [ea, h2 344 (by omega), h2 345 (by omega), h2 346 (by omega), h2 350 (by omega)]
  exact ⟨g1, g2, g3, fun q => ⟨(g4 q).1, nam_cg h1 (g4 q).2⟩, g5, g6, g7, g8, fun q => te_X_cg h' (g9 q), g10⟩
theorem te_B_cg (h : te_st t m m') {x F M T N : Nat} {cs : Nat → Nat} (hx : te_B m t x F M T N cs) : te_B m' t x F M T N cs := by
  have h' := h
  obtain ⟨h1, h2, h3, h4, h5, h6⟩ := h
  obtain ⟨g1, g2, g3, g4, g5, g6⟩ := hx
  have eT := h1 T (nlg_of g4.1.1 g4.1.2 (by decide))
  unfold te_B tob
  rw [h2 341 (by omega), h2 342 (by omega), h5, h2 244 (by omega), eT, h2 343 (by omega), h2 344 (by omega)]
  exact ⟨g1, g2, g3, g4, g5, fun j hj => ⟨te_N_cg h' (g6 j hj).1, by rw [h1 (cs j) (nd_nlg (g6 j hj).1.1)]; exact (g6 j hj).2⟩⟩
theorem te_J_cg (h : te_st t m m') (hJ : te_J m t) : te_J m' t := by
  have h' := h
  obtain ⟨h1, h2, h3, h4, h5, h6⟩ := h
  unfold te_J
  rw [h3, h4, h5, h6, h2 343 (by omega)]
  refine ⟨hJ.1, hJ.2.1, hJ.2.2.1, hJ.2.2.2.1, fun x hx => ⟨(hJ.2.2.2.2 x hx).1, ?_⟩⟩
  obtain ⟨F, M, T, N, cs, q⟩ := (hJ.2.2.2.2 x hx).2
  exact ⟨F, M, T, N, cs, te_B_cg h' q⟩
end TECG
theorem tmp_nlg {σ : xS} {b : Nat} (h : nlg σ.2.1 b) (k : Nat) : tmp σ b k = false := by
  have h1 : Nat.ble 392 b = true := Nat.ble_eq_true_of_le h.1
  unfold tmp tmS
  rw [h1, Bool.true_and]
  have key : xmem [207, 208, 214, 215, 254, 255, 256, 257, 265, 266, 267, 268, 269, 270, 271, 273, 275, 276, 277, 278, 279, 280, 281, 282, 283, 284, 285, 287, 288, 289, 290, 291, 292, 293, 294, 295, 296, 297, 299, 300, 301, 302, 303, 324, 338, 339, 340, 358, 359, 360, 361, 362, 363, 364, 365, 366, 367, 368, 370, 371, 372, 373, 374, 381, 382, 383, 384, 385, 386, 387, 388, 389, 390, 391] b = false := by
    have h0 := h.1
    simp only [xmem]
    repeat rw [beq_ff (by omega)]
    rfl
  have h0 := h.1
  rw [key, beq_ff (show b ≠ 305 by omega), beq_ff (show b ≠ 201 by omega), beq_ff (show b ≠ 209 by omega), beq_ff (show b ≠ 258 by omega)]
  show (false || match xnth σ.2.1 (b - 392) with
    | some q => Nat.beq q.1 101
    | none => false) = false
  cases hq : xnth σ.2.1 (b - 392) with
  | none => rfl
  | some q =>
    obtain ⟨c, n⟩ := q
    show (false || Nat.beq c 101) = false
    rw [beq_ff (fun e => h.2 n (by rw [hq, e]))]
    rfl
theorem te_st_ag {σ τ : xS} (h : ag σ τ) : te_st σ.2.1 σ.1 τ.1 := by
  refine ⟨fun b hb => h.at fun k => tmp_nlg hb k, fun a ha => h.at fun k => ?_, h.sl rfl, h.sl rfl, h.sl rfl, h.sl rfl⟩
  have : a = 244 ∨ a = 341 ∨ a = 342 ∨ a = 343 ∨ a = 344 ∨ a = 345 ∨ a = 346 ∨ a = 347 ∨ a = 348 ∨ a = 349 ∨ a = 350 ∨ a = 351 ∨ a = 352 ∨ a = 353 ∨ a = 354 ∨ a = 355 ∨ a = 356 := by omega
  rcases this with rfl | rfl | rfl | rfl | rfl | rfl | rfl | rfl | rfl | rfl | rfl | rfl | rfl | rfl | rfl | rfl | rfl <;> rfl
theorem te_J_ag {σ τ : xS} (h : ag σ τ) (hJ : te_J σ.1 σ.2.1) : te_J τ.1 τ.2.1 := by
  rw [h.1]
  exact te_J_cg (te_st_ag h) hJ
theorem te_B_ag {σ τ : xS} (h : ag σ τ) {x F M T N : Nat} {cs : Nat → Nat} (hx : te_B σ.1 σ.2.1 x F M T N cs) : te_B τ.1 τ.2.1 x F M T N cs := by
  rw [h.1]
  exact te_B_cg (te_st_ag h) hx
theorem te_J_teF {σ τ : xS} (h : teF σ τ) (hJ : te_J σ.1 σ.2.1) : te_J τ.1 τ.2.1 := by
  rw [h.1]
  exact te_J_cg ⟨fun b hb => h.2.1 b (Or.inl hb.1), fun a ha => h.2.1 a (by omega), by rw [h.2.1 243 (by omega)], h.2.2 _ (by omega), h.2.2 _ (by omega), h.2.2 _ (by omega)⟩ hJ
/-! the terms in force on a day -/
def te_l (m : Nat → Nat → Int) (d : Int) : Nat → Int
  | 0 => -1
  | n + 1 => if m 343 n ≤ d then (n : Int) else te_l m d n
theorem te_l_lt {m : Nat → Nat → Int} {d : Int} : ∀ {n : Nat}, -1 ≤ te_l m d n ∧ te_l m d n < n
  | 0 => ⟨show (-1 : Int) ≤ -1 by decide, show (-1 : Int) < 0 by decide⟩
  | n + 1 => by
    have := te_l_lt (m := m) (d := d) (n := n)
    show -1 ≤ (if m 343 n ≤ d then (n : Int) else te_l m d n) ∧ (if m 343 n ≤ d then (n : Int) else te_l m d n) < ((n + 1 : Nat) : Int)
    split <;> omega
/-- which are in force on a day: -1 is none -/
def te_f (m : Nat → Nat → Int) (d : Int) : Int := te_l m d (m 305 49).toNat
section FORCE
variable {σ : xS}
theorem M_termsOn_4 (h49 : 0 ≤ σ.1 305 49 ∧ σ.1 305 49 ≤ 8) (d : Int) : ∀ (n t : Nat), t + n = (σ.1 305 49).toNat → X iM_termsOn 4 [(2, 305), (0, d), (0, te_l σ.1 d t), (0, (t : Int))] [] σ = some ((0, te_f σ.1 d), σ) := by
  intro n
  induction n with
  | zero =>
    intro t ht
    rw [qM_termsOn_4, if_neg (by omega)]
    unfold te_f
    rw [← ht]
    rfl
  | succ n ih =>
    intro t ht
    rw [qM_termsOn_4, if_pos (by omega), if_pos (xin_of (by omega) (by omega)), Int.toNat_natCast, xw_id (by omega) (by omega)]
    have k := ih (t + 1) (by omega)
    rw [show te_l σ.1 d (t + 1) = if σ.1 343 t ≤ d then (t : Int) else te_l σ.1 d t from rfl] at k
    by_cases c : d < σ.1 343 t
    · rw [if_pos c]
      rw [if_neg (by omega)] at k
      exact k
    · rw [if_neg c]
      rw [if_pos (by omega)] at k
      exact k
theorem M_termsOn (h49 : 0 ≤ σ.1 305 49 ∧ σ.1 305 49 ≤ 8) (d : Int) : X iM_termsOn 0 [(2, 305), (0, d), (9, 0), (9, 0)] [] σ = some ((0, te_f σ.1 d), σ) := by
  rw [qM_termsOn_0]
  exact M_termsOn_4 h49 d (σ.1 305 49).toNat 0 (by omega)
theorem te_f_lt (hJ : te_J σ.1 σ.2.1) (d : Int) : -1 ≤ te_f σ.1 d ∧ te_f σ.1 d < 8 ∧ (0 ≤ te_f σ.1 d → (te_f σ.1 d).toNat < (σ.1 305 49).toNat) := by
  have := te_l_lt (m := σ.1) (d := d) (n := (σ.1 305 49).toNat)
  have h2 := hJ.2.1
  unfold te_f
  omega
theorem C_inForce_7 (hJ : te_J σ.1 σ.2.1) (d : Int) : ∀ (n : Nat), n ≤ (σ.1 305 49).toNat → X iLedger_inForce 7 [(2, 243), (0, d), (0, (n : Int) - 1)] [] σ = some ((2, if te_l σ.1 d n < 0 then 0 else σ.1 244 (te_l σ.1 d n).toNat), σ) := by
  intro n
  induction n with
  | zero =>
    intro _
    rw [qLedger_inForce_7, if_pos (by decide)]
    rfl
  | succ n ih =>
    intro hn
    have h2 := hJ.2.1
    obtain ⟨hd, F, M, T, N, cs, hB⟩ := hJ.2.2.2.2 n (by omega)
    have hx : xin (((n + 1 : Nat) : Int) - 1) 8 := ⟨by omega, by omega⟩
    have e : (((n + 1 : Nat) : Int) - 1).toNat = n := by omega
    rw [qLedger_inForce_7, if_neg (by omega), if_pos hx, e, hB.2.1, xfld_new 0 hB.2.2.2.1.1.1 hB.2.2.2.1.1.2, xob_some, hB.2.2.1, xw_id (by omega) (by omega), if_pos hx, show te_l σ.1 d (n + 1) = if σ.1 343 n ≤ d then (n : Int) else te_l σ.1 d n from rfl]
    by_cases c : d < σ.1 343 n
    · rw [if_pos c, if_neg (show ¬ σ.1 343 n ≤ d by omega)]
      rw [show (((n + 1 : Nat) : Int) - 1 + -1) = (n : Int) - 1 by omega]
      exact ih (by omega)
    · rw [if_neg c, if_pos (show σ.1 343 n ≤ d by omega), if_neg (by omega), Int.toNat_natCast, hB.2.1]
theorem C_inForce (hJ : te_J σ.1 σ.2.1) (d : Int) : X iLedger_inForce 0 [(2, 243), (0, d), (9, 0)] [] σ = some ((2, if te_f σ.1 d < 0 then 0 else σ.1 244 (te_f σ.1 d).toNat), σ) := by
  have h2 := hJ.2.1
  rw [qLedger_inForce_0, hJ.1, xw_id (by omega) (by omega)]
  have := C_inForce_7 hJ d (σ.1 305 49).toNat (Nat.le_refl _)
  rw [show (((σ.1 305 49).toNat : Nat) : Int) = σ.1 305 49 by omega] at this
  exact this
end FORCE

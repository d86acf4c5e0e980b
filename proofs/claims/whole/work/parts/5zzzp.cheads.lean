/-! a statement, the class's heads -/
section STC
variable {B : Nat → Int} {n C : Nat} {A : Nat → Nat → Int} {F M S : Nat} {cs : Nat → Nat} {σ τ υ : xS} {j c c0 k q a : Nat} {f : Nat → Nat → Int} {kd : Int}
def swq : Nat → Int
  | 0 => 1
  | 1 => 2
  | 2 => 3
  | 3 => 19
  | 4 => 4
  | 5 => 5
  | 6 => 6
  | 14 => 16
  | 17 => 17
  | 18 => 18
  | 19 => 13
  | 20 => 14
  | 21 => 15
  | _ => 0
theorem kd_q : ∀ q, q < 32 → xisO xE1 σ ((2 + q : Nat) : Int) 50 = true ∧ xfld xE1 σ ((2 + q : Nat) : Int) 50 0 = some (q : Int) ∧ xag xE1 σ 41 q = swq q
  | 0, _ => ⟨rfl, rfl, rfl⟩
  | 1, _ => ⟨rfl, rfl, rfl⟩
  | 2, _ => ⟨rfl, rfl, rfl⟩
  | 3, _ => ⟨rfl, rfl, rfl⟩
  | 4, _ => ⟨rfl, rfl, rfl⟩
  | 5, _ => ⟨rfl, rfl, rfl⟩
  | 6, _ => ⟨rfl, rfl, rfl⟩
  | 7, _ => ⟨rfl, rfl, rfl⟩
  | 8, _ => ⟨rfl, rfl, rfl⟩
  | 9, _ => ⟨rfl, rfl, rfl⟩
  | 10, _ => ⟨rfl, rfl, rfl⟩
  | 11, _ => ⟨rfl, rfl, rfl⟩
  | 12, _ => ⟨rfl, rfl, rfl⟩
  | 13, _ => ⟨rfl, rfl, rfl⟩
  | 14, _ => ⟨rfl, rfl, rfl⟩
  | 15, _ => ⟨rfl, rfl, rfl⟩
  | 16, _ => ⟨rfl, rfl, rfl⟩
  | 17, _ => ⟨rfl, rfl, rfl⟩
  | 18, _ => ⟨rfl, rfl, rfl⟩
  | 19, _ => ⟨rfl, rfl, rfl⟩
  | 20, _ => ⟨rfl, rfl, rfl⟩
  | 21, _ => ⟨rfl, rfl, rfl⟩
  | 22, _ => ⟨rfl, rfl, rfl⟩
  | 23, _ => ⟨rfl, rfl, rfl⟩
  | 24, _ => ⟨rfl, rfl, rfl⟩
  | 25, _ => ⟨rfl, rfl, rfl⟩
  | 26, _ => ⟨rfl, rfl, rfl⟩
  | 27, _ => ⟨rfl, rfl, rfl⟩
  | 28, _ => ⟨rfl, rfl, rfl⟩
  | 29, _ => ⟨rfl, rfl, rfl⟩
  | 30, _ => ⟨rfl, rfl, rfl⟩
  | 31, _ => ⟨rfl, rfl, rfl⟩
  | q + 32, h => by omega
theorem swq_no : ∀ q, q < 32 → 7 ≤ q → ¬ swq q = 1 ∧ ¬ swq q = 2 ∧ ¬ swq q = 3 ∧ ¬ swq q = 4 ∧ ¬ swq q = 5 ∧ ¬ swq q = 6 ∧ ¬ swq q = 19 := by decide
theorem C_st0 (hr : rst σ.1 B n C 0 j) (hw : ∀ q, q < 7 → ¬ tW B n j (kcd q)) : ∃ τ k, X iReader_readStatement 0 [(2, 297), (9, 0)] [] σ = some ((2, 0), τ) ∧ hg σ τ k ∧ k ≤ 1 ∧ rft τ.1 B n j := by
  obtain ⟨f1, f2, f3, f4⟩ := rst_f hr
  have ek : σ.1 297 9 = t_k B n j := hr.2.1.2.2.2
  rcases t_k_cases (B := B) (n := n) (j := j) with ⟨h1, h2⟩ | ⟨q, hq, h1, h2⟩
  · exact ⟨_, 0, by rw [qReader_readStatement_0, ek, if_pos h1, if_pos hr.2.2.2, if_pos f2, f1], hg_rf f3, by decide, f4⟩
  · have hq7 : 7 ≤ q := by
      by_cases h : q < 7
      · exact absurd h2 (hw q h)
      · omega
    have n0 := nn_ge (σ := σ)
    have e9 : (xal xE1 σ 7 8).1 297 9 = ((2 + q : Nat) : Int) := by
      show cond (Nat.beq 297 (xnew xE1 σ)) 0 (σ.1 297 9) = _
      rw [beq_ff (by rw [nnx]; omega)]
      exact ek.trans h1
    have hr1 : rst (nnd σ ((2 + q : Nat) : Int)).1 B n C 0 j := rst_cg hr fun x hx => nnd_m (by omega)
    have e92 : (nnd σ ((2 + q : Nat) : Int)).1 297 9 = ((2 + q : Nat) : Int) := by rw [nnd_m (by omega)]; exact ek.trans h1
    obtain ⟨k1, k2, k3⟩ := kd_q (σ := nnd σ ((2 + q : Nat) : Int)) q hq
    obtain ⟨g1, g2, g3, g4⟩ := rst_f hr1
    obtain ⟨n1, n2, n3, n4, n5, n6, n7⟩ := swq_no q hq hq7
    refine ⟨_, 1 + 0, ?_, hg_tr (hg_nd _) (hg_rf g3), by decide, g4⟩
    rw [qReader_readStatement_0, ek, h1, if_neg (by omega), e9, nn_run, e92, k1, cnd_t, k2, xob_some, if_pos (xin_of (by omega) (by omega)), Int.toNat_natCast, k3, if_neg n1, if_neg n2, if_neg n3, if_neg n4, if_neg n5, if_neg n6, if_neg n7, if_pos hr1.2.2.2, if_pos g2, g1]
    simp only [ite_self]
theorem C_st0_h (hr : rst σ.1 B n C 0 j) (hw : tW B n j (kcd 0)) : ∃ τ, X iReader_readStatement 0 [(2, 297), (9, 0)] [] σ = X iReader_readStatement 128 [(2, 297), (2, ((nn σ : Nat) : Int))] [] τ ∧ rst τ.1 B n C 0 (j + 1) ∧ hg σ τ 1 ∧ nd τ.2.1 (nn σ) ∧ ∀ i, τ.1 (nn σ) i = if i = 0 then 2 else if i = 4 then 108 else if i = 1 then -1 else 0 := by
  have ek : σ.1 297 9 = 2 := hr.2.1.2.2.2.trans ((t_k_iff (q := 0) (by decide)).mpr hw)
  have n0 := nn_ge (σ := σ)
  have e9 : (xal xE1 σ 7 8).1 297 9 = 2 := by
    show cond (Nat.beq 297 (xnew xE1 σ)) 0 (σ.1 297 9) = _
    rw [beq_ff (by rw [nnx]; omega)]
    exact ek
  have hr1 : rst (nnd σ 2).1 B n C 0 j := rst_cg hr fun x hx => nnd_m (by omega)
  have e92 : (nnd σ 2).1 297 9 = 2 := by rw [nnd_m (by omega)]; exact ek
  have k1 : xisO xE1 (nnd σ 2) 2 50 = true := (kd_q (σ := nnd σ 2) 0 (by decide)).1
  have k2 : xfld xE1 (nnd σ 2) 2 50 0 = some 0 := (kd_q (σ := nnd σ 2) 0 (by decide)).2.1
  have k3 : xag xE1 (nnd σ 2) 41 0 = 1 := (kd_q (σ := nnd σ 2) 0 (by decide)).2.2
  obtain ⟨τ, a1, a2, a3⟩ := C_step hr1 (by rw [hw.1]; decide)
  refine ⟨τ, ?_, a2, hg_tr (hg_nd 2) (hg_rf a3), by rw [a3.1]; exact nnd_nd (k := 2), fun i => by rw [a3.2.1 _ (by omega), nnd_v]⟩
  rw [qReader_readStatement_0, ek, if_neg (show ¬ (2 : Int) = 0 by decide), e9, nn_run, e92, k1, cnd_t, k2, xob_some, if_pos (show xin 0 38 from xin_of (by decide) (by decide)), show ((0 : Int)).toNat = 0 from rfl, k3, if_pos (show (1 : Int) = 1 from rfl), a1, Option.bind_some, nnx]
theorem C_st1_h (hr : rst σ.1 B n C 0 j) (hw : tW B n j (kcd 1)) : ∃ τ, X iReader_readStatement 0 [(2, 297), (9, 0)] [] σ = X iReader_readStatement 140 [(2, 297), (2, ((nn σ : Nat) : Int))] [] τ ∧ rst τ.1 B n C 0 (j + 1) ∧ hg σ τ 1 ∧ nd τ.2.1 (nn σ) ∧ ∀ i, τ.1 (nn σ) i = if i = 0 then 3 else if i = 4 then 108 else if i = 1 then -1 else 0 := by
  have ek : σ.1 297 9 = 3 := hr.2.1.2.2.2.trans ((t_k_iff (q := 1) (by decide)).mpr hw)
  have n0 := nn_ge (σ := σ)
  have e9 : (xal xE1 σ 7 8).1 297 9 = 3 := by
    show cond (Nat.beq 297 (xnew xE1 σ)) 0 (σ.1 297 9) = _
    rw [beq_ff (by rw [nnx]; omega)]
    exact ek
  have hr1 : rst (nnd σ 3).1 B n C 0 j := rst_cg hr fun x hx => nnd_m (by omega)
  have e92 : (nnd σ 3).1 297 9 = 3 := by rw [nnd_m (by omega)]; exact ek
  have k1 : xisO xE1 (nnd σ 3) 3 50 = true := (kd_q (σ := nnd σ 3) 1 (by decide)).1
  have k2 : xfld xE1 (nnd σ 3) 3 50 0 = some 1 := (kd_q (σ := nnd σ 3) 1 (by decide)).2.1
  have k3 : xag xE1 (nnd σ 3) 41 1 = 2 := (kd_q (σ := nnd σ 3) 1 (by decide)).2.2
  obtain ⟨τ, a1, a2, a3⟩ := C_step hr1 (by rw [hw.1]; decide)
  refine ⟨τ, ?_, a2, hg_tr (hg_nd 3) (hg_rf a3), by rw [a3.1]; exact nnd_nd (k := 3), fun i => by rw [a3.2.1 _ (by omega), nnd_v]⟩
  rw [qReader_readStatement_0, ek, if_neg (show ¬ (3 : Int) = 0 by decide), e9, nn_run, e92, k1, cnd_t, k2, xob_some, if_pos (show xin 1 38 from xin_of (by decide) (by decide)), show ((1 : Int)).toNat = 1 from rfl, k3, if_neg (show ¬ (2 : Int) = 1 by decide), if_pos (show (2 : Int) = 2 from rfl), a1, Option.bind_some, nnx]
theorem C_st2_h (hr : rst σ.1 B n C 0 j) (hw : tW B n j (kcd 2)) : ∃ τ, X iReader_readStatement 0 [(2, 297), (9, 0)] [] σ = X iReader_readStatement 167 [(2, 297), (2, ((nn σ : Nat) : Int))] [] τ ∧ rst τ.1 B n C 0 (j + 1) ∧ hg σ τ 1 ∧ nd τ.2.1 (nn σ) ∧ ∀ i, τ.1 (nn σ) i = if i = 0 then 4 else if i = 4 then 108 else if i = 1 then -1 else 0 := by
  have ek : σ.1 297 9 = 4 := hr.2.1.2.2.2.trans ((t_k_iff (q := 2) (by decide)).mpr hw)
  have n0 := nn_ge (σ := σ)
  have e9 : (xal xE1 σ 7 8).1 297 9 = 4 := by
    show cond (Nat.beq 297 (xnew xE1 σ)) 0 (σ.1 297 9) = _
    rw [beq_ff (by rw [nnx]; omega)]
    exact ek
  have hr1 : rst (nnd σ 4).1 B n C 0 j := rst_cg hr fun x hx => nnd_m (by omega)
  have e92 : (nnd σ 4).1 297 9 = 4 := by rw [nnd_m (by omega)]; exact ek
  have k1 : xisO xE1 (nnd σ 4) 4 50 = true := (kd_q (σ := nnd σ 4) 2 (by decide)).1
  have k2 : xfld xE1 (nnd σ 4) 4 50 0 = some 2 := (kd_q (σ := nnd σ 4) 2 (by decide)).2.1
  have k3 : xag xE1 (nnd σ 4) 41 2 = 3 := (kd_q (σ := nnd σ 4) 2 (by decide)).2.2
  obtain ⟨τ, a1, a2, a3⟩ := C_step hr1 (by rw [hw.1]; decide)
  refine ⟨τ, ?_, a2, hg_tr (hg_nd 4) (hg_rf a3), by rw [a3.1]; exact nnd_nd (k := 4), fun i => by rw [a3.2.1 _ (by omega), nnd_v]⟩
  rw [qReader_readStatement_0, ek, if_neg (show ¬ (4 : Int) = 0 by decide), e9, nn_run, e92, k1, cnd_t, k2, xob_some, if_pos (show xin 2 38 from xin_of (by decide) (by decide)), show ((2 : Int)).toNat = 2 from rfl, k3, if_neg (show ¬ (3 : Int) = 1 by decide), if_neg (show ¬ (3 : Int) = 2 by decide), if_pos (show (3 : Int) = 3 from rfl), a1, Option.bind_some, nnx]
theorem C_st3_h (hr : rst σ.1 B n C 0 j) (hw : tW B n j (kcd 3)) : ∃ τ, X iReader_readStatement 0 [(2, 297), (9, 0)] [] σ = X iReader_readStatement 179 [(2, 297), (2, ((nn σ : Nat) : Int))] [] τ ∧ rst τ.1 B n C 0 (j + 1) ∧ hg σ τ 1 ∧ nd τ.2.1 (nn σ) ∧ ∀ i, τ.1 (nn σ) i = if i = 0 then 5 else if i = 4 then 108 else if i = 1 then -1 else 0 := by
  have ek : σ.1 297 9 = 5 := hr.2.1.2.2.2.trans ((t_k_iff (q := 3) (by decide)).mpr hw)
  have n0 := nn_ge (σ := σ)
  have e9 : (xal xE1 σ 7 8).1 297 9 = 5 := by
    show cond (Nat.beq 297 (xnew xE1 σ)) 0 (σ.1 297 9) = _
    rw [beq_ff (by rw [nnx]; omega)]
    exact ek
  have hr1 : rst (nnd σ 5).1 B n C 0 j := rst_cg hr fun x hx => nnd_m (by omega)
  have e92 : (nnd σ 5).1 297 9 = 5 := by rw [nnd_m (by omega)]; exact ek
  have k1 : xisO xE1 (nnd σ 5) 5 50 = true := (kd_q (σ := nnd σ 5) 3 (by decide)).1
  have k2 : xfld xE1 (nnd σ 5) 5 50 0 = some 3 := (kd_q (σ := nnd σ 5) 3 (by decide)).2.1
  have k3 : xag xE1 (nnd σ 5) 41 3 = 19 := (kd_q (σ := nnd σ 5) 3 (by decide)).2.2
  obtain ⟨τ, a1, a2, a3⟩ := C_step hr1 (by rw [hw.1]; decide)
  refine ⟨τ, ?_, a2, hg_tr (hg_nd 5) (hg_rf a3), by rw [a3.1]; exact nnd_nd (k := 5), fun i => by rw [a3.2.1 _ (by omega), nnd_v]⟩
  rw [qReader_readStatement_0, ek, if_neg (show ¬ (5 : Int) = 0 by decide), e9, nn_run, e92, k1, cnd_t, k2, xob_some, if_pos (show xin 3 38 from xin_of (by decide) (by decide)), show ((3 : Int)).toNat = 3 from rfl, k3, if_neg (show ¬ (19 : Int) = 1 by decide), if_neg (show ¬ (19 : Int) = 2 by decide), if_neg (show ¬ (19 : Int) = 3 by decide), if_neg (show ¬ (19 : Int) = 4 by decide), if_neg (show ¬ (19 : Int) = 5 by decide), if_neg (show ¬ (19 : Int) = 6 by decide), if_neg (show ¬ (19 : Int) = 7 by decide), if_neg (show ¬ (19 : Int) = 8 by decide), if_neg (show ¬ (19 : Int) = 9 by decide), if_neg (show ¬ (19 : Int) = 10 by decide), if_neg (show ¬ (19 : Int) = 11 by decide), if_neg (show ¬ (19 : Int) = 12 by decide), if_neg (show ¬ (19 : Int) = 13 by decide), if_neg (show ¬ (19 : Int) = 14 by decide), if_neg (show ¬ (19 : Int) = 15 by decide), if_neg (show ¬ (19 : Int) = 16 by decide), if_neg (show ¬ (19 : Int) = 17 by decide), if_neg (show ¬ (19 : Int) = 18 by decide), if_pos (show (19 : Int) = 19 from rfl), a1, Option.bind_some, nnx]
theorem C_st4_h (hr : rst σ.1 B n C 0 j) (hw : tW B n j (kcd 4)) : ∃ τ, X iReader_readStatement 0 [(2, 297), (9, 0)] [] σ = X iReader_readStatement 186 [(2, 297), (2, ((nn σ : Nat) : Int))] [] τ ∧ rst τ.1 B n C 0 (j + 1) ∧ hg σ τ 1 ∧ nd τ.2.1 (nn σ) ∧ ∀ i, τ.1 (nn σ) i = if i = 0 then 6 else if i = 4 then 108 else if i = 1 then -1 else 0 := by
  have ek : σ.1 297 9 = 6 := hr.2.1.2.2.2.trans ((t_k_iff (q := 4) (by decide)).mpr hw)
  have n0 := nn_ge (σ := σ)
  have e9 : (xal xE1 σ 7 8).1 297 9 = 6 := by
    show cond (Nat.beq 297 (xnew xE1 σ)) 0 (σ.1 297 9) = _
    rw [beq_ff (by rw [nnx]; omega)]
    exact ek
  have hr1 : rst (nnd σ 6).1 B n C 0 j := rst_cg hr fun x hx => nnd_m (by omega)
  have e92 : (nnd σ 6).1 297 9 = 6 := by rw [nnd_m (by omega)]; exact ek
  have k1 : xisO xE1 (nnd σ 6) 6 50 = true := (kd_q (σ := nnd σ 6) 4 (by decide)).1
  have k2 : xfld xE1 (nnd σ 6) 6 50 0 = some 4 := (kd_q (σ := nnd σ 6) 4 (by decide)).2.1
  have k3 : xag xE1 (nnd σ 6) 41 4 = 4 := (kd_q (σ := nnd σ 6) 4 (by decide)).2.2
  obtain ⟨τ, a1, a2, a3⟩ := C_step hr1 (by rw [hw.1]; decide)
  refine ⟨τ, ?_, a2, hg_tr (hg_nd 6) (hg_rf a3), by rw [a3.1]; exact nnd_nd (k := 6), fun i => by rw [a3.2.1 _ (by omega), nnd_v]⟩
  rw [qReader_readStatement_0, ek, if_neg (show ¬ (6 : Int) = 0 by decide), e9, nn_run, e92, k1, cnd_t, k2, xob_some, if_pos (show xin 4 38 from xin_of (by decide) (by decide)), show ((4 : Int)).toNat = 4 from rfl, k3, if_neg (show ¬ (4 : Int) = 1 by decide), if_neg (show ¬ (4 : Int) = 2 by decide), if_neg (show ¬ (4 : Int) = 3 by decide), if_pos (show (4 : Int) = 4 from rfl), a1, Option.bind_some, nnx]
theorem C_st5_h (hr : rst σ.1 B n C 0 j) (hw : tW B n j (kcd 5)) : ∃ τ, X iReader_readStatement 0 [(2, 297), (9, 0)] [] σ = X iReader_readStatement 201 [(2, 297), (2, ((nn σ : Nat) : Int))] [] τ ∧ rst τ.1 B n C 0 (j + 1) ∧ hg σ τ 1 ∧ nd τ.2.1 (nn σ) ∧ ∀ i, τ.1 (nn σ) i = if i = 0 then 7 else if i = 4 then 108 else if i = 1 then -1 else 0 := by
  have ek : σ.1 297 9 = 7 := hr.2.1.2.2.2.trans ((t_k_iff (q := 5) (by decide)).mpr hw)
  have n0 := nn_ge (σ := σ)
  have e9 : (xal xE1 σ 7 8).1 297 9 = 7 := by
    show cond (Nat.beq 297 (xnew xE1 σ)) 0 (σ.1 297 9) = _
    rw [beq_ff (by rw [nnx]; omega)]
    exact ek
  have hr1 : rst (nnd σ 7).1 B n C 0 j := rst_cg hr fun x hx => nnd_m (by omega)
  have e92 : (nnd σ 7).1 297 9 = 7 := by rw [nnd_m (by omega)]; exact ek
  have k1 : xisO xE1 (nnd σ 7) 7 50 = true := (kd_q (σ := nnd σ 7) 5 (by decide)).1
  have k2 : xfld xE1 (nnd σ 7) 7 50 0 = some 5 := (kd_q (σ := nnd σ 7) 5 (by decide)).2.1
  have k3 : xag xE1 (nnd σ 7) 41 5 = 5 := (kd_q (σ := nnd σ 7) 5 (by decide)).2.2
  obtain ⟨τ, a1, a2, a3⟩ := C_step hr1 (by rw [hw.1]; decide)
  refine ⟨τ, ?_, a2, hg_tr (hg_nd 7) (hg_rf a3), by rw [a3.1]; exact nnd_nd (k := 7), fun i => by rw [a3.2.1 _ (by omega), nnd_v]⟩
  rw [qReader_readStatement_0, ek, if_neg (show ¬ (7 : Int) = 0 by decide), e9, nn_run, e92, k1, cnd_t, k2, xob_some, if_pos (show xin 5 38 from xin_of (by decide) (by decide)), show ((5 : Int)).toNat = 5 from rfl, k3, if_neg (show ¬ (5 : Int) = 1 by decide), if_neg (show ¬ (5 : Int) = 2 by decide), if_neg (show ¬ (5 : Int) = 3 by decide), if_neg (show ¬ (5 : Int) = 4 by decide), if_pos (show (5 : Int) = 5 from rfl), a1, Option.bind_some, nnx]
theorem C_st6_h (hr : rst σ.1 B n C 0 j) (hw : tW B n j (kcd 6)) : ∃ τ, X iReader_readStatement 0 [(2, 297), (9, 0)] [] σ = X iReader_readStatement 216 [(2, 297), (2, ((nn σ : Nat) : Int))] [] τ ∧ rst τ.1 B n C 0 (j + 1) ∧ hg σ τ 1 ∧ nd τ.2.1 (nn σ) ∧ ∀ i, τ.1 (nn σ) i = if i = 0 then 8 else if i = 4 then 108 else if i = 1 then -1 else 0 := by
  have ek : σ.1 297 9 = 8 := hr.2.1.2.2.2.trans ((t_k_iff (q := 6) (by decide)).mpr hw)
  have n0 := nn_ge (σ := σ)
  have e9 : (xal xE1 σ 7 8).1 297 9 = 8 := by
    show cond (Nat.beq 297 (xnew xE1 σ)) 0 (σ.1 297 9) = _
    rw [beq_ff (by rw [nnx]; omega)]
    exact ek
  have hr1 : rst (nnd σ 8).1 B n C 0 j := rst_cg hr fun x hx => nnd_m (by omega)
  have e92 : (nnd σ 8).1 297 9 = 8 := by rw [nnd_m (by omega)]; exact ek
  have k1 : xisO xE1 (nnd σ 8) 8 50 = true := (kd_q (σ := nnd σ 8) 6 (by decide)).1
  have k2 : xfld xE1 (nnd σ 8) 8 50 0 = some 6 := (kd_q (σ := nnd σ 8) 6 (by decide)).2.1
  have k3 : xag xE1 (nnd σ 8) 41 6 = 6 := (kd_q (σ := nnd σ 8) 6 (by decide)).2.2
  obtain ⟨τ, a1, a2, a3⟩ := C_step hr1 (by rw [hw.1]; decide)
  refine ⟨τ, ?_, a2, hg_tr (hg_nd 8) (hg_rf a3), by rw [a3.1]; exact nnd_nd (k := 8), fun i => by rw [a3.2.1 _ (by omega), nnd_v]⟩
  rw [qReader_readStatement_0, ek, if_neg (show ¬ (8 : Int) = 0 by decide), e9, nn_run, e92, k1, cnd_t, k2, xob_some, if_pos (show xin 6 38 from xin_of (by decide) (by decide)), show ((6 : Int)).toNat = 6 from rfl, k3, if_neg (show ¬ (6 : Int) = 1 by decide), if_neg (show ¬ (6 : Int) = 2 by decide), if_neg (show ¬ (6 : Int) = 3 by decide), if_neg (show ¬ (6 : Int) = 4 by decide), if_neg (show ¬ (6 : Int) = 5 by decide), if_pos (show (6 : Int) = 6 from rfl), a1, Option.bind_some, nnx]
end STC

/-! heads of statements, the reference -/
section MHD
variable {B : Nat → Int} {n C : Nat} {A : Nat → Nat → Int} {F M S : Nat} {σ τ υ : xS} {e : Int} {j c c0 : Nat} {f : Nat → Nat → Int} {kd : Int}
theorem xup_xup {g : Nat → Int} {i : Nat} {x y : Int} : xup (xup g i x) i y = xup g i y := by
  funext r
  by_cases h : r = i
  · rw [h, xup_eq, xup_eq]
  · rw [xup_ne h, xup_ne h, xup_ne h]
theorem tq_eqA {A' : Nat → Nat → Int} (h : tq B n A F S σ.1 e j c f) (he : ∀ r, r < 7 → A r = A' r) : tq B n A' F S σ.1 e j c f := ⟨h.1, h.2.1, h.2.2.1, fun q hq => (h.2.2.2.1 q hq).trans (he q hq), h.2.2.2.2⟩
/-- a statement's arrays behind its head -/
def hdA (A : Nat → Nat → Int) (S : Nat) (c kd a b : Int) (nm : Option Int) : Nat → Nat → Int := fun r => if r = 0 then xup (A 0) S kd else if r = 1 then xup (A 1) S a else if r = 2 then xup (A 2) S b else if r = 3 then xup (A 3) S (-1) else if r = 4 then xup (A 4) S c else if r = 6 then (match nm with | none => A 6 | some w => xup (A 6) S w) else A r
theorem r7 {P : Nat → Prop} (h : P 0 ∧ P 1 ∧ P 2 ∧ P 3 ∧ P 4 ∧ P 5 ∧ P 6) : ∀ r, r < 7 → P r
  | 0, _ => h.1
  | 1, _ => h.2.1
  | 2, _ => h.2.2.1
  | 3, _ => h.2.2.2.1
  | 4, _ => h.2.2.2.2.1
  | 5, _ => h.2.2.2.2.2.1
  | 6, _ => h.2.2.2.2.2.2
  | r + 7, h => absurd h (by omega)
/-- what every statement begins with -/
noncomputable def p4 (S : Nat) (σ : xS) : xS := xs (xs (xs (xs σ 345 S (-1)) 346 S (-1)) 347 S (-1)) 348 S (σ.1 305 64)
theorem p4_5 : (p4 S σ).1 305 = σ.1 305 := by
  unfold p4
  rw [xs_ne (by decide), xs_ne (by decide), xs_ne (by decide), xs_ne (by decide)]
theorem tq_p4 (h : tq B n A F S σ.1 e j c f) : ∃ A', tq B n A' F S (p4 S σ).1 e j c f ∧ (A' 0 = A 0 ∧ A' 1 = xup (A 1) S (-1) ∧ A' 2 = xup (A 2) S (-1) ∧ A' 3 = xup (A 3) S (-1) ∧ A' 4 = xup (A 4) S (c : Int) ∧ A' 5 = A 5 ∧ A' 6 = A 6) ∧ fq F c0 σ (p4 S σ) := by
  have hS := h.2.2.2.2.2.2
  have := tq_A (tq_A (tq_A (tq_A h (q := 1) (by decide) S (-1)) (q := 2) (by decide) S (-1)) (q := 3) (by decide) S (-1)) (q := 4) (by decide) S (c : Int)
  unfold p4
  rw [h.2.2.1.1]
  exact ⟨_, this, ⟨rfl, rfl, rfl, rfl, rfl, rfl, rfl⟩, fq_tr (fq_tr (fq_tr (fq_A (q := 1) (by decide) hS.1 _) (fq_A (q := 2) (by decide) hS.1 _)) (fq_A (q := 3) (by decide) hS.1 _)) (fq_A (q := 4) (by decide) hS.1 _)⟩
theorem tq_hd (h : tq B n A F S σ.1 e j c f) (kd : Int) : tq B n (hdA A S c kd (-1) (-1) none) F S (xs (p4 S σ) 344 S kd).1 e j c f ∧ fq F c0 σ (xs (p4 S σ) 344 S kd) := by
  have hS := h.2.2.2.2.2.2
  obtain ⟨A', h1, ⟨a0, a1, a2, a3, a4, a5, a6⟩, h3⟩ := tq_p4 (c0 := c0) h
  have h2 := tq_A h1 (q := 0) (by decide) S kd
  refine ⟨tq_eqA h2 (r7 ⟨?_, a1, a2, a3, a4, a5, a6⟩), fq_tr h3 (fq_A (q := 0) (by decide) hS.1 _)⟩
  show xup (A' 0) S kd = xup (A 0) S kd
  rw [a0]
theorem tq_x (h : tq B n A F S σ.1 e j c f) : xin (S : Int) 200 := by
  have hS := h.2.2.2.2.2.2
  exact xin_of (by omega) (by omega)

theorem M_h0 (h : tq B n A F S σ.1 (-1) j c f) (hw : tW B n j 8903) : ∃ τ, X iM_tells 0 [(2, 305), (0, (S : Int))] [] σ = X iM_tells 52 [(2, 305), (0, (S : Int))] [] τ ∧ tq B n (hdA A S c 0 (-1) (-1) none) F S τ.1 (-1) (j + 1) c f ∧ fq F c0 σ τ := by
  have hx := tq_x h
  obtain ⟨h1, h2⟩ := tk_W h.1.2 hw
  have g1 : (p4 S σ).1 305 71 = 1 := by rw [p4_5]; exact h1
  have g2 : (p4 S σ).1 305 73 = 8903 := by rw [p4_5]; exact h2
  obtain ⟨y1, y2⟩ := tq_hd (c0 := c0) h 0
  obtain ⟨τ, k1, k2, k3⟩ := tq_next (c0 := c0) y1
  refine ⟨τ, ?_, k2, fq_tr y2 k3⟩
  rw [qM_tells_0, if_pos hx, if_pos hx, if_pos hx, if_pos hx, h1, h2, Int.toNat_natCast, if_pos (show (1 : Int) = 1 from rfl), if_pos (show (8903 : Int) = 8903 from rfl), if_pos hx]
  show (X iM_next 0 [(2, 305), (9, 0)] [] (xs (p4 S σ) 344 S 0)).bind _ = _
  rw [k1, Option.bind_some]
theorem M_h1 (h : tq B n A F S σ.1 (-1) j c f) (hw : tW B n j 8863997) : ∃ τ, X iM_tells 0 [(2, 305), (0, (S : Int))] [] σ = X iM_tells 116 [(2, 305), (0, (S : Int))] [] τ ∧ tq B n (hdA A S c 1 (-1) (-1) none) F S τ.1 (-1) (j + 1) c f ∧ fq F c0 σ τ := by
  have hx := tq_x h
  obtain ⟨h1, h2⟩ := tk_W h.1.2 hw
  have g1 : (p4 S σ).1 305 71 = 1 := by rw [p4_5]; exact h1
  have g2 : (p4 S σ).1 305 73 = 8863997 := by rw [p4_5]; exact h2
  obtain ⟨y1, y2⟩ := tq_hd (c0 := c0) h 1
  obtain ⟨τ, k1, k2, k3⟩ := tq_next (c0 := c0) y1
  refine ⟨τ, ?_, k2, fq_tr y2 k3⟩
  rw [qM_tells_0, if_pos hx, if_pos hx, if_pos hx, if_pos hx, h1, h2, Int.toNat_natCast, if_pos (show (1 : Int) = 1 from rfl), if_neg (show ¬ (8863997 : Int) = 8903 by decide), if_pos (show (1 : Int) = 1 from rfl), if_pos (show (8863997 : Int) = 8863997 from rfl), if_pos hx]
  show (X iM_next 0 [(2, 305), (9, 0)] [] (xs (p4 S σ) 344 S 1)).bind _ = _
  rw [k1, Option.bind_some]
theorem M_h2 (h : tq B n A F S σ.1 (-1) j c f) (hw : tW B n j 247663) : ∃ τ, X iM_tells 0 [(2, 305), (0, (S : Int))] [] σ = X iM_tells 158 [(2, 305), (0, (S : Int))] [] τ ∧ tq B n (hdA A S c 2 (-1) (-1) none) F S τ.1 (-1) (j + 1) c f ∧ fq F c0 σ τ := by
  have hx := tq_x h
  obtain ⟨h1, h2⟩ := tk_W h.1.2 hw
  have g1 : (p4 S σ).1 305 71 = 1 := by rw [p4_5]; exact h1
  have g2 : (p4 S σ).1 305 73 = 247663 := by rw [p4_5]; exact h2
  obtain ⟨y1, y2⟩ := tq_hd (c0 := c0) h 2
  obtain ⟨τ, k1, k2, k3⟩ := tq_next (c0 := c0) y1
  refine ⟨τ, ?_, k2, fq_tr y2 k3⟩
  rw [qM_tells_0, if_pos hx, if_pos hx, if_pos hx, if_pos hx, h1, h2, Int.toNat_natCast, if_pos (show (1 : Int) = 1 from rfl), if_neg (show ¬ (247663 : Int) = 8903 by decide), if_pos (show (1 : Int) = 1 from rfl), if_neg (show ¬ (247663 : Int) = 8863997 by decide), if_pos (show (1 : Int) = 1 from rfl), if_pos (show (247663 : Int) = 247663 from rfl)]
  show X iM_tells 144 [(2, 305), (0, (S : Int))] [(0, 1)] (p4 S σ) = _
  rw [qM_tells_144, if_neg (show ¬ (1 : Int) = 0 by decide), if_pos hx, Int.toNat_natCast, k1, Option.bind_some]
theorem M_h3 (h : tq B n A F S σ.1 (-1) j c f) (hw : tW B n j 261338243) : ∃ τ, X iM_tells 0 [(2, 305), (0, (S : Int))] [] σ = X iM_tells 251 [(2, 305), (0, (S : Int))] [] τ ∧ tq B n (hdA A S c 3 (-1) (-1) none) F S τ.1 (-1) (j + 1) c f ∧ fq F c0 σ τ := by
  have hx := tq_x h
  obtain ⟨h1, h2⟩ := tk_W h.1.2 hw
  have g1 : (p4 S σ).1 305 71 = 1 := by rw [p4_5]; exact h1
  have g2 : (p4 S σ).1 305 73 = 261338243 := by rw [p4_5]; exact h2
  obtain ⟨y1, y2⟩ := tq_hd (c0 := c0) h 3
  obtain ⟨τ, k1, k2, k3⟩ := tq_next (c0 := c0) y1
  refine ⟨τ, ?_, k2, fq_tr y2 k3⟩
  rw [qM_tells_0, if_pos hx, if_pos hx, if_pos hx, if_pos hx, h1, h2, Int.toNat_natCast, if_pos (show (1 : Int) = 1 from rfl), if_neg (show ¬ (261338243 : Int) = 8903 by decide), if_pos (show (1 : Int) = 1 from rfl), if_neg (show ¬ (261338243 : Int) = 8863997 by decide), if_pos (show (1 : Int) = 1 from rfl), if_neg (show ¬ (261338243 : Int) = 247663 by decide)]
  show X iM_tells 144 [(2, 305), (0, (S : Int))] [(0, 0)] (p4 S σ) = _
  rw [qM_tells_144, if_pos (show (0 : Int) = 0 from rfl), g1, g2, if_pos (show (1 : Int) = 1 from rfl), if_pos (show (261338243 : Int) = 261338243 from rfl), qM_tells_237, if_neg (show ¬ (1 : Int) = 0 by decide), if_pos hx, Int.toNat_natCast, k1, Option.bind_some]
theorem M_h4 (h : tq B n A F S σ.1 (-1) j c f) (hw : tW B n j 3288323) : ∃ τ, X iM_tells 0 [(2, 305), (0, (S : Int))] [] σ = X iM_tells 275 [(2, 305), (0, (S : Int))] [] τ ∧ tq B n (hdA A S c 4 (-1) (-1) none) F S τ.1 (-1) (j + 1) c f ∧ fq F c0 σ τ := by
  have hx := tq_x h
  obtain ⟨h1, h2⟩ := tk_W h.1.2 hw
  have g1 : (p4 S σ).1 305 71 = 1 := by rw [p4_5]; exact h1
  have g2 : (p4 S σ).1 305 73 = 3288323 := by rw [p4_5]; exact h2
  obtain ⟨y1, y2⟩ := tq_hd (c0 := c0) h 4
  obtain ⟨τ, k1, k2, k3⟩ := tq_next (c0 := c0) y1
  refine ⟨τ, ?_, k2, fq_tr y2 k3⟩
  rw [qM_tells_0, if_pos hx, if_pos hx, if_pos hx, if_pos hx, h1, h2, Int.toNat_natCast, if_pos (show (1 : Int) = 1 from rfl), if_neg (show ¬ (3288323 : Int) = 8903 by decide), if_pos (show (1 : Int) = 1 from rfl), if_neg (show ¬ (3288323 : Int) = 8863997 by decide), if_pos (show (1 : Int) = 1 from rfl), if_neg (show ¬ (3288323 : Int) = 247663 by decide)]
  show X iM_tells 144 [(2, 305), (0, (S : Int))] [(0, 0)] (p4 S σ) = _
  rw [qM_tells_144, if_pos (show (0 : Int) = 0 from rfl), g1, g2, if_pos (show (1 : Int) = 1 from rfl), if_neg (show ¬ (3288323 : Int) = 261338243 by decide), qM_tells_237, if_pos (show (0 : Int) = 0 from rfl), g1, g2, if_pos (show (1 : Int) = 1 from rfl), if_pos (show (3288323 : Int) = 3288323 from rfl), qM_tells_261, if_neg (show ¬ (1 : Int) = 0 by decide), if_pos hx, Int.toNat_natCast, k1, Option.bind_some]
theorem M_h5 (h : tq B n A F S σ.1 (-1) j c f) (hw : tW B n j 9744) : ∃ τ, X iM_tells 0 [(2, 305), (0, (S : Int))] [] σ = X iM_tells 326 [(2, 305), (0, (S : Int))] [] τ ∧ tq B n (hdA A S c 5 (-1) (-1) none) F S τ.1 (-1) (j + 1) c f ∧ fq F c0 σ τ := by
  have hx := tq_x h
  obtain ⟨h1, h2⟩ := tk_W h.1.2 hw
  have g1 : (p4 S σ).1 305 71 = 1 := by rw [p4_5]; exact h1
  have g2 : (p4 S σ).1 305 73 = 9744 := by rw [p4_5]; exact h2
  obtain ⟨y1, y2⟩ := tq_hd (c0 := c0) h 5
  obtain ⟨τ, k1, k2, k3⟩ := tq_next (c0 := c0) y1
  refine ⟨τ, ?_, k2, fq_tr y2 k3⟩
  rw [qM_tells_0, if_pos hx, if_pos hx, if_pos hx, if_pos hx, h1, h2, Int.toNat_natCast, if_pos (show (1 : Int) = 1 from rfl), if_neg (show ¬ (9744 : Int) = 8903 by decide), if_pos (show (1 : Int) = 1 from rfl), if_neg (show ¬ (9744 : Int) = 8863997 by decide), if_pos (show (1 : Int) = 1 from rfl), if_neg (show ¬ (9744 : Int) = 247663 by decide)]
  show X iM_tells 144 [(2, 305), (0, (S : Int))] [(0, 0)] (p4 S σ) = _
  rw [qM_tells_144, if_pos (show (0 : Int) = 0 from rfl), g1, g2, if_pos (show (1 : Int) = 1 from rfl), if_neg (show ¬ (9744 : Int) = 261338243 by decide), qM_tells_237, if_pos (show (0 : Int) = 0 from rfl), g1, g2, if_pos (show (1 : Int) = 1 from rfl), if_neg (show ¬ (9744 : Int) = 3288323 by decide), qM_tells_261, if_pos (show (0 : Int) = 0 from rfl), g1, g2, if_pos (show (1 : Int) = 1 from rfl), if_pos (show (9744 : Int) = 9744 from rfl), qM_tells_312, if_neg (show ¬ (1 : Int) = 0 by decide), if_pos hx, Int.toNat_natCast, k1, Option.bind_some]
theorem M_h6 (h : tq B n A F S σ.1 (-1) j c f) (hw : tW B n j 161156) : ∃ τ, X iM_tells 0 [(2, 305), (0, (S : Int))] [] σ = X iM_tells 378 [(2, 305), (0, (S : Int))] [] τ ∧ tq B n (hdA A S c 6 (-1) (-1) none) F S τ.1 (-1) (j + 1) c f ∧ fq F c0 σ τ := by
  have hx := tq_x h
  obtain ⟨h1, h2⟩ := tk_W h.1.2 hw
  have g1 : (p4 S σ).1 305 71 = 1 := by rw [p4_5]; exact h1
  have g2 : (p4 S σ).1 305 73 = 161156 := by rw [p4_5]; exact h2
  obtain ⟨y1, y2⟩ := tq_hd (c0 := c0) h 6
  obtain ⟨τ, k1, k2, k3⟩ := tq_next (c0 := c0) y1
  refine ⟨τ, ?_, k2, fq_tr y2 k3⟩
  rw [qM_tells_0, if_pos hx, if_pos hx, if_pos hx, if_pos hx, h1, h2, Int.toNat_natCast, if_pos (show (1 : Int) = 1 from rfl), if_neg (show ¬ (161156 : Int) = 8903 by decide), if_pos (show (1 : Int) = 1 from rfl), if_neg (show ¬ (161156 : Int) = 8863997 by decide), if_pos (show (1 : Int) = 1 from rfl), if_neg (show ¬ (161156 : Int) = 247663 by decide)]
  show X iM_tells 144 [(2, 305), (0, (S : Int))] [(0, 0)] (p4 S σ) = _
  rw [qM_tells_144, if_pos (show (0 : Int) = 0 from rfl), g1, g2, if_pos (show (1 : Int) = 1 from rfl), if_neg (show ¬ (161156 : Int) = 261338243 by decide), qM_tells_237, if_pos (show (0 : Int) = 0 from rfl), g1, g2, if_pos (show (1 : Int) = 1 from rfl), if_neg (show ¬ (161156 : Int) = 3288323 by decide), qM_tells_261, if_pos (show (0 : Int) = 0 from rfl), g1, g2, if_pos (show (1 : Int) = 1 from rfl), if_neg (show ¬ (161156 : Int) = 9744 by decide), qM_tells_312, if_pos (show (0 : Int) = 0 from rfl), g1, g2, if_pos (show (1 : Int) = 1 from rfl), if_pos (show (161156 : Int) = 161156 from rfl), qM_tells_363, if_neg (show ¬ (1 : Int) = 0 by decide), if_pos hx, Int.toNat_natCast, k1, Option.bind_some]
theorem M_hn (h : tq B n A F S σ.1 (-1) j c f) (hw : ∀ q, q < 7 → ¬ tW B n j (kcd q)) : ∃ τ, X iM_tells 0 [(2, 305), (0, (S : Int))] [] σ = some ((9, 0), τ) ∧ tz B n F S τ.1 (t_s B n j : Int) ∧ fq F c0 σ τ := by
  have hx := tq_x h
  have hn : ∀ q, q < 7 → ¬ (σ.1 305 71 = 1 ∧ σ.1 305 73 = kcd q) := fun q hq => tk_Wn h.1.2 (hw q hq)
  have gn : ∀ q, q < 7 → ¬ ((p4 S σ).1 305 71 = 1 ∧ (p4 S σ).1 305 73 = kcd q) := fun q hq => by rw [p4_5]; exact hn q hq
  obtain ⟨A', y1, _, y3⟩ := tq_p4 (c0 := c0) h
  obtain ⟨y4, y5⟩ := tq_fail (c0 := c0) y1
  obtain ⟨τ, k1, k2, k3⟩ := M_462z (c0 := c0) y4
  refine ⟨τ, ?_, k2, fq_tr y3 (fq_tr y5 k3)⟩
  rw [qM_tells_0, if_pos hx, if_pos hx, if_pos hx, if_pos hx, if2 (show ¬ (σ.1 305 71 = 1 ∧ σ.1 305 73 = 8903) from hn 0 (by decide)), if2 (show ¬ (σ.1 305 71 = 1 ∧ σ.1 305 73 = 8863997) from hn 1 (by decide)), if2 (show ¬ (σ.1 305 71 = 1 ∧ σ.1 305 73 = 247663) from hn 2 (by decide)), Int.toNat_natCast]
  show X iM_tells 144 [(2, 305), (0, (S : Int))] [(0, 0)] (p4 S σ) = _
  rw [qM_tells_144, if_pos rfl, if2 (show ¬ ((p4 S σ).1 305 71 = 1 ∧ (p4 S σ).1 305 73 = 261338243) from gn 3 (by decide)), qM_tells_237, if_pos rfl, if2 (show ¬ ((p4 S σ).1 305 71 = 1 ∧ (p4 S σ).1 305 73 = 3288323) from gn 4 (by decide)), qM_tells_261, if_pos rfl, if2 (show ¬ ((p4 S σ).1 305 71 = 1 ∧ (p4 S σ).1 305 73 = 9744) from gn 5 (by decide)), qM_tells_312, if_pos rfl, if2 (show ¬ ((p4 S σ).1 305 71 = 1 ∧ (p4 S σ).1 305 73 = 161156) from gn 6 (by decide)), qM_tells_363, if_pos rfl, if_pos (tq_0 y1), k1]
theorem M_mid85 (h : tq B n A F S σ.1 (-1) j c f) : X iM_tells 85 [(2, 305), (0, (S : Int))] [] σ = midx S σ := by
  have hx := tq_x h
  unfold midx
  rw [qM_tells_85, if_pos (tq_0 h), if_pos hx, if_pos (tq_0 h), if_pos hx, Int.toNat_natCast]
theorem M_mid220 (h : tq B n A F S σ.1 (-1) j c f) : X iM_tells 220 [(2, 305), (0, (S : Int))] [] σ = midx S σ := by
  have hx := tq_x h
  unfold midx
  rw [qM_tells_220, if_pos (tq_0 h), if_pos hx, if_pos (tq_0 h), if_pos hx, Int.toNat_natCast]
theorem M_mid251 (h : tq B n A F S σ.1 (-1) j c f) : X iM_tells 251 [(2, 305), (0, (S : Int))] [] σ = midx S σ := by
  have hx := tq_x h
  unfold midx
  rw [qM_tells_251, if_pos (tq_0 h), if_pos hx, if_pos (tq_0 h), if_pos hx, Int.toNat_natCast]
theorem M_price (h : tq B n (hdA A S c 1 (-1) (-1) none) F S σ.1 (-1) j c f) : (t_c B n j = 3 → ∃ τ, X iM_tells 116 [(2, 305), (0, (S : Int))] [] σ = midx S τ ∧ tq B n (hdA A S c 1 (t_n B n j) (-1) none) F S τ.1 (-1) (j + 1) c f ∧ fq F c0 σ τ) ∧ (t_c B n j ≠ 3 → X iM_tells 116 [(2, 305), (0, (S : Int))] [] σ = midx S σ) := by
  have hx := tq_x h
  have hS := h.2.2.2.2.2.2
  refine ⟨fun ht => ?_, fun ht => ?_⟩
  · obtain ⟨h1, h2⟩ := tk_D h.1.2 ht
    obtain ⟨τ, k1, k2, k3⟩ := (tq_number (c0 := c0) h).1 ht
    refine ⟨xs τ 345 S (t_n B n j), ?_, tq_eqA (tq_A k2 (q := 1) (by decide) S (t_n B n j)) (r7 ⟨rfl, xup_xup, rfl, rfl, rfl, rfl, rfl⟩), fq_tr k3 (fq_A (q := 1) (by decide) hS.1 _)⟩
    unfold midx
    rw [qM_tells_116, if_pos h1, k1, Option.bind_some, qM_tells_133, if_pos hx, if_pos (tq_0 k2), if_pos hx, if_pos (tq_0 k2), if_pos hx, Int.toNat_natCast, xs_ne (show 344 ≠ 345 by decide)]
  · unfold midx
    rw [qM_tells_116, if_neg (tk_Dn h.1.2 ht), if_pos (tq_0 h), if_pos hx, if_pos (tq_0 h), if_pos hx, Int.toNat_natCast]
theorem M_feast (h : tq B n (hdA A S c 4 (-1) (-1) none) F S σ.1 (-1) j c f) : (t_c B n j = 3 → tW B n (j + 1) 555 → t_c B n (j + 1 + 1) = 3 → ∃ τ, X iM_tells 275 [(2, 305), (0, (S : Int))] [] σ = midx S τ ∧ tq B n (hdA A S c 4 (t_n B n j) (t_n B n (j + 1 + 1)) none) F S τ.1 (-1) (j + 1 + 1 + 1) c f ∧ fq F c0 σ τ) ∧ (t_c B n j ≠ 3 → ∃ τ, X iM_tells 275 [(2, 305), (0, (S : Int))] [] σ = some ((9, 0), τ) ∧ tz B n F S τ.1 (t_s B n j : Int) ∧ fq F c0 σ τ) ∧ (t_c B n j = 3 → ¬ tW B n (j + 1) 555 → ∃ τ, X iM_tells 275 [(2, 305), (0, (S : Int))] [] σ = some ((9, 0), τ) ∧ tz B n F S τ.1 (t_s B n (j + 1) : Int) ∧ fq F c0 σ τ) ∧ (t_c B n j = 3 → tW B n (j + 1) 555 → t_c B n (j + 1 + 1) ≠ 3 → ∃ τ, X iM_tells 275 [(2, 305), (0, (S : Int))] [] σ = some ((9, 0), τ) ∧ tz B n F S τ.1 (t_s B n (j + 1 + 1) : Int) ∧ fq F c0 σ τ) := by
  have hx := tq_x h
  have hS := h.2.2.2.2.2.2
  have last : ∀ {e : Int} (v : Int) (υ : xS), tz B n F S υ.1 e → ∃ τ, X iM_tells 301 [(2, 305), (0, (S : Int))] [(0, v), (0, (S : Int)), (2, 346)] υ = some ((9, 0), τ) ∧ tz B n F S τ.1 e ∧ fq F c0 υ τ := fun v υ hz => by
    obtain ⟨τ, k1, k2, k3⟩ := M_462z (c0 := c0) (tz_A hz (q := 2) (by decide) S v)
    exact ⟨τ, by rw [qM_tells_301, if_pos hx, if_neg (tz_ne hz), if_neg (tz_ne hz), Int.toNat_natCast, k1], k2, fq_tr (fq_A (q := 2) (by decide) hS.1 _) k3⟩
  have third : ∀ {e : Int} (υ : xS), tz B n F S υ.1 e → ∃ τ, X iM_tells 292 [(2, 305), (0, (S : Int))] [] υ = some ((9, 0), τ) ∧ tz B n F S τ.1 e ∧ fq F c0 υ τ := fun υ hz => by
    obtain ⟨v, τ1, k1, k2, k3⟩ := tz_number (c0 := c0) hz
    obtain ⟨τ, l1, l2, l3⟩ := last v τ1 k2
    exact ⟨τ, by rw [qM_tells_292, k1, Option.bind_some, l1], l2, fq_tr k3 l3⟩
  refine ⟨fun t1 t2 t3 => ?_, fun t1 => ?_, fun t1 t2 => ?_, fun t1 t2 t3 => ?_⟩
  · obtain ⟨τ1, a1, a2, a3⟩ := (tq_number (c0 := c0) h).1 t1
    have b := tq_A a2 (q := 1) (by decide) S (t_n B n j)
    obtain ⟨τ2, b1, b2, b3⟩ := (tq_word (c0 := c0) b 555).1 t2
    obtain ⟨τ3, d1, d2, d3⟩ := (tq_number (c0 := c0) b2).1 t3
    refine ⟨xs τ3 346 S (t_n B n (j + 1 + 1)), ?_, tq_eqA (tq_A d2 (q := 2) (by decide) S (t_n B n (j + 1 + 1))) (r7 ⟨rfl, xup_xup, xup_xup, rfl, rfl, rfl, rfl⟩), fq_tr a3 (fq_tr (fq_A (q := 1) (by decide) hS.1 _) (fq_tr b3 (fq_tr d3 (fq_A (q := 2) (by decide) hS.1 _))))⟩
    unfold midx
    rw [qM_tells_275, a1, Option.bind_some, qM_tells_284, if_pos hx, Int.toNat_natCast, b1, Option.bind_some, qM_tells_292, d1, Option.bind_some, qM_tells_301, if_pos hx, if_pos (tq_0 d2), if_pos hx, if_pos (tq_0 d2), if_pos hx, Int.toNat_natCast, xs_ne (show 344 ≠ 346 by decide)]
  · obtain ⟨v, τ1, a1, a2, a3⟩ := (tq_number (c0 := c0) h).2 t1
    obtain ⟨τ2, b1, b2, b3⟩ := tz_word (c0 := c0) (tz_A a2 (q := 1) (by decide) S v) 555
    obtain ⟨τ, l1, l2, l3⟩ := third τ2 b2
    exact ⟨τ, by rw [qM_tells_275, a1, Option.bind_some, qM_tells_284, if_pos hx, Int.toNat_natCast, b1, Option.bind_some, l1], l2, fq_tr a3 (fq_tr (fq_A (q := 1) (by decide) hS.1 _) (fq_tr b3 l3))⟩
  · obtain ⟨τ1, a1, a2, a3⟩ := (tq_number (c0 := c0) h).1 t1
    obtain ⟨τ2, b1, b2, b3⟩ := (tq_word (c0 := c0) (tq_A a2 (q := 1) (by decide) S (t_n B n j)) 555).2 t2
    obtain ⟨τ, l1, l2, l3⟩ := third τ2 b2
    exact ⟨τ, by rw [qM_tells_275, a1, Option.bind_some, qM_tells_284, if_pos hx, Int.toNat_natCast, b1, Option.bind_some, l1], l2, fq_tr a3 (fq_tr (fq_A (q := 1) (by decide) hS.1 _) (fq_tr b3 l3))⟩
  · obtain ⟨τ1, a1, a2, a3⟩ := (tq_number (c0 := c0) h).1 t1
    obtain ⟨τ2, b1, b2, b3⟩ := (tq_word (c0 := c0) (tq_A a2 (q := 1) (by decide) S (t_n B n j)) 555).1 t2
    obtain ⟨v, τ3, d1, d2, d3⟩ := (tq_number (c0 := c0) b2).2 t3
    obtain ⟨τ, l1, l2, l3⟩ := last v τ3 d2
    exact ⟨τ, by rw [qM_tells_275, a1, Option.bind_some, qM_tells_284, if_pos hx, Int.toNat_natCast, b1, Option.bind_some, qM_tells_292, d1, Option.bind_some, l1], l2, fq_tr a3 (fq_tr (fq_A (q := 1) (by decide) hS.1 _) (fq_tr b3 (fq_tr d3 l3)))⟩
theorem M_mix (h : tq B n (hdA A S c 5 (-1) (-1) none) F S σ.1 (-1) j c f) : (t_c B n j = 3 → tW B n (j + 1) 459818 → t_c B n (j + 1 + 1) = 3 → ∃ τ, X iM_tells 326 [(2, 305), (0, (S : Int))] [] σ = midx S τ ∧ tq B n (hdA A S c 5 (t_n B n j) (t_n B n (j + 1 + 1)) none) F S τ.1 (-1) (j + 1 + 1 + 1) c f ∧ fq F c0 σ τ) ∧ (t_c B n j ≠ 3 → ∃ τ, X iM_tells 326 [(2, 305), (0, (S : Int))] [] σ = some ((9, 0), τ) ∧ tz B n F S τ.1 (t_s B n j : Int) ∧ fq F c0 σ τ) ∧ (t_c B n j = 3 → ¬ tW B n (j + 1) 459818 → ∃ τ, X iM_tells 326 [(2, 305), (0, (S : Int))] [] σ = some ((9, 0), τ) ∧ tz B n F S τ.1 (t_s B n (j + 1) : Int) ∧ fq F c0 σ τ) ∧ (t_c B n j = 3 → tW B n (j + 1) 459818 → t_c B n (j + 1 + 1) ≠ 3 → ∃ τ, X iM_tells 326 [(2, 305), (0, (S : Int))] [] σ = some ((9, 0), τ) ∧ tz B n F S τ.1 (t_s B n (j + 1 + 1) : Int) ∧ fq F c0 σ τ) := by
  have hx := tq_x h
  have hS := h.2.2.2.2.2.2
  have last : ∀ {e : Int} (v : Int) (υ : xS), tz B n F S υ.1 e → ∃ τ, X iM_tells 352 [(2, 305), (0, (S : Int))] [(0, v), (0, (S : Int)), (2, 346)] υ = some ((9, 0), τ) ∧ tz B n F S τ.1 e ∧ fq F c0 υ τ := fun v υ hz => by
    obtain ⟨τ, k1, k2, k3⟩ := M_462z (c0 := c0) (tz_A hz (q := 2) (by decide) S v)
    exact ⟨τ, by rw [qM_tells_352, if_pos hx, if_neg (tz_ne hz), if_neg (tz_ne hz), Int.toNat_natCast, k1], k2, fq_tr (fq_A (q := 2) (by decide) hS.1 _) k3⟩
  have third : ∀ {e : Int} (υ : xS), tz B n F S υ.1 e → ∃ τ, X iM_tells 343 [(2, 305), (0, (S : Int))] [] υ = some ((9, 0), τ) ∧ tz B n F S τ.1 e ∧ fq F c0 υ τ := fun υ hz => by
    obtain ⟨v, τ1, k1, k2, k3⟩ := tz_number (c0 := c0) hz
    obtain ⟨τ, l1, l2, l3⟩ := last v τ1 k2
    exact ⟨τ, by rw [qM_tells_343, k1, Option.bind_some, l1], l2, fq_tr k3 l3⟩
  refine ⟨fun t1 t2 t3 => ?_, fun t1 => ?_, fun t1 t2 => ?_, fun t1 t2 t3 => ?_⟩
  · obtain ⟨τ1, a1, a2, a3⟩ := (tq_number (c0 := c0) h).1 t1
    have b := tq_A a2 (q := 1) (by decide) S (t_n B n j)
    obtain ⟨τ2, b1, b2, b3⟩ := (tq_word (c0 := c0) b 459818).1 t2
    obtain ⟨τ3, d1, d2, d3⟩ := (tq_number (c0 := c0) b2).1 t3
    refine ⟨xs τ3 346 S (t_n B n (j + 1 + 1)), ?_, tq_eqA (tq_A d2 (q := 2) (by decide) S (t_n B n (j + 1 + 1))) (r7 ⟨rfl, xup_xup, xup_xup, rfl, rfl, rfl, rfl⟩), fq_tr a3 (fq_tr (fq_A (q := 1) (by decide) hS.1 _) (fq_tr b3 (fq_tr d3 (fq_A (q := 2) (by decide) hS.1 _))))⟩
    unfold midx
    rw [qM_tells_326, a1, Option.bind_some, qM_tells_335, if_pos hx, Int.toNat_natCast, b1, Option.bind_some, qM_tells_343, d1, Option.bind_some, qM_tells_352, if_pos hx, if_pos (tq_0 d2), if_pos hx, if_pos (tq_0 d2), if_pos hx, Int.toNat_natCast, xs_ne (show 344 ≠ 346 by decide)]
  · obtain ⟨v, τ1, a1, a2, a3⟩ := (tq_number (c0 := c0) h).2 t1
    obtain ⟨τ2, b1, b2, b3⟩ := tz_word (c0 := c0) (tz_A a2 (q := 1) (by decide) S v) 459818
    obtain ⟨τ, l1, l2, l3⟩ := third τ2 b2
    exact ⟨τ, by rw [qM_tells_326, a1, Option.bind_some, qM_tells_335, if_pos hx, Int.toNat_natCast, b1, Option.bind_some, l1], l2, fq_tr a3 (fq_tr (fq_A (q := 1) (by decide) hS.1 _) (fq_tr b3 l3))⟩
  · obtain ⟨τ1, a1, a2, a3⟩ := (tq_number (c0 := c0) h).1 t1
    obtain ⟨τ2, b1, b2, b3⟩ := (tq_word (c0 := c0) (tq_A a2 (q := 1) (by decide) S (t_n B n j)) 459818).2 t2
    obtain ⟨τ, l1, l2, l3⟩ := third τ2 b2
    exact ⟨τ, by rw [qM_tells_326, a1, Option.bind_some, qM_tells_335, if_pos hx, Int.toNat_natCast, b1, Option.bind_some, l1], l2, fq_tr a3 (fq_tr (fq_A (q := 1) (by decide) hS.1 _) (fq_tr b3 l3))⟩
  · obtain ⟨τ1, a1, a2, a3⟩ := (tq_number (c0 := c0) h).1 t1
    obtain ⟨τ2, b1, b2, b3⟩ := (tq_word (c0 := c0) (tq_A a2 (q := 1) (by decide) S (t_n B n j)) 459818).1 t2
    obtain ⟨v, τ3, d1, d2, d3⟩ := (tq_number (c0 := c0) b2).2 t3
    obtain ⟨τ, l1, l2, l3⟩ := last v τ3 d2
    exact ⟨τ, by rw [qM_tells_326, a1, Option.bind_some, qM_tells_335, if_pos hx, Int.toNat_natCast, b1, Option.bind_some, qM_tells_343, d1, Option.bind_some, l1], l2, fq_tr a3 (fq_tr (fq_A (q := 1) (by decide) hS.1 _) (fq_tr b3 (fq_tr d3 l3)))⟩
theorem M_heat (h : tq B n (hdA A S c 6 (-1) (-1) none) F S σ.1 (-1) j c f) : (t_c B n j = 3 → tW B n (j + 1) 4797 → t_c B n (j + 1 + 1) = 3 → ∃ τ, X iM_tells 378 [(2, 305), (0, (S : Int))] [] σ = midx S τ ∧ tq B n (hdA A S c 6 (t_n B n j) (t_n B n (j + 1 + 1)) none) F S τ.1 (-1) (j + 1 + 1 + 1) c f ∧ fq F c0 σ τ) ∧ (t_c B n j ≠ 3 → ∃ τ, X iM_tells 378 [(2, 305), (0, (S : Int))] [] σ = some ((9, 0), τ) ∧ tz B n F S τ.1 (t_s B n j : Int) ∧ fq F c0 σ τ) ∧ (t_c B n j = 3 → ¬ tW B n (j + 1) 4797 → ∃ τ, X iM_tells 378 [(2, 305), (0, (S : Int))] [] σ = some ((9, 0), τ) ∧ tz B n F S τ.1 (t_s B n (j + 1) : Int) ∧ fq F c0 σ τ) ∧ (t_c B n j = 3 → tW B n (j + 1) 4797 → t_c B n (j + 1 + 1) ≠ 3 → ∃ τ, X iM_tells 378 [(2, 305), (0, (S : Int))] [] σ = some ((9, 0), τ) ∧ tz B n F S τ.1 (t_s B n (j + 1 + 1) : Int) ∧ fq F c0 σ τ) := by
  have hx := tq_x h
  have hS := h.2.2.2.2.2.2
  have last : ∀ {e : Int} (v : Int) (υ : xS), tz B n F S υ.1 e → ∃ τ, X iM_tells 404 [(2, 305), (0, (S : Int))] [(0, v), (0, (S : Int)), (2, 346)] υ = some ((9, 0), τ) ∧ tz B n F S τ.1 e ∧ fq F c0 υ τ := fun v υ hz => by
    obtain ⟨τ, k1, k2, k3⟩ := M_462z (c0 := c0) (tz_A hz (q := 2) (by decide) S v)
    exact ⟨τ, by rw [qM_tells_404, if_pos hx, if_neg (tz_ne hz), if_neg (tz_ne hz), Int.toNat_natCast, k1], k2, fq_tr (fq_A (q := 2) (by decide) hS.1 _) k3⟩
  have third : ∀ {e : Int} (υ : xS), tz B n F S υ.1 e → ∃ τ, X iM_tells 395 [(2, 305), (0, (S : Int))] [] υ = some ((9, 0), τ) ∧ tz B n F S τ.1 e ∧ fq F c0 υ τ := fun υ hz => by
    obtain ⟨v, τ1, k1, k2, k3⟩ := tz_number (c0 := c0) hz
    obtain ⟨τ, l1, l2, l3⟩ := last v τ1 k2
    exact ⟨τ, by rw [qM_tells_395, k1, Option.bind_some, l1], l2, fq_tr k3 l3⟩
  refine ⟨fun t1 t2 t3 => ?_, fun t1 => ?_, fun t1 t2 => ?_, fun t1 t2 t3 => ?_⟩
  · obtain ⟨τ1, a1, a2, a3⟩ := (tq_number (c0 := c0) h).1 t1
    have b := tq_A a2 (q := 1) (by decide) S (t_n B n j)
    obtain ⟨τ2, b1, b2, b3⟩ := (tq_word (c0 := c0) b 4797).1 t2
    obtain ⟨τ3, d1, d2, d3⟩ := (tq_number (c0 := c0) b2).1 t3
    refine ⟨xs τ3 346 S (t_n B n (j + 1 + 1)), ?_, tq_eqA (tq_A d2 (q := 2) (by decide) S (t_n B n (j + 1 + 1))) (r7 ⟨rfl, xup_xup, xup_xup, rfl, rfl, rfl, rfl⟩), fq_tr a3 (fq_tr (fq_A (q := 1) (by decide) hS.1 _) (fq_tr b3 (fq_tr d3 (fq_A (q := 2) (by decide) hS.1 _))))⟩
    unfold midx
    rw [qM_tells_378, a1, Option.bind_some, qM_tells_387, if_pos hx, Int.toNat_natCast, b1, Option.bind_some, qM_tells_395, d1, Option.bind_some, qM_tells_404, if_pos hx, if_pos (tq_0 d2), if_pos hx, if_pos (tq_0 d2), if_pos hx, Int.toNat_natCast, xs_ne (show 344 ≠ 346 by decide)]
  · obtain ⟨v, τ1, a1, a2, a3⟩ := (tq_number (c0 := c0) h).2 t1
    obtain ⟨τ2, b1, b2, b3⟩ := tz_word (c0 := c0) (tz_A a2 (q := 1) (by decide) S v) 4797
    obtain ⟨τ, l1, l2, l3⟩ := third τ2 b2
    exact ⟨τ, by rw [qM_tells_378, a1, Option.bind_some, qM_tells_387, if_pos hx, Int.toNat_natCast, b1, Option.bind_some, l1], l2, fq_tr a3 (fq_tr (fq_A (q := 1) (by decide) hS.1 _) (fq_tr b3 l3))⟩
  · obtain ⟨τ1, a1, a2, a3⟩ := (tq_number (c0 := c0) h).1 t1
    obtain ⟨τ2, b1, b2, b3⟩ := (tq_word (c0 := c0) (tq_A a2 (q := 1) (by decide) S (t_n B n j)) 4797).2 t2
    obtain ⟨τ, l1, l2, l3⟩ := third τ2 b2
    exact ⟨τ, by rw [qM_tells_378, a1, Option.bind_some, qM_tells_387, if_pos hx, Int.toNat_natCast, b1, Option.bind_some, l1], l2, fq_tr a3 (fq_tr (fq_A (q := 1) (by decide) hS.1 _) (fq_tr b3 l3))⟩
  · obtain ⟨τ1, a1, a2, a3⟩ := (tq_number (c0 := c0) h).1 t1
    obtain ⟨τ2, b1, b2, b3⟩ := (tq_word (c0 := c0) (tq_A a2 (q := 1) (by decide) S (t_n B n j)) 4797).1 t2
    obtain ⟨v, τ3, d1, d2, d3⟩ := (tq_number (c0 := c0) b2).2 t3
    obtain ⟨τ, l1, l2, l3⟩ := last v τ3 d2
    exact ⟨τ, by rw [qM_tells_378, a1, Option.bind_some, qM_tells_387, if_pos hx, Int.toNat_natCast, b1, Option.bind_some, qM_tells_395, d1, Option.bind_some, l1], l2, fq_tr a3 (fq_tr (fq_A (q := 1) (by decide) hS.1 _) (fq_tr b3 (fq_tr d3 l3)))⟩
theorem M_loss (h : tq B n (hdA A S c 2 (-1) (-1) none) F S σ.1 (-1) j c f) : (∀ p : Int, (p = 0 ∧ tW B n j 4562600) ∨ (p = 1 ∧ tW B n j 12531826) ∨ (p = 2 ∧ tW B n j 326280) → ∃ τ, X iM_tells 158 [(2, 305), (0, (S : Int))] [] σ = midx S τ ∧ tq B n (hdA A S c 2 p (-1) none) F S τ.1 (-1) (j + 1) c f ∧ fq F c0 σ τ) ∧ (¬ tW B n j 4562600 → ¬ tW B n j 12531826 → ¬ tW B n j 326280 → ∃ τ, X iM_tells 158 [(2, 305), (0, (S : Int))] [] σ = some ((9, 0), τ) ∧ tz B n F S τ.1 (t_s B n j : Int) ∧ fq F c0 σ τ) := by
  have hx := tq_x h
  have hS := h.2.2.2.2.2.2
  have neq : ∀ {w v : Int}, tW B n j w → v ≠ w → ¬ (σ.1 305 71 = 1 ∧ σ.1 305 73 = v) := fun hw hv => tk_Wn h.1.2 (fun z => hv (z.2.symm.trans hw.2))
  refine ⟨fun p hp => ?_, fun n1 n2 n3 => ?_⟩
  · have b := tq_A h (q := 1) (by decide) S p
    obtain ⟨τ, k1, k2, k3⟩ := tq_next (c0 := c0) b
    have hq : tq B n (hdA A S c 2 p (-1) none) F S τ.1 (-1) (j + 1) c f := tq_eqA k2 (r7 ⟨rfl, xup_xup, rfl, rfl, rfl, rfl, rfl⟩)
    refine ⟨τ, ?_, hq, fq_tr (fq_A (q := 1) (by decide) hS.1 _) k3⟩
    have em := M_mid220 hq
    have e345 : ¬ (xs σ 345 S p).1 345 S < 0 := by rw [xs_at, xup_eq]; omega
    rcases hp with ⟨rfl, hw⟩ | ⟨rfl, hw⟩ | ⟨rfl, hw⟩
    · obtain ⟨h1, h2⟩ := tk_W h.1.2 hw
      rw [qM_tells_158, if_pos h1, if_pos h2, if_pos hx, if_pos hx, Int.toNat_natCast, if_neg e345, k1, Option.bind_some, em]
    · obtain ⟨h1, h2⟩ := tk_W h.1.2 hw
      rw [qM_tells_158, if2 (neq (v := 4562600) hw (by decide)), if_pos h1, if_pos h2, qM_tells_184, if_neg (show ¬ (1 : Int) = 0 by decide), if_pos hx, if_pos hx, Int.toNat_natCast, if_neg e345, k1, Option.bind_some, em]
    · obtain ⟨h1, h2⟩ := tk_W h.1.2 hw
      rw [qM_tells_158, if2 (neq (v := 4562600) hw (by decide)), if2 (neq (v := 12531826) hw (by decide)), qM_tells_184, if_pos rfl, if_pos h1, if_pos h2, qM_tells_198, if_neg (show ¬ (1 : Int) = 0 by decide), if_pos hx, if_pos hx, Int.toNat_natCast, if_neg e345, k1, Option.bind_some, em]
  · have b := tq_A h (q := 1) (by decide) S (-1)
    have e345 : (xs σ 345 S (-1)).1 345 S < 0 := by rw [xs_at, xup_eq]; decide
    have e305 : (xs σ 345 S (-1)).1 305 = σ.1 305 := xs_ne (by decide)
    obtain ⟨y4, y5⟩ := tq_fail (c0 := c0) b
    obtain ⟨τ, k1, k2, k3⟩ := M_462z (c0 := c0) y4
    have y6 := tz_ne y4
    refine ⟨τ, ?_, k2, fq_tr (fq_A (q := 1) (by decide) hS.1 _) (fq_tr y5 k3)⟩
    rw [e305] at y6 k1
    rw [qM_tells_158, if2 (tk_Wn h.1.2 n1), if2 (tk_Wn h.1.2 n2), qM_tells_184, if_pos rfl, if2 (tk_Wn h.1.2 n3), qM_tells_198, if_pos rfl, if_pos hx, if_pos hx, Int.toNat_natCast, if_pos e345, if_pos (tq_0 h), qM_tells_227, if_neg y6, if_neg y6, k1]
end MHD

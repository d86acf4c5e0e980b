/-! the machine's steps: chains -/
section GOC
variable {B : Nat → Int} {n : Nat} {sk sn : Nat → Int} {F S : Nat}
variable {c0 : Nat} {σ τ υ : xS} {e o g : Int} {j c c' : Nat} {f f' : Nat → Nat → Int} {K : List PF} {a x x' y z k : Int}
/-- the root so far, joined with what was got -/
def jn (c0 : Nat) (k x g : Int) (c : Nat) (f : Nat → Nat → Int) (x' : Int) (c' : Nat) (f' : Nat → Nat → Int) : Prop := (x < 0 ∧ x' = g ∧ c' = c ∧ f' = f) ∨ (0 ≤ x ∧ x' = (c : Int) ∧ c' = c + 1 ∧ f' = nwr f c k x g 0 0 ∧ c < 3300 ∧ c0 ≤ c)
theorem if2' {α : Type} {p q : Prop} [Decidable p] [Decidable q] {a d : α} (h1 : p) (h2 : q) : (if p then (if q then a else d) else d) = a := by rw [if_pos h1, if_pos h2]
theorem go_sum_b (hK : K.length < 499) : GO B n sk sn F S c0 (-1, o, j, c, f, g, (1, 0, x, y, z) :: K) (-1, o, j, c, f, g, (2, 0, -1, -1, 0) :: (1, 1, x, y, z) :: K) := fun σ h => by
  have h : ms B n sk sn F S σ.1 (-1) o j c f g ((1, 0, x, y, z) :: K) := h
  obtain ⟨_, _, _, _, h5, _⟩ := st_at h (by omega)
  obtain ⟨h1, h2⟩ := ms_set (c0 := c0) (fr' := (1, 1, x, y, z)) h (a := 359) (by decide) 1 rfl
  obtain ⟨τ, k1, k2, k3⟩ := ms_begin (c0 := c0) h1 (show K.length + 1 < 500 by omega) 2
  refine ⟨τ, st_1 h (by omega) ?_, k2, fm_tr h2 k3⟩
  rw [qM_sum_0, if_pos (xin_K (by omega)), Int.toNat_natCast, h5, if_pos rfl, if_pos (xin_K (by omega)), k1, Option.bind_some, qM_sum_21]
theorem jn_sum (hK : K.length < 499) (h : ms B n sk sn F S σ.1 (-1) o j c f g ((1, 1, x, y, z) :: K)) (hj : jn c0 z x g c f x' c' f') : ∃ τ, X iM_sum 0 [(2, 305), (0, (K.length : Int))] [] σ = X iM_sum 65 [(2, 305), (0, (K.length : Int))] [(0, x'), (0, (K.length : Int)), (2, 360)] τ ∧ ms B n sk sn F S τ.1 (-1) o j c' f' g ((1, 1, x, y, z) :: K) ∧ fm c0 σ τ := by
  obtain ⟨_, _, _, _, h5, h6, h7, h8⟩ := st_at h (by omega)
  have hg := h.2.2.2.2.2.1
  rcases hj with ⟨q, rfl, rfl, rfl⟩ | ⟨q, rfl, rfl, rfl, q1, q2⟩
  · refine ⟨σ, ?_, h, fm_rf⟩
    rw [qM_sum_0, if_pos (xin_K (by omega)), Int.toNat_natCast, h5, if_neg (by decide), if_pos (xin_K (by omega)), h6, if_pos q, hg]
  · obtain ⟨τ, k1, k2, k3⟩ := ms_node (c0 := c0) h q1 q2 z x g 0 0
    refine ⟨τ, ?_, k2, k3⟩
    rw [qM_sum_0, if_pos (xin_K (by omega)), Int.toNat_natCast, h5, if_neg (by decide), if_pos (xin_K (by omega)), h6, if_neg (by omega), if_pos (xin_K (by omega)), if_pos (xin_K (by omega)), h8, hg, k1, Option.bind_some]
theorem go_prod_b (hK : K.length < 499) : GO B n sk sn F S c0 (-1, o, j, c, f, g, (2, 0, x, y, z) :: K) (-1, o, j, c, f, g, (3, 0, -1, -1, 0) :: (2, 1, x, y, z) :: K) := fun σ h => by
  have h : ms B n sk sn F S σ.1 (-1) o j c f g ((2, 0, x, y, z) :: K) := h
  obtain ⟨_, _, _, _, h5, _⟩ := st_at h (by omega)
  obtain ⟨h1, h2⟩ := ms_set (c0 := c0) (fr' := (2, 1, x, y, z)) h (a := 359) (by decide) 1 rfl
  obtain ⟨τ, k1, k2, k3⟩ := ms_begin (c0 := c0) h1 (show K.length + 1 < 500 by omega) 3
  refine ⟨τ, st_2 h (by omega) ?_, k2, fm_tr h2 k3⟩
  rw [qM_prod_0, if_pos (xin_K (by omega)), Int.toNat_natCast, h5, if_pos rfl, if_pos (xin_K (by omega)), k1, Option.bind_some, qM_prod_21]
theorem jn_prod (hK : K.length < 499) (h : ms B n sk sn F S σ.1 (-1) o j c f g ((2, 1, x, y, z) :: K)) (hj : jn c0 z x g c f x' c' f') : ∃ τ, X iM_prod 0 [(2, 305), (0, (K.length : Int))] [] σ = X iM_prod 65 [(2, 305), (0, (K.length : Int))] [(0, x'), (0, (K.length : Int)), (2, 360)] τ ∧ ms B n sk sn F S τ.1 (-1) o j c' f' g ((2, 1, x, y, z) :: K) ∧ fm c0 σ τ := by
  obtain ⟨_, _, _, _, h5, h6, h7, h8⟩ := st_at h (by omega)
  have hg := h.2.2.2.2.2.1
  rcases hj with ⟨q, rfl, rfl, rfl⟩ | ⟨q, rfl, rfl, rfl, q1, q2⟩
  · refine ⟨σ, ?_, h, fm_rf⟩
    rw [qM_prod_0, if_pos (xin_K (by omega)), Int.toNat_natCast, h5, if_neg (by decide), if_pos (xin_K (by omega)), h6, if_pos q, hg]
  · obtain ⟨τ, k1, k2, k3⟩ := ms_node (c0 := c0) h q1 q2 z x g 0 0
    refine ⟨τ, ?_, k2, k3⟩
    rw [qM_prod_0, if_pos (xin_K (by omega)), Int.toNat_natCast, h5, if_neg (by decide), if_pos (xin_K (by omega)), h6, if_neg (by omega), if_pos (xin_K (by omega)), if_pos (xin_K (by omega)), h8, hg, k1, Option.bind_some]
theorem go_cond_b (hK : K.length < 499) : GO B n sk sn F S c0 (-1, o, j, c, f, g, (4, 0, x, y, z) :: K) (-1, o, j, c, f, g, (5, 0, -1, -1, 0) :: (4, 1, x, y, z) :: K) := fun σ h => by
  have h : ms B n sk sn F S σ.1 (-1) o j c f g ((4, 0, x, y, z) :: K) := h
  obtain ⟨_, _, _, _, h5, _⟩ := st_at h (by omega)
  obtain ⟨h1, h2⟩ := ms_set (c0 := c0) (fr' := (4, 1, x, y, z)) h (a := 359) (by decide) 1 rfl
  obtain ⟨τ, k1, k2, k3⟩ := ms_begin (c0 := c0) h1 (show K.length + 1 < 500 by omega) 5
  refine ⟨τ, st_4 h (by omega) ?_, k2, fm_tr h2 k3⟩
  rw [qM_cond_0, if_pos (xin_K (by omega)), Int.toNat_natCast, h5, if_pos rfl, if_pos (xin_K (by omega)), k1, Option.bind_some, qM_cond_21]
theorem jn_cond (hK : K.length < 499) (h : ms B n sk sn F S σ.1 (-1) o j c f g ((4, 1, x, y, z) :: K)) (hj : jn c0 16 x g c f x' c' f') : ∃ τ, X iM_cond 0 [(2, 305), (0, (K.length : Int))] [] σ = X iM_cond 61 [(2, 305), (0, (K.length : Int))] [(0, x'), (0, (K.length : Int)), (2, 360)] τ ∧ ms B n sk sn F S τ.1 (-1) o j c' f' g ((4, 1, x, y, z) :: K) ∧ fm c0 σ τ := by
  obtain ⟨_, _, _, _, h5, h6, h7, h8⟩ := st_at h (by omega)
  have hg := h.2.2.2.2.2.1
  rcases hj with ⟨q, rfl, rfl, rfl⟩ | ⟨q, rfl, rfl, rfl, q1, q2⟩
  · refine ⟨σ, ?_, h, fm_rf⟩
    rw [qM_cond_0, if_pos (xin_K (by omega)), Int.toNat_natCast, h5, if_neg (by decide), if_pos (xin_K (by omega)), h6, if_pos q, hg]
  · obtain ⟨τ, k1, k2, k3⟩ := ms_node (c0 := c0) h q1 q2 16 x g 0 0
    refine ⟨τ, ?_, k2, k3⟩
    rw [qM_cond_0, if_pos (xin_K (by omega)), Int.toNat_natCast, h5, if_neg (by decide), if_pos (xin_K (by omega)), h6, if_neg (by omega), if_pos (xin_K (by omega)), hg, k1, Option.bind_some]
theorem go_all_b (hK : K.length < 499) : GO B n sk sn F S c0 (-1, o, j, c, f, g, (5, 0, x, y, z) :: K) (-1, o, j, c, f, g, (6, 0, -1, -1, 0) :: (5, 1, x, y, z) :: K) := fun σ h => by
  have h : ms B n sk sn F S σ.1 (-1) o j c f g ((5, 0, x, y, z) :: K) := h
  obtain ⟨_, _, _, _, h5, _⟩ := st_at h (by omega)
  obtain ⟨h1, h2⟩ := ms_set (c0 := c0) (fr' := (5, 1, x, y, z)) h (a := 359) (by decide) 1 rfl
  obtain ⟨τ, k1, k2, k3⟩ := ms_begin (c0 := c0) h1 (show K.length + 1 < 500 by omega) 6
  refine ⟨τ, st_5 h (by omega) ?_, k2, fm_tr h2 k3⟩
  rw [qM_all_0, if_pos (xin_K (by omega)), Int.toNat_natCast, h5, if_pos rfl, if_pos (xin_K (by omega)), k1, Option.bind_some, qM_all_22]
theorem jn_all (hK : K.length < 499) (h : ms B n sk sn F S σ.1 (-1) o j c f g ((5, 1, x, y, z) :: K)) (hj : jn c0 15 x g c f x' c' f') : ∃ τ, X iM_all 0 [(2, 305), (0, (K.length : Int))] [] σ = X iM_all 62 [(2, 305), (0, (K.length : Int))] [(0, x'), (0, (K.length : Int)), (2, 360)] τ ∧ ms B n sk sn F S τ.1 (-1) o j c' f' g ((5, 1, x, y, z) :: K) ∧ fm c0 σ τ := by
  obtain ⟨_, _, _, _, h5, h6, h7, h8⟩ := st_at h (by omega)
  have hg := h.2.2.2.2.2.1
  rcases hj with ⟨q, rfl, rfl, rfl⟩ | ⟨q, rfl, rfl, rfl, q1, q2⟩
  · refine ⟨σ, ?_, h, fm_rf⟩
    rw [qM_all_0, if_pos (xin_K (by omega)), Int.toNat_natCast, h5, if_neg (by decide), if_pos (xin_K (by omega)), h6, if_pos q, hg]
  · obtain ⟨τ, k1, k2, k3⟩ := ms_node (c0 := c0) h q1 q2 15 x g 0 0
    refine ⟨τ, ?_, k2, k3⟩
    rw [qM_all_0, if_pos (xin_K (by omega)), Int.toNat_natCast, h5, if_neg (by decide), if_pos (xin_K (by omega)), h6, if_neg (by omega), if_pos (xin_K (by omega)), hg, k1, Option.bind_some]
theorem go_sum_p (hK : K.length < 499) (hj : jn c0 z x g c f x' c' f') (ht : (t_c B n j = 43 ∧ k = 2) ∨ (t_c B n j = 45 ∧ k = 3)) : GO B n sk sn F S c0 (-1, o, j, c, f, g, (1, 1, x, y, z) :: K) (-1, o, j + 1, c', f', g, (2, 0, -1, -1, 0) :: (1, 1, x', y, k) :: K) := fun σ h => by
  have h : ms B n sk sn F S σ.1 (-1) o j c f g ((1, 1, x, y, z) :: K) := h
  obtain ⟨σ1, r1, r2, r3⟩ := jn_sum hK h hj
  obtain ⟨a1, a2⟩ := ms_set (c0 := c0) (fr' := (1, 1, x', y, z)) r2 (a := 360) (by decide) x' rfl
  obtain ⟨b1, b2⟩ := ms_set (c0 := c0) (fr' := (1, 1, x', y, k)) a1 (a := 362) (by decide) k rfl
  obtain ⟨τ1, n1, n2, n3⟩ := ms_next (c0 := c0) b1 (9, 0)
  obtain ⟨τ, k1, k2, k3⟩ := ms_begin (c0 := c0) n2 (show K.length + 1 < 500 by omega) 2
  refine ⟨τ, st_1 h (by omega) ?_, k2, fm_tr r3 (fm_tr a2 (fm_tr b2 (fm_tr n3 k3)))⟩
  have fin : X iM_sum 108 [(2, 305), (0, (K.length : Int))] [] τ1 = some ((9, 0), τ) := by rw [qM_sum_108, k1, Option.bind_some, qM_sum_113]
  rw [r1, qM_sum_65, if_pos (xin_K (by omega)), Int.toNat_natCast]
  rcases ht with ⟨t1, rfl⟩ | ⟨t1, rfl⟩
  · obtain ⟨s1, s2⟩ := tk_S r2.2.1 (by unfold sgn; omega) t1
    rw [if_pos s1, if_pos s2, if_pos s1, if_pos s2, if_pos (xin_K (by omega)), n1, Option.bind_some, fin]
  · obtain ⟨s1, s2⟩ := tk_S r2.2.1 (by unfold sgn; omega) t1
    have s3 := tk_Sn a1.2.1 (w := 43) (by omega)
    have s4 : ∀ u v, (if σ1.1 305 71 = 3 then (if σ1.1 305 72 = 45 then X iM_sum 81 u [(0, 1)] v else X iM_sum 81 u [(0, 0)] v) else X iM_sum 81 u [(0, 0)] v) = X iM_sum 81 u [(0, 1)] v := fun u v => if2' s1 s2
    have s5 : ∀ u v, (if σ1.1 305 71 = 3 then (if σ1.1 305 72 = 43 then u else v) else v) = (v : Option (xAV × xS)) := fun u v => if2 (tk_Sn r2.2.1 (by omega))
    rw [s4, s5, qM_sum_81, if_neg (by decide), if2 s3, if_pos (xin_K (by omega)), Int.toNat_natCast, n1, Option.bind_some, fin]
theorem go_sum_d (hK : K.length < 499) (hj : jn c0 z x g c f x' c' f') (h1 : t_c B n j ≠ 43) (h2 : t_c B n j ≠ 45) : GO B n sk sn F S c0 (-1, o, j, c, f, g, (1, 1, x, y, z) :: K) (-1, o, j, c', f', x', K) := fun σ h => by
  have h : ms B n sk sn F S σ.1 (-1) o j c f g ((1, 1, x, y, z) :: K) := h
  obtain ⟨σ1, r1, r2, r3⟩ := jn_sum hK h hj
  obtain ⟨a1, a2⟩ := ms_set (c0 := c0) (fr' := (1, 1, x', y, z)) r2 (a := 360) (by decide) x' rfl
  obtain ⟨b1, b2⟩ := ms_pop (c0 := c0) a1 (by omega) x'
  refine ⟨_, st_1 h (by omega) ?_, b1, fm_tr r3 (fm_tr a2 b2)⟩
  have s4 : ∀ u v, (if σ1.1 305 71 = 3 then (if σ1.1 305 72 = 45 then X iM_sum 81 u [(0, 1)] v else X iM_sum 81 u [(0, 0)] v) else X iM_sum 81 u [(0, 0)] v) = X iM_sum 81 u [(0, 0)] v := fun u v => if2 (tk_Sn r2.2.1 h2)
  have s5 : ∀ u v, (if σ1.1 305 71 = 3 then (if σ1.1 305 72 = 43 then u else v) else v) = (v : Option (xAV × xS)) := fun u v => if2 (tk_Sn r2.2.1 h1)
  rw [r1, qM_sum_65, if_pos (xin_K (by omega)), Int.toNat_natCast, s4, s5, qM_sum_81, if_pos rfl, if_pos (xin_K (by omega)), Int.toNat_natCast, xs_at, xup_eq]
theorem go_cond_p (hK : K.length < 499) (hj : jn c0 16 x g c f x' c' f') (ht : tW B n j 423) : GO B n sk sn F S c0 (-1, o, j, c, f, g, (4, 1, x, y, z) :: K) (-1, o, j + 1, c', f', g, (5, 0, -1, -1, 0) :: (4, 1, x', y, z) :: K) := fun σ h => by
  have h : ms B n sk sn F S σ.1 (-1) o j c f g ((4, 1, x, y, z) :: K) := h
  obtain ⟨σ1, r1, r2, r3⟩ := jn_cond hK h hj
  obtain ⟨a1, a2⟩ := ms_set (c0 := c0) (fr' := (4, 1, x', y, z)) r2 (a := 360) (by decide) x' rfl
  obtain ⟨τ1, n1, n2, n3⟩ := ms_next (c0 := c0) a1 (9, 0)
  obtain ⟨τ, k1, k2, k3⟩ := ms_begin (c0 := c0) n2 (show K.length + 1 < 500 by omega) 5
  refine ⟨τ, st_4 h (by omega) ?_, k2, fm_tr r3 (fm_tr a2 (fm_tr n3 k3))⟩
  obtain ⟨s1, s2⟩ := tk_W r2.2.1 ht
  rw [r1, qM_cond_61, if_pos (xin_K (by omega)), Int.toNat_natCast, if_pos s1, if_pos s2, n1, Option.bind_some, qM_cond_76, k1, Option.bind_some, qM_cond_81]
theorem go_cond_d (hK : K.length < 499) (hj : jn c0 16 x g c f x' c' f') (ht : ¬ tW B n j 423) : GO B n sk sn F S c0 (-1, o, j, c, f, g, (4, 1, x, y, z) :: K) (-1, o, j, c', f', x', K) := fun σ h => by
  have h : ms B n sk sn F S σ.1 (-1) o j c f g ((4, 1, x, y, z) :: K) := h
  obtain ⟨σ1, r1, r2, r3⟩ := jn_cond hK h hj
  obtain ⟨a1, a2⟩ := ms_set (c0 := c0) (fr' := (4, 1, x', y, z)) r2 (a := 360) (by decide) x' rfl
  obtain ⟨b1, b2⟩ := ms_pop (c0 := c0) a1 (by omega) x'
  refine ⟨_, st_4 h (by omega) ?_, b1, fm_tr r3 (fm_tr a2 b2)⟩
  rw [r1, qM_cond_61, if_pos (xin_K (by omega)), Int.toNat_natCast, if2 (tk_Wn r2.2.1 ht), if_pos (xin_K (by omega)), xs_at, xup_eq, show (xs σ1 360 K.length x').1 305 = σ1.1 305 from xs_ne (by decide)]
theorem go_all_p (hK : K.length < 499) (hj : jn c0 15 x g c f x' c' f') (ht : tW B n j 1111) : GO B n sk sn F S c0 (-1, o, j, c, f, g, (5, 1, x, y, z) :: K) (-1, o, j + 1, c', f', g, (6, 0, -1, -1, 0) :: (5, 1, x', y, z) :: K) := fun σ h => by
  have h : ms B n sk sn F S σ.1 (-1) o j c f g ((5, 1, x, y, z) :: K) := h
  obtain ⟨σ1, r1, r2, r3⟩ := jn_all hK h hj
  obtain ⟨a1, a2⟩ := ms_set (c0 := c0) (fr' := (5, 1, x', y, z)) r2 (a := 360) (by decide) x' rfl
  obtain ⟨τ1, n1, n2, n3⟩ := ms_next (c0 := c0) a1 (9, 0)
  obtain ⟨τ, k1, k2, k3⟩ := ms_begin (c0 := c0) n2 (show K.length + 1 < 500 by omega) 6
  refine ⟨τ, st_5 h (by omega) ?_, k2, fm_tr r3 (fm_tr a2 (fm_tr n3 k3))⟩
  obtain ⟨s1, s2⟩ := tk_W r2.2.1 ht
  rw [r1, qM_all_62, if_pos (xin_K (by omega)), Int.toNat_natCast, if_pos s1, if_pos s2, n1, Option.bind_some, qM_all_77, k1, Option.bind_some, qM_all_83]
theorem go_all_d (hK : K.length < 499) (hj : jn c0 15 x g c f x' c' f') (ht : ¬ tW B n j 1111) : GO B n sk sn F S c0 (-1, o, j, c, f, g, (5, 1, x, y, z) :: K) (-1, o, j, c', f', x', K) := fun σ h => by
  have h : ms B n sk sn F S σ.1 (-1) o j c f g ((5, 1, x, y, z) :: K) := h
  obtain ⟨σ1, r1, r2, r3⟩ := jn_all hK h hj
  obtain ⟨a1, a2⟩ := ms_set (c0 := c0) (fr' := (5, 1, x', y, z)) r2 (a := 360) (by decide) x' rfl
  obtain ⟨b1, b2⟩ := ms_pop (c0 := c0) a1 (by omega) x'
  refine ⟨_, st_5 h (by omega) ?_, b1, fm_tr r3 (fm_tr a2 b2)⟩
  rw [r1, qM_all_62, if_pos (xin_K (by omega)), Int.toNat_natCast, if2 (tk_Wn r2.2.1 ht), if_pos (xin_K (by omega)), xs_at, xup_eq, show (xs σ1 360 K.length x').1 305 = σ1.1 305 from xs_ne (by decide)]
theorem go_prod_p (hK : K.length < 499) (hj : jn c0 z x g c f x' c' f') (ht : (t_c B n j = 42 ∧ k = 4) ∨ (t_c B n j = 47 ∧ k = 5) ∨ (t_c B n j = 37 ∧ k = 6)) : GO B n sk sn F S c0 (-1, o, j, c, f, g, (2, 1, x, y, z) :: K) (-1, o, j + 1, c', f', g, (3, 0, -1, -1, 0) :: (2, 1, x', y, k) :: K) := fun σ h => by
  have h : ms B n sk sn F S σ.1 (-1) o j c f g ((2, 1, x, y, z) :: K) := h
  obtain ⟨σ1, r1, r2, r3⟩ := jn_prod hK h hj
  obtain ⟨a1, a2⟩ := ms_set (c0 := c0) (fr' := (2, 1, x', y, z)) r2 (a := 360) (by decide) x' rfl
  obtain ⟨b1, b2⟩ := ms_set (c0 := c0) (fr' := (2, 1, x', y, k)) a1 (a := 362) (by decide) k rfl
  obtain ⟨τ1, n1, n2, n3⟩ := ms_next (c0 := c0) b1 (9, 0)
  obtain ⟨τ, k1, k2, k3⟩ := ms_begin (c0 := c0) n2 (show K.length + 1 < 500 by omega) 3
  refine ⟨τ, st_2 h (by omega) ?_, k2, fm_tr r3 (fm_tr a2 (fm_tr b2 (fm_tr n3 k3)))⟩
  have fin : X iM_prod 131 [(2, 305), (0, (K.length : Int))] [] τ1 = some ((9, 0), τ) := by rw [qM_prod_131, k1, Option.bind_some, qM_prod_136]
  have na (w : Int) (hw : t_c B n j ≠ w) : ∀ u v, (if σ1.1 305 71 = 3 then (if σ1.1 305 72 = w then u else v) else v) = (v : Option (xAV × xS)) := fun u v => if2 (tk_Sn r2.2.1 hw)
  have nb (w : Int) (hw : t_c B n j ≠ w) : ∀ u v, (if (xs σ1 360 K.length x').1 305 71 = 3 then (if (xs σ1 360 K.length x').1 305 72 = w then u else v) else v) = (v : Option (xAV × xS)) := fun u v => if2 (tk_Sn a1.2.1 hw)
  have pa (w : Int) (hs : sgn w) (hw : t_c B n j = w) : ∀ u v, (if σ1.1 305 71 = 3 then (if σ1.1 305 72 = w then u else v) else v) = (u : Option (xAV × xS)) := fun u v => if2' (tk_S r2.2.1 hs hw).1 (tk_S r2.2.1 hs hw).2
  have pb (w : Int) (hs : sgn w) (hw : t_c B n j = w) : ∀ u v, (if (xs σ1 360 K.length x').1 305 71 = 3 then (if (xs σ1 360 K.length x').1 305 72 = w then u else v) else v) = (u : Option (xAV × xS)) := fun u v => if2' (tk_S a1.2.1 hs hw).1 (tk_S a1.2.1 hs hw).2
  rw [r1, qM_prod_65, if_pos (xin_K (by omega)), Int.toNat_natCast]
  rcases ht with ⟨t1, rfl⟩ | ⟨t1, rfl⟩ | ⟨t1, rfl⟩
  · obtain ⟨s1, s2⟩ := tk_S r2.2.1 (by unfold sgn; omega) t1
    rw [if_pos s1, if_pos s2, if_pos s1, if_pos s2, if_pos (xin_K (by omega)), n1, Option.bind_some, fin]
  · have sg : sgn 47 := by unfold sgn; omega
    rw [pa 47 sg t1 (X iM_prod 81 _ _ _), na 42 (by omega), qM_prod_81, if_neg (by decide), nb 42 (by omega), pb 47 sg t1, qM_prod_117, if_neg (by decide), if_pos (xin_K (by omega)), Int.toNat_natCast, n1, Option.bind_some, fin]
  · have sg : sgn 37 := by unfold sgn; omega
    rw [na 47 (by omega) (X iM_prod 81 _ _ _), na 42 (by omega), qM_prod_81, if_pos rfl, pb 37 sg t1, qM_prod_90, if_neg (by decide), nb 47 (by omega), nb 42 (by omega), qM_prod_117, if_pos rfl, if_pos (xin_K (by omega)), Int.toNat_natCast, n1, Option.bind_some, fin]
theorem go_prod_d (hK : K.length < 499) (hj : jn c0 z x g c f x' c' f') (h1 : t_c B n j ≠ 42) (h2 : t_c B n j ≠ 47) (h3 : t_c B n j ≠ 37) : GO B n sk sn F S c0 (-1, o, j, c, f, g, (2, 1, x, y, z) :: K) (-1, o, j, c', f', x', K) := fun σ h => by
  have h : ms B n sk sn F S σ.1 (-1) o j c f g ((2, 1, x, y, z) :: K) := h
  obtain ⟨σ1, r1, r2, r3⟩ := jn_prod hK h hj
  obtain ⟨a1, a2⟩ := ms_set (c0 := c0) (fr' := (2, 1, x', y, z)) r2 (a := 360) (by decide) x' rfl
  obtain ⟨b1, b2⟩ := ms_pop (c0 := c0) a1 (by omega) x'
  refine ⟨_, st_2 h (by omega) ?_, b1, fm_tr r3 (fm_tr a2 b2)⟩
  have na (w : Int) (hw : t_c B n j ≠ w) : ∀ u v, (if σ1.1 305 71 = 3 then (if σ1.1 305 72 = w then u else v) else v) = (v : Option (xAV × xS)) := fun u v => if2 (tk_Sn r2.2.1 hw)
  have nb (w : Int) (hw : t_c B n j ≠ w) : ∀ u v, (if (xs σ1 360 K.length x').1 305 71 = 3 then (if (xs σ1 360 K.length x').1 305 72 = w then u else v) else v) = (v : Option (xAV × xS)) := fun u v => if2 (tk_Sn a1.2.1 hw)
  rw [r1, qM_prod_65, if_pos (xin_K (by omega)), Int.toNat_natCast, na 47 h2 (X iM_prod 81 _ _ _), na 42 h1, qM_prod_81, if_pos rfl, nb 37 h3, qM_prod_90, if_pos rfl, if_pos (xin_K (by omega)), Int.toNat_natCast, xs_at, xup_eq]
end GOC

/-! the machine's steps: tests -/
section GOU
variable {B : Nat → Int} {n : Nat} {sk sn : Nat → Int} {F S : Nat}
variable {c0 : Nat} {σ τ υ : xS} {e o g : Int} {j c c' : Nat} {f f' : Nat → Nat → Int} {K : List PF} {a x x' y z k : Int}
/-- what compares -/
theorem qtest_3 (hK : K.length < 499) (h : ms B n sk sn F S σ.1 (-1) o j c f g ((6, 3, x, y, z) :: K)) : X iM_test 0 [(2, 305), (0, (K.length : Int))] [] σ = X iM_test 229 [(2, 305), (0, (K.length : Int))] [(0, if t_c B n j = 60 then 1 else 0)] (xs (xs σ 360 K.length g) 362 K.length (if t_c B n j = 60 then 11 else if t_c B n j = 62 then 12 else 13)) := by
  obtain ⟨_, _, _, _, h5, h6, h7, h8⟩ := st_at h (by omega)
  have hg := h.2.2.2.2.2.1
  obtain ⟨a1, _⟩ := ms_set (c0 := c) (fr' := (6, 3, g, y, z)) h (a := 360) (by decide) g rfl
  have s60 : sgn 60 := by unfold sgn; omega
  have s62 : sgn 62 := by unfold sgn; omega
  rw [qM_test_0, if_pos (xin_K (by omega)), Int.toNat_natCast, h5, if_neg (show ¬ (3 : Int) = 0 by decide), if_pos (xin_K (by omega)), if_neg (show ¬ (3 : Int) = 1 by decide), if_pos (xin_K (by omega)), if_neg (show ¬ (3 : Int) = 2 by decide), if_pos (xin_K (by omega)), if_pos (show (3 : Int) = 3 from rfl), if_pos (xin_K (by omega)), hg]
  by_cases q : t_c B n j = 60
  · rw [if2' (tk_S h.2.1 s60 q).1 (tk_S h.2.1 s60 q).2, qM_test_198, if_neg (show ¬ (1 : Int) = 0 by decide), if_pos (xin_K (by omega)), Int.toNat_natCast, if2' (tk_S a1.2.1 s60 q).1 (tk_S a1.2.1 s60 q).2, if_pos q, if_pos q]
  · rw [if2 (tk_Sn h.2.1 q), qM_test_198, if_pos (show (0 : Int) = 0 from rfl), if_neg q, if_neg q]
    by_cases q2 : t_c B n j = 62
    · rw [if2' (tk_S a1.2.1 s62 q2).1 (tk_S a1.2.1 s62 q2).2, qM_test_212, if_neg (show ¬ (1 : Int) = 0 by decide), if_pos (xin_K (by omega)), Int.toNat_natCast, if2 (tk_Sn a1.2.1 q), if_pos q2]
    · rw [if2 (tk_Sn a1.2.1 q2), qM_test_212, if_pos (show (0 : Int) = 0 from rfl), if_pos (xin_K (by omega)), Int.toNat_natCast, if2 (tk_Sn a1.2.1 q), if_neg q2]
theorem go_test_3 (hK : K.length < 499) : ((t_c B n j = 60 ∧ k = 11) ∨ (t_c B n j = 62 ∧ k = 12) ∨ (t_c B n j = 61 ∧ k = 13) → GO B n sk sn F S c0 (-1, o, j, c, f, g, (6, 3, x, y, z) :: K) (-1, o, j + 1, c, f, g, (1, 0, -1, -1, 0) :: (6, 4, g, y, k) :: K)) ∧ (t_c B n j ≠ 60 → t_c B n j ≠ 62 → t_c B n j ≠ 61 → BAD B n sk sn F S c0 (-1, o, j, c, f, g, (6, 3, x, y, z) :: K) j) := by
  have key : ∀ (σ τ1 : xS) (k e' : Int) (j' : Nat), ms B n sk sn F S σ.1 (-1) o j c f g ((6, 3, x, y, z) :: K) → ms B n sk sn F S τ1.1 e' o j' c f g ((6, 3, g, y, k) :: K) → X iM_test 229 [(2, 305), (0, (K.length : Int))] [(0, if t_c B n j = 60 then 1 else 0)] (xs (xs σ 360 K.length g) 362 K.length (if t_c B n j = 60 then 11 else if t_c B n j = 62 then 12 else 13)) = X iM_test 261 [(2, 305), (0, (K.length : Int))] [] τ1 → ∃ τ, st_go σ τ ∧ ms B n sk sn F S τ.1 e' o j' c f g ((1, 0, -1, -1, 0) :: (6, 4, g, y, k) :: K) ∧ fm c0 τ1 τ := fun σ τ1 k e' j' h hm hx => by
    obtain ⟨h1, h2⟩ := ms_set (c0 := c0) (fr' := (6, 4, g, y, k)) hm (a := 359) (by decide) 4 rfl
    obtain ⟨τ, k1, k2, k3⟩ := ms_begin (c0 := c0) h1 (show K.length + 1 < 500 by omega) 1
    refine ⟨τ, st_6 h (by omega) ?_, k2, fm_tr h2 k3⟩
    rw [qtest_3 hK h, hx, qM_test_261, if_pos (xin_K (by omega)), Int.toNat_natCast, k1, Option.bind_some, qM_test_273]
  have two : ∀ (σ : xS) (k : Int), ms B n sk sn F S σ.1 (-1) o j c f g ((6, 3, x, y, z) :: K) → ms B n sk sn F S (xs (xs σ 360 K.length g) 362 K.length k).1 (-1) o j c f g ((6, 3, g, y, k) :: K) ∧ fm c0 σ (xs (xs σ 360 K.length g) 362 K.length k) := fun σ k h => by
    obtain ⟨a1, a2⟩ := ms_set (c0 := c0) (fr' := (6, 3, g, y, z)) h (a := 360) (by decide) g rfl
    obtain ⟨b1, b2⟩ := ms_set (c0 := c0) (fr' := (6, 3, g, y, k)) a1 (a := 362) (by decide) k rfl
    exact ⟨b1, fm_tr a2 b2⟩
  refine ⟨fun q σ h => ?_, fun q1 q2 q3 σ h => ?_⟩
  · obtain ⟨b1, b2⟩ := two σ k h
    obtain ⟨τ1, n1, n2, n3⟩ := ms_next (c0 := c0) b1 (9, 0)
    obtain ⟨τ, k1, k2, k3⟩ := key σ τ1 k (-1) (j + 1) h n2 (by
      rcases q with ⟨t1, rfl⟩ | ⟨t1, rfl⟩ | ⟨t1, rfl⟩
      · rw [if_pos t1, if_pos t1, qM_test_229, if_neg (show ¬ (1 : Int) = 0 by decide), n1, Option.bind_some]
      · have sg : sgn 62 := by unfold sgn; omega
        rw [if_neg (show ¬ t_c B n j = 60 by omega), if_neg (show ¬ t_c B n j = 60 by omega), if_pos t1, qM_test_229, if_pos (show (0 : Int) = 0 from rfl), if2' (tk_S b1.2.1 sg t1).1 (tk_S b1.2.1 sg t1).2, qM_test_238, if_neg (show ¬ (1 : Int) = 0 by decide), n1, Option.bind_some]
      · have sg : sgn 61 := by unfold sgn; omega
        rw [if_neg (show ¬ t_c B n j = 60 by omega), if_neg (show ¬ t_c B n j = 60 by omega), if_neg (show ¬ t_c B n j = 62 by omega), qM_test_229, if_pos (show (0 : Int) = 0 from rfl), if2 (tk_Sn b1.2.1 (show t_c B n j ≠ 62 by omega)), qM_test_238, if_pos (show (0 : Int) = 0 from rfl), if2' (tk_S b1.2.1 sg t1).1 (tk_S b1.2.1 sg t1).2, qM_test_247, if_neg (show ¬ (1 : Int) = 0 by decide), n1, Option.bind_some])
    exact ⟨τ, k1, k2, fm_tr b2 (fm_tr n3 k3)⟩
  · obtain ⟨b1, b2⟩ := two σ 13 h
    obtain ⟨n2, n3⟩ := ms_fail (c0 := c0) b1
    obtain ⟨τ, k1, k2, k3⟩ := key σ _ 13 _ j h n2 (by rw [if_neg q1, if_neg q1, if_neg q2, qM_test_229, if_pos (show (0 : Int) = 0 from rfl), if2 (tk_Sn b1.2.1 q2), qM_test_238, if_pos (show (0 : Int) = 0 from rfl), if2 (tk_Sn b1.2.1 q3), qM_test_247, if_pos (show (0 : Int) = 0 from rfl), if_pos (mse_ok b1.2.2.1)])
    exact ⟨τ, (_, _, _, _, _, _, _), k1, k2, rfl, fm_tr b2 (fm_tr n3 k3)⟩
end GOU

/-! the machine's steps: tests -/
section GOU
variable {B : Nat → Int} {n : Nat} {sk sn : Nat → Int} {F S : Nat}
variable {c0 : Nat} {σ τ υ : xS} {e o g : Int} {j c c' : Nat} {f f' : Nat → Nat → Int} {K : List PF} {a x x' y z k : Int}
theorem go_test_n (hK : K.length < 499) (ho : o ≤ 10) (hw : tW B n j 10631) : (o ≠ 10 → GO B n sk sn F S c0 (-1, o, j, c, f, g, (6, 0, x, y, z) :: K) (-1, o + 1, j + 1, c, f, g, (6, 0, -1, -1, 0) :: (6, 1, x, y, z) :: K)) ∧ (o = 10 → BAD B n sk sn F S c0 (-1, o, j, c, f, g, (6, 0, x, y, z) :: K) j) := by
  have key : ∀ σ : xS, ms B n sk sn F S σ.1 (-1) o j c f g ((6, 0, x, y, z) :: K) → ∃ τ, st_go σ τ ∧ ms B n sk sn F S τ.1 (if o = 10 then (t_s B n j : Int) else -1) (o + 1) (j + 1) c f g ((6, 0, -1, -1, 0) :: (6, 1, x, y, z) :: K) ∧ fm c0 σ τ := fun σ h => by
    obtain ⟨_, _, _, _, h5, _⟩ := st_at h (by omega)
    obtain ⟨w1, w2⟩ := tk_W h.2.1 hw
    obtain ⟨τ1, o1, o2, o3⟩ := ms_opens (c0 := c0) h ho (9, 0)
    obtain ⟨h1, h2⟩ := ms_set (c0 := c0) (fr' := (6, 1, x, y, z)) o3 (a := 359) (by decide) 1 rfl
    obtain ⟨τ, k1, k2, k3⟩ := ms_begin (c0 := c0) h1 (show K.length + 1 < 500 by omega) 6
    refine ⟨τ, st_6 h (by omega) ?_, k2, fm_tr o2 (fm_tr h2 k3)⟩
    rw [qM_test_0, if_pos (xin_K (by omega)), Int.toNat_natCast, h5, if_pos rfl, if_pos w1, if_pos w2, opn, o1, Option.bind_some, qM_test_27, if_pos (xin_K (by omega)), Int.toNat_natCast, k1, Option.bind_some, qM_test_40]
  refine ⟨fun q σ h => ?_, fun q σ h => ?_⟩
  · obtain ⟨τ, k1, k2, k3⟩ := key σ h
    rw [if_neg q] at k2
    exact ⟨τ, k1, k2, k3⟩
  · obtain ⟨τ, k1, k2, k3⟩ := key σ h
    rw [if_pos q] at k2
    exact ⟨τ, (_, _, _, _, _, _, _), k1, k2, rfl, k3⟩
theorem go_test_b (hK : K.length < 499) (ho : o ≤ 10) (ht : t_c B n j = 91) : (o ≠ 10 → GO B n sk sn F S c0 (-1, o, j, c, f, g, (6, 0, x, y, z) :: K) (-1, o + 1, j + 1, c, f, g, (4, 0, -1, -1, 0) :: (6, 2, x, y, z) :: K)) ∧ (o = 10 → BAD B n sk sn F S c0 (-1, o, j, c, f, g, (6, 0, x, y, z) :: K) j) := by
  have key : ∀ σ : xS, ms B n sk sn F S σ.1 (-1) o j c f g ((6, 0, x, y, z) :: K) → ∃ τ, st_go σ τ ∧ ms B n sk sn F S τ.1 (if o = 10 then (t_s B n j : Int) else -1) (o + 1) (j + 1) c f g ((4, 0, -1, -1, 0) :: (6, 2, x, y, z) :: K) ∧ fm c0 σ τ := fun σ h => by
    obtain ⟨_, _, _, _, h5, _⟩ := st_at h (by omega)
    obtain ⟨s1, s2⟩ := tk_S h.2.1 (show sgn 91 by unfold sgn; omega) ht
    obtain ⟨τ1, o1, o2, o3⟩ := ms_opens (c0 := c0) h ho (9, 0)
    obtain ⟨h1, h2⟩ := ms_set (c0 := c0) (fr' := (6, 2, x, y, z)) o3 (a := 359) (by decide) 2 rfl
    obtain ⟨τ, k1, k2, k3⟩ := ms_begin (c0 := c0) h1 (show K.length + 1 < 500 by omega) 4
    refine ⟨τ, st_6 h (by omega) ?_, k2, fm_tr o2 (fm_tr h2 k3)⟩
    rw [qM_test_0, if_pos (xin_K (by omega)), Int.toNat_natCast, h5, if_pos rfl, if_neg (show ¬ σ.1 305 71 = 1 by omega), if_pos s1, if_pos s2, qM_test_49, if_neg (by decide), opn, o1, Option.bind_some, qM_test_60, if_pos (xin_K (by omega)), Int.toNat_natCast, k1, Option.bind_some, qM_test_72]
  refine ⟨fun q σ h => ?_, fun q σ h => ?_⟩
  · obtain ⟨τ, k1, k2, k3⟩ := key σ h
    rw [if_neg q] at k2
    exact ⟨τ, k1, k2, k3⟩
  · obtain ⟨τ, k1, k2, k3⟩ := key σ h
    rw [if_pos q] at k2
    exact ⟨τ, (_, _, _, _, _, _, _), k1, k2, rfl, k3⟩
theorem go_test_s (hK : K.length < 499) (hw : ¬ tW B n j 10631) (ht : t_c B n j ≠ 91) : GO B n sk sn F S c0 (-1, o, j, c, f, g, (6, 0, x, y, z) :: K) (-1, o, j, c, f, g, (1, 0, -1, -1, 0) :: (6, 3, x, y, z) :: K) := fun σ h => by
  have h : ms B n sk sn F S σ.1 (-1) o j c f g ((6, 0, x, y, z) :: K) := h
  obtain ⟨_, _, _, _, h5, _⟩ := st_at h (by omega)
  obtain ⟨h1, h2⟩ := ms_set (c0 := c0) (fr' := (6, 3, x, y, z)) h (a := 359) (by decide) 3 rfl
  obtain ⟨τ, k1, k2, k3⟩ := ms_begin (c0 := c0) h1 (show K.length + 1 < 500 by omega) 1
  refine ⟨τ, st_6 h (by omega) ?_, k2, fm_tr h2 k3⟩
  have s4 : ∀ u v, (if σ.1 305 71 = 3 then (if σ.1 305 72 = 91 then X iM_test 49 u [(0, 1)] v else X iM_test 49 u [(0, 0)] v) else X iM_test 49 u [(0, 0)] v) = X iM_test 49 u [(0, 0)] v := fun u v => if2 (tk_Sn h.2.1 ht)
  rw [qM_test_0, if_pos (xin_K (by omega)), Int.toNat_natCast, h5, if_pos rfl, s4, if2 (tk_Wn h.2.1 hw), qM_test_49, if_pos rfl, if_pos (xin_K (by omega)), Int.toNat_natCast, k1, Option.bind_some, qM_test_87]
theorem go_test_1 (hK : K.length < 499) (ho : 1 ≤ o) (hc : c < 3300) (h0 : c0 ≤ c) : GO B n sk sn F S c0 (-1, o, j, c, f, g, (6, 1, x, y, z) :: K) (-1, o - 1, j, c + 1, nwr f c 14 g 0 0 0, (c : Int), K) := fun σ h => by
  have h : ms B n sk sn F S σ.1 (-1) o j c f g ((6, 1, x, y, z) :: K) := h
  obtain ⟨_, _, _, _, h5, h6, h7, h8⟩ := st_at h (by omega)
  have hd := h.2.2.2.1.2
  have hg := h.2.2.2.2.2.1
  obtain ⟨a1, a2⟩ := ms_open (c0 := c0) (o' := o - 1) h (by omega)
  obtain ⟨τ2, k1, k2, k3⟩ := ms_node (c0 := c0) a1 hc h0 14 g 0 0 0
  obtain ⟨b1, b2⟩ := ms_pop (c0 := c0) k2 (by omega) (c : Int)
  refine ⟨_, st_6 h (by omega) ?_, b1, fm_tr a2 (fm_tr k3 b2)⟩
  rw [qM_test_0, if_pos (xin_K (by omega)), Int.toNat_natCast, h5, if_neg (by decide), if_pos (xin_K (by omega)), if_pos rfl, xw_o h.2.2.2.1.1 hd, hg, k1, Option.bind_some, qM_test_124]
theorem go_test_2 (hK : K.length < 499) (ho : 1 ≤ o) : (t_c B n j = 93 → GO B n sk sn F S c0 (-1, o, j, c, f, g, (6, 2, x, y, z) :: K) (-1, o - 1, j + 1, c, f, g, K)) ∧ (t_c B n j ≠ 93 → BAD B n sk sn F S c0 (-1, o, j, c, f, g, (6, 2, x, y, z) :: K) j) := by
  have key : ∀ σ : xS, ms B n sk sn F S σ.1 (-1) o j c f g ((6, 2, x, y, z) :: K) → ∃ (τ : xS) (j' : Nat) (e' : Int), st_go σ τ ∧ ms B n sk sn F S τ.1 e' (o - 1) j' c f g K ∧ fm c0 σ τ ∧ (t_c B n j = 93 → e' = -1 ∧ j' = j + 1) ∧ (t_c B n j ≠ 93 → e' = (t_s B n j : Int)) := fun σ h => by
    obtain ⟨_, _, _, _, h5, h6, h7, h8⟩ := st_at h (by omega)
    obtain ⟨τ1, o1, o2, o3, o4⟩ := ms_sign (c0 := c0) h (w := 93) (by unfold sgn; omega)
    have o5 : ∃ j' e', ms B n sk sn F S τ1.1 e' o j' c f g ((6, 2, x, y, z) :: K) ∧ (t_c B n j = 93 → e' = -1 ∧ j' = j + 1) ∧ (t_c B n j ≠ 93 → e' = (t_s B n j : Int)) := by
      by_cases q : t_c B n j = 93
      · exact ⟨_, _, o3 q, fun _ => ⟨rfl, rfl⟩, fun z => absurd q z⟩
      · exact ⟨_, _, o4 q, fun z => absurd z q, fun _ => if_pos rfl⟩
    obtain ⟨j', e', o6, o7, o8⟩ := o5
    have hd := o6.2.2.2.1.2
    have hg := o6.2.2.2.2.2.1
    obtain ⟨a1, a2⟩ := ms_open (c0 := c0) (o' := o - 1) o6 (by omega)
    obtain ⟨b1, b2⟩ := ms_pop (c0 := c0) a1 (by omega) g
    refine ⟨_, j', e', st_6 h (by omega) ?_, b1, fm_tr o2 (fm_tr a2 b2), o7, o8⟩
    rw [qM_test_0, if_pos (xin_K (by omega)), Int.toNat_natCast, h5, if_neg (by decide), if_pos (xin_K (by omega)), if_neg (by decide), if_pos (xin_K (by omega)), if_pos rfl, o1, Option.bind_some, qM_test_146, xw_o o6.2.2.2.1.1 hd, hg]
    rfl
  refine ⟨fun q σ h => ?_, fun q σ h => ?_⟩
  · obtain ⟨τ, j', e', k1, k2, k3, k4, _⟩ := key σ h
    obtain ⟨rfl, rfl⟩ := k4 q
    exact ⟨τ, k1, k2, k3⟩
  · obtain ⟨τ, j', e', k1, k2, k3, _, k4⟩ := key σ h
    exact ⟨τ, (_, _, _, _, _, _, _), k1, k2, k4 q, k3⟩
theorem go_test_4 (hK : K.length < 499) (hc : c < 3300) (h0 : c0 ≤ c) : GO B n sk sn F S c0 (-1, o, j, c, f, g, (6, 4, x, y, z) :: K) (-1, o, j, c + 1, nwr f c z x g 0 0, (c : Int), K) := fun σ h => by
  have h : ms B n sk sn F S σ.1 (-1) o j c f g ((6, 4, x, y, z) :: K) := h
  obtain ⟨_, _, _, _, h5, h6, h7, h8⟩ := st_at h (by omega)
  have hg := h.2.2.2.2.2.1
  obtain ⟨τ2, k1, k2, k3⟩ := ms_node (c0 := c0) h hc h0 z x g 0 0
  obtain ⟨b1, b2⟩ := ms_pop (c0 := c0) k2 (by omega) (c : Int)
  refine ⟨_, st_6 h (by omega) ?_, b1, fm_tr k3 b2⟩
  rw [qM_test_0, if_pos (xin_K (by omega)), Int.toNat_natCast, h5, if_neg (by decide), if_pos (xin_K (by omega)), if_neg (by decide), if_pos (xin_K (by omega)), if_neg (by decide), if_pos (xin_K (by omega)), if_neg (by decide), if_pos (xin_K (by omega)), if_pos (xin_K (by omega)), h6, h8, hg, k1, Option.bind_some, qM_test_299]
end GOU

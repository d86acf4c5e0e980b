/-! the machine's steps: lists' parts, tests, the end -/
section GOT
variable {B : Nat → Int} {n : Nat} {sk sn : Nat → Int} {F S : Nat}
variable {c0 : Nat} {σ τ υ : xS} {e o g : Int} {j c c' : Nat} {f f' : Nat → Nat → Int} {K : List PF} {a x x' y z k : Int}
theorem xw_o {v o : Int} (h : v = o) (h0 : 0 ≤ o ∧ o ≤ 100) : xw (v - 1) = o - 1 := by rw [h, xw_id (by omega) (by omega)]
/-- a list's next part -/
def lj (c0 : Nat) (x y g : Int) (f : Nat → Nat → Int) (x' : Int) (f' : Nat → Nat → Int) : Prop := (x < 0 ∧ x' = g ∧ f' = f) ∨ (0 ≤ x ∧ x' = x ∧ ∃ r : Nat, y = (r : Int) ∧ r < 3300 ∧ c0 ≤ r ∧ f' = nxr f r g)
/-- a parted list: where a comma comes, where none -/
theorem qatom_l (hK : K.length < 499) (h : ms B n sk sn F S σ.1 (-1) o j c f g ((3, 1, x, y, z) :: K)) (hj : lj c0 x y g f x' f') : ∃ σ', (∀ σ1, X iM_next 0 [(2, 305), (9, 0)] [] σ' = some ((9, 0), σ1) → t_c B n j = 44 → X iM_atom 0 [(2, 305), (0, (K.length : Int)), (9, 0), (9, 0)] [] σ = X iM_atom 303 [(2, 305), (0, (K.length : Int)), (9, 0), (9, 0)] [] σ1) ∧ (∀ σ1, X iM_sign 0 [(2, 305), (0, 41)] [] σ' = some ((9, 0), σ1) → t_c B n j ≠ 44 → X iM_atom 0 [(2, 305), (0, (K.length : Int)), (9, 0), (9, 0)] [] σ = X iM_atom 317 [(2, 305), (0, (K.length : Int)), (9, 0), (9, 0)] [] σ1) ∧ ms B n sk sn F S σ'.1 (-1) o j c f' g ((3, 1, x', g, z) :: K) ∧ fm c0 σ σ' := by
  obtain ⟨_, _, _, _, h5, h6, h7, h8⟩ := st_at h (by omega)
  have hg := h.2.2.2.2.2.1
  have sg : sgn 44 := by unfold sgn; omega
  rcases hj with ⟨q, rfl, rfl⟩ | ⟨q, rfl, r, rfl, q1, q2, rfl⟩
  · obtain ⟨a1, a2⟩ := ms_set (c0 := c0) (fr' := (3, 1, x', y, z)) h (a := 360) (by decide) x' rfl
    obtain ⟨b1, b2⟩ := ms_set (c0 := c0) (fr' := (3, 1, x', x', z)) a1 (a := 361) (by decide) x' rfl
    refine ⟨_, fun σ1 hn ht => ?_, fun σ1 hn ht => ?_, b1, fm_tr a2 b2⟩
    · obtain ⟨s1, s2⟩ := tk_S h.2.1 sg ht
      rw [qM_atom_0, if_pos (xin_K (by omega)), Int.toNat_natCast, h5, if_neg (by decide), if_pos (xin_K (by omega)), if_pos rfl, if_pos (xin_K (by omega)), h6, if_pos q, if_pos (xin_K (by omega)), if_pos (xin_K (by omega)), if_pos s1, if_pos s2, hg, hn, Option.bind_some]
    · rw [qM_atom_0, if_pos (xin_K (by omega)), Int.toNat_natCast, h5, if_neg (by decide), if_pos (xin_K (by omega)), if_pos rfl, if_pos (xin_K (by omega)), h6, if_pos q, if_pos (xin_K (by omega)), if_pos (xin_K (by omega)), if2 (tk_Sn h.2.1 ht), hg, hn, Option.bind_some]
  · obtain ⟨a1, a2⟩ := ms_nx (c0 := c0) h q2 g
    obtain ⟨b1, b2⟩ := ms_set (c0 := c0) (fr' := (3, 1, x', g, z)) a1 (a := 361) (by decide) g rfl
    refine ⟨_, fun σ1 hn ht => ?_, fun σ1 hn ht => ?_, b1, fm_tr a2 b2⟩
    · obtain ⟨s1, s2⟩ := tk_S h.2.1 sg ht
      rw [qM_atom_0, if_pos (xin_K (by omega)), Int.toNat_natCast, h5, if_neg (by decide), if_pos (xin_K (by omega)), if_pos rfl, if_pos (xin_K (by omega)), h6, if_neg (by omega), if_pos (xin_K (by omega)), h7, if_pos (xin_of (by omega) (by omega)), if_pos (xin_K (by omega)), if_pos s1, if_pos s2, hg, Int.toNat_natCast, hn, Option.bind_some]
    · rw [qM_atom_0, if_pos (xin_K (by omega)), Int.toNat_natCast, h5, if_neg (by decide), if_pos (xin_K (by omega)), if_pos rfl, if_pos (xin_K (by omega)), h6, if_neg (by omega), if_pos (xin_K (by omega)), h7, if_pos (xin_of (by omega) (by omega)), if_pos (xin_K (by omega)), if2 (tk_Sn h.2.1 ht), hg, Int.toNat_natCast, hn, Option.bind_some]
theorem go_list_c (hK : K.length < 499) (hj : lj c0 x y g f x' f') (ht : t_c B n j = 44) : GO B n sk sn F S c0 (-1, o, j, c, f, g, (3, 1, x, y, z) :: K) (-1, o, j + 1, c, f', g, (0, 0, -1, -1, 0) :: (3, 1, x', g, z) :: K) := fun σ h => by
  have h : ms B n sk sn F S σ.1 (-1) o j c f g ((3, 1, x, y, z) :: K) := h
  obtain ⟨σ1, r1, _, r2, r3⟩ := qatom_l hK h hj
  obtain ⟨τ1, n1, n2, n3⟩ := ms_next (c0 := c0) r2 (9, 0)
  obtain ⟨τ, k1, k2, k3⟩ := ms_begin (c0 := c0) n2 (show K.length + 1 < 500 by omega) 0
  refine ⟨τ, st_3 h (by omega) ?_, k2, fm_tr r3 (fm_tr n3 k3)⟩
  rw [r1 τ1 n1 ht, qM_atom_303, k1, Option.bind_some, qM_atom_308]
theorem go_list_e (hK : K.length < 499) (hj : lj c0 x y g f x' f') (ho : 1 ≤ o) (hc : c < 3300) (h0 : c0 ≤ c) (ht : t_c B n j ≠ 44) : (t_c B n j = 41 → GO B n sk sn F S c0 (-1, o, j, c, f, g, (3, 1, x, y, z) :: K) (-1, o - 1, j + 1, c + 1, nwr f' c z x' 0 0 0, (c : Int), K)) ∧ (t_c B n j ≠ 41 → BAD B n sk sn F S c0 (-1, o, j, c, f, g, (3, 1, x, y, z) :: K) j) := by
  have key : ∀ σ : xS, ms B n sk sn F S σ.1 (-1) o j c f g ((3, 1, x, y, z) :: K) → ∃ (τ : xS) (j' : Nat) (e' : Int), st_go σ τ ∧ ms B n sk sn F S τ.1 e' (o - 1) j' (c + 1) (nwr f' c z x' 0 0 0) (c : Int) K ∧ fm c0 σ τ ∧ (t_c B n j = 41 → e' = -1 ∧ j' = j + 1) ∧ (t_c B n j ≠ 41 → e' = (t_s B n j : Int)) := fun σ h => by
    obtain ⟨σ1, _, r1, r2, r3⟩ := qatom_l hK h hj
    obtain ⟨τ1, o1, o2, o3, o4⟩ := ms_sign (c0 := c0) r2 (w := 41) (by unfold sgn; omega)
    have o5 : ∃ j' e', ms B n sk sn F S τ1.1 e' o j' c f' g ((3, 1, x', g, z) :: K) ∧ (t_c B n j = 41 → e' = -1 ∧ j' = j + 1) ∧ (t_c B n j ≠ 41 → e' = (t_s B n j : Int)) := by
      by_cases q : t_c B n j = 41
      · exact ⟨_, _, o3 q, fun _ => ⟨rfl, rfl⟩, fun z => absurd q z⟩
      · exact ⟨_, _, o4 q, fun z => absurd z q, fun _ => if_pos rfl⟩
    obtain ⟨j', e', o6, o7, o8⟩ := o5
    have hd := o6.2.2.2.1.2
    obtain ⟨a1, a2⟩ := ms_open (c0 := c0) (o' := o - 1) o6 (by omega)
    obtain ⟨⟨_, _, q6, _, q8⟩, _⟩ := o6.2.2.2.2.2.2.2
    obtain ⟨τ2, k1, k2, k3⟩ := ms_node (c0 := c0) a1 hc h0 z x' 0 0 0
    obtain ⟨b1, b2⟩ := ms_pop (c0 := c0) k2 (by omega) (c : Int)
    refine ⟨_, j', e', st_3 h (by omega) ?_, b1, fm_tr r3 (fm_tr o2 (fm_tr a2 (fm_tr k3 b2))), o7, o8⟩
    rw [r1 τ1 o1 ht, qM_atom_317, if_pos (xin_K (by omega)), if_pos (xin_K (by omega)), Int.toNat_natCast, xw_o o6.2.2.2.1.1 hd, q6, q8, k1, Option.bind_some, qM_atom_347]
  refine ⟨fun q σ h => ?_, fun q σ h => ?_⟩
  · obtain ⟨τ, j', e', k1, k2, k3, k4, _⟩ := key σ h
    obtain ⟨rfl, rfl⟩ := k4 q
    exact ⟨τ, k1, k2, k3⟩
  · obtain ⟨τ, j', e', k1, k2, k3, _, k4⟩ := key σ h
    exact ⟨τ, (_, _, _, _, _, _, _), k1, k2, k4 q, k3⟩
theorem go_paren (hK : K.length < 499) (ho : 1 ≤ o) : (t_c B n j = 41 → GO B n sk sn F S c0 (-1, o, j, c, f, g, (3, 2, x, y, z) :: K) (-1, o - 1, j + 1, c, f, g, K)) ∧ (t_c B n j ≠ 41 → BAD B n sk sn F S c0 (-1, o, j, c, f, g, (3, 2, x, y, z) :: K) j) := by
  have key : ∀ σ : xS, ms B n sk sn F S σ.1 (-1) o j c f g ((3, 2, x, y, z) :: K) → ∃ (τ : xS) (j' : Nat) (e' : Int), st_go σ τ ∧ ms B n sk sn F S τ.1 e' (o - 1) j' c f g K ∧ fm c0 σ τ ∧ (t_c B n j = 41 → e' = -1 ∧ j' = j + 1) ∧ (t_c B n j ≠ 41 → e' = (t_s B n j : Int)) := fun σ h => by
    obtain ⟨_, _, _, _, h5, h6, h7, h8⟩ := st_at h (by omega)
    obtain ⟨τ1, o1, o2, o3, o4⟩ := ms_sign (c0 := c0) h (w := 41) (by unfold sgn; omega)
    have o5 : ∃ j' e', ms B n sk sn F S τ1.1 e' o j' c f g ((3, 2, x, y, z) :: K) ∧ (t_c B n j = 41 → e' = -1 ∧ j' = j + 1) ∧ (t_c B n j ≠ 41 → e' = (t_s B n j : Int)) := by
      by_cases q : t_c B n j = 41
      · exact ⟨_, _, o3 q, fun _ => ⟨rfl, rfl⟩, fun z => absurd q z⟩
      · exact ⟨_, _, o4 q, fun z => absurd z q, fun _ => if_pos rfl⟩
    obtain ⟨j', e', o6, o7, o8⟩ := o5
    have hd := o6.2.2.2.1.2
    have hg := o6.2.2.2.2.2.1
    obtain ⟨a1, a2⟩ := ms_open (c0 := c0) (o' := o - 1) o6 (by omega)
    obtain ⟨b1, b2⟩ := ms_pop (c0 := c0) a1 (by omega) g
    refine ⟨_, j', e', st_3 h (by omega) ?_, b1, fm_tr o2 (fm_tr a2 b2), o7, o8⟩
    rw [qM_atom_0, if_pos (xin_K (by omega)), Int.toNat_natCast, h5, if_neg (by decide), if_pos (xin_K (by omega)), if_neg (by decide), if_pos (xin_K (by omega)), if_pos rfl, o1, Option.bind_some, qM_atom_369, xw_o o6.2.2.2.1.1 hd, hg]
    rfl
  refine ⟨fun q σ h => ?_, fun q σ h => ?_⟩
  · obtain ⟨τ, j', e', k1, k2, k3, k4, _⟩ := key σ h
    obtain ⟨rfl, rfl⟩ := k4 q
    exact ⟨τ, k1, k2, k3⟩
  · obtain ⟨τ, j', e', k1, k2, k3, _, k4⟩ := key σ h
    exact ⟨τ, (_, _, _, _, _, _, _), k1, k2, k4 q, k3⟩
theorem go_minus (hK : K.length < 499) (ho : 1 ≤ o) (hc : c < 3300) (h0 : c0 ≤ c) : GO B n sk sn F S c0 (-1, o, j, c, f, g, (3, 3, x, y, z) :: K) (-1, o - 1, j, c + 1, nwr f c 7 g 0 0 0, (c : Int), K) := fun σ h => by
  have h : ms B n sk sn F S σ.1 (-1) o j c f g ((3, 3, x, y, z) :: K) := h
  obtain ⟨_, _, _, _, h5, h6, h7, h8⟩ := st_at h (by omega)
  have hd := h.2.2.2.1.2
  have hg := h.2.2.2.2.2.1
  obtain ⟨a1, a2⟩ := ms_open (c0 := c0) (o' := o - 1) h (by omega)
  obtain ⟨τ2, k1, k2, k3⟩ := ms_node (c0 := c0) a1 hc h0 7 g 0 0 0
  obtain ⟨b1, b2⟩ := ms_pop (c0 := c0) k2 (by omega) (c : Int)
  refine ⟨_, st_3 h (by omega) ?_, b1, fm_tr a2 (fm_tr k3 b2)⟩
  rw [qM_atom_0, if_pos (xin_K (by omega)), Int.toNat_natCast, h5, if_neg (by decide), if_pos (xin_K (by omega)), if_neg (by decide), if_pos (xin_K (by omega)), if_neg (by decide), xw_o h.2.2.2.1.1 hd, hg, k1, Option.bind_some, qM_atom_414]
end GOT

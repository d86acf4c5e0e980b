/-! the machine's steps: atoms -/
section GOA
variable {B : Nat → Int} {n : Nat} {sk sn : Nat → Int} {F S : Nat}
variable {c0 : Nat} {σ τ υ : xS} {e o g : Int} {j c c' : Nat} {f f' : Nat → Nat → Int} {K : List PF} {a x x' y z k : Int}
/-- the word of a let -/
def wlk (sk sn : Nat → Int) (F : Nat) (w : Int) : Nat → Nat → Int
  | 0, _ => -1
  | k + 1, i => if sk i = 0 ∧ sn i = w then ((10 + i - F : Nat) : Int) else wlk sk sn F w k (i + 1)
def wdx (sk sn : Nat → Int) (F S : Nat) (w : Int) : Int :=
  if w = 330936265 then 0 else if w = 923 then 1 else if w = 242924 then 2 else if w = 12532058 then 3 else if w = 4075480 then 4 else if w = 385418 then 5 else if w = 223456 then 6 else if w = 80155 then 7 else if w = 191706742 then 8 else if w = 2968 then 9 else wlk sk sn F w (S - F) F
theorem M_wordOf_109 (h : wenv σ.1 sk sn F S) (w : Int) : ∀ k i, i + k = S → F ≤ i → X iM_wordOf 109 [(2, 305), (1, w), (8, 0), (0, (i : Int))] [] σ = some ((0, wlk sk sn F w k i), σ)
  | 0, i, e, _ => by
    rw [qM_wordOf_109, h.2.1, if_neg (by omega)]
    rfl
  | k + 1, i, e, h1 => by
    obtain ⟨g1, g2, g3, g4, g5, g6⟩ := h
    have ih := M_wordOf_109 ⟨g1, g2, g3, g4, g5, g6⟩ w k (i + 1) (by omega) (by omega)
    have hx : xin (i : Int) 200 := xin_of (by omega) (by omega)
    have e2 : xw (xw (10 + (i : Int)) - (F : Int)) = ((10 + i - F : Nat) : Int) := by rw [xw_id (x := 10 + (i : Int)) (by omega) (by omega), xw_id (by omega) (by omega)]; omega
    rw [qM_wordOf_109, g2, if_pos (by omega), if_pos hx, Int.toNat_natCast, g3, xw_t (by omega), ih, g4, g1, e2]
    show _ = some ((0, if sk i = 0 ∧ sn i = w then ((10 + i - F : Nat) : Int) else wlk sk sn F w k (i + 1)), σ)
    by_cases c1 : sk i = 0
    · rw [if_pos c1, if_pos hx]
      by_cases c2 : sn i = w
      · rw [if_pos c2, if_pos ⟨c1, c2⟩]
      · rw [if_neg c2, if_neg (fun q => c2 q.2)]
    · rw [if_neg c1, if_neg (fun q => c1 q.1)]
theorem M_wordOf (h : wenv σ.1 sk sn F S) (w : Int) : X iM_wordOf 0 [(2, 305), (1, w), (8, 0), (9, 0)] [] σ = some ((0, wdx sk sn F S w), σ) := by
  rw [qM_wordOf_0]
  unfold wdx
  by_cases c1 : w = 330936265
  · rw [if_pos c1, if_pos c1]
  rw [if_neg c1, if_neg c1]
  by_cases c1 : w = 923
  · rw [if_pos c1, if_pos c1]
  rw [if_neg c1, if_neg c1]
  by_cases c1 : w = 242924
  · rw [if_pos c1, if_pos c1]
  rw [if_neg c1, if_neg c1]
  by_cases c1 : w = 12532058
  · rw [if_pos c1, if_pos c1]
  rw [if_neg c1, if_neg c1]
  by_cases c1 : w = 4075480
  · rw [if_pos c1, if_pos c1]
  rw [if_neg c1, if_neg c1]
  by_cases c1 : w = 385418
  · rw [if_pos c1, if_pos c1]
  rw [if_neg c1, if_neg c1]
  by_cases c1 : w = 223456
  · rw [if_pos c1, if_pos c1]
  rw [if_neg c1, if_neg c1]
  by_cases c1 : w = 80155
  · rw [if_pos c1, if_pos c1]
  rw [if_neg c1, if_neg c1]
  by_cases c1 : w = 191706742
  · rw [if_pos c1, if_pos c1]
  rw [if_neg c1, if_neg c1]
  by_cases c1 : w = 2968
  · rw [if_pos c1, if_pos c1]
  rw [if_neg c1, if_neg c1, h.1]
  exact M_wordOf_109 h w (S - F) F (by have := h.2.2.2.2.1; omega) (Nat.le_refl _)
theorem go_atom_d (hK : K.length < 499) (hc : c < 3300) (h0 : c0 ≤ c) (ht : t_c B n j = 3) : GO B n sk sn F S c0 (-1, o, j, c, f, g, (3, 0, x, y, z) :: K) (-1, o, j + 1, c + 1, nwr f c 0 0 0 0 (t_n B n j), (c : Int), K) := fun σ h => by
  have h : ms B n sk sn F S σ.1 (-1) o j c f g ((3, 0, x, y, z) :: K) := h
  obtain ⟨_, _, _, _, h5, _⟩ := st_at h (by omega)
  obtain ⟨s1, s2⟩ := tk_D h.2.1 ht
  obtain ⟨τ1, n1, n2, n3⟩ := ms_next (c0 := c0) h (9, 0)
  obtain ⟨τ2, k1, k2, k3⟩ := ms_node (c0 := c0) n2 hc h0 0 0 0 0 (t_n B n j)
  obtain ⟨b1, b2⟩ := ms_pop (c0 := c0) k2 (by omega) (c : Int)
  refine ⟨_, st_3 h (by omega) ?_, b1, fm_tr n3 (fm_tr k3 b2)⟩
  rw [qM_atom_0, if_pos (xin_K (by omega)), Int.toNat_natCast, h5, if_pos rfl, if_pos s1, n1, Option.bind_some, s2, qM_atom_26, k1, Option.bind_some, qM_atom_36]
theorem qatom_n (h : ms B n sk sn F S σ.1 (-1) o j c f g ((3, 0, x, y, z) :: K)) (hK : K.length < 499) (ht : t_c B n j ≠ 3) (h1 : ¬ tW B n j 9734) (h2 : ¬ tW B n j 9528) : X iM_atom 0 [(2, 305), (0, (K.length : Int)), (9, 0), (9, 0)] [] σ = X iM_atom 59 [(2, 305), (0, (K.length : Int)), (9, 0), (9, 0)] [(0, 0)] σ := by
  obtain ⟨_, _, _, _, h5, _⟩ := st_at h (by omega)
  rw [qM_atom_0, if_pos (xin_K (by omega)), Int.toNat_natCast, h5, if_pos rfl, if_neg (tk_Dn h.2.1 ht), if2 (tk_Wn h.2.1 h1), qM_atom_49, if_pos rfl, if2 (tk_Wn h.2.1 h2)]
theorem go_atom_w (hK : K.length < 499) (hc : c < 3300) (h0 : c0 ≤ c) (ht : t_c B n j = 2) (h1 : ¬ tW B n j 9734) (h2 : ¬ tW B n j 9528) (hw : 0 ≤ wdx sk sn F S (t_w B n j)) : GO B n sk sn F S c0 (-1, o, j, c, f, g, (3, 0, x, y, z) :: K) (-1, o, j + 1, c + 1, nwr f c 1 (wdx sk sn F S (t_w B n j)) 0 0 0, (c : Int), K) := fun σ h => by
  have h : ms B n sk sn F S σ.1 (-1) o j c f g ((3, 0, x, y, z) :: K) := h
  obtain ⟨s1, s2⟩ := tk_W h.2.1 ⟨ht, rfl⟩
  obtain ⟨τ1, n1, n2, n3⟩ := ms_next (c0 := c0) h (9, 0)
  obtain ⟨τ2, k1, k2, k3⟩ := ms_node (c0 := c0) n2 hc h0 1 (wdx sk sn F S (t_w B n j)) 0 0 0
  obtain ⟨b1, b2⟩ := ms_pop (c0 := c0) k2 (by omega) (c : Int)
  refine ⟨_, st_3 h (by omega) ?_, b1, fm_tr n3 (fm_tr k3 b2)⟩
  rw [qatom_n h hK (by omega) h1 h2, qM_atom_59, if_pos rfl, if_pos s1, s2, M_wordOf h.1.2, Option.bind_some, qM_atom_130, if_neg (show ¬ wdx sk sn F S (t_w B n j) < 0 by omega), s2, M_wordOf h.1.2, Option.bind_some, qM_atom_141, n1, Option.bind_some, qM_atom_146, k1, Option.bind_some, qM_atom_156]
/-- to where no atom is -/
theorem qatom_x (h : ms B n sk sn F S σ.1 (-1) o j c f g ((3, 0, x, y, z) :: K)) (hK : K.length < 499) (ht : t_c B n j ≠ 3) (h1 : ¬ tW B n j 9734) (h2 : ¬ tW B n j 9528) (hw : t_c B n j = 2 → wdx sk sn F S (t_w B n j) < 0) (h3 : t_c B n j ≠ 40) : X iM_atom 0 [(2, 305), (0, (K.length : Int)), (9, 0), (9, 0)] [] σ = X iM_atom 200 [(2, 305), (0, (K.length : Int)), (9, 0), (9, 0)] [(0, if t_c B n j = 45 then 1 else 0)] σ := by
  have fin : ∀ u v, (if σ.1 305 71 = 3 then (if σ.1 305 72 = 40 then u else if σ.1 305 71 = 3 then (if σ.1 305 72 = 45 then X iM_atom 200 v [(0, 1)] σ else X iM_atom 200 v [(0, 0)] σ) else X iM_atom 200 v [(0, 0)] σ) else if σ.1 305 71 = 3 then (if σ.1 305 72 = 45 then X iM_atom 200 v [(0, 1)] σ else X iM_atom 200 v [(0, 0)] σ) else X iM_atom 200 v [(0, 0)] σ) = X iM_atom 200 v [(0, if t_c B n j = 45 then 1 else 0)] σ := fun u v => by
    rw [if2 (tk_Sn h.2.1 h3)]
    by_cases q : t_c B n j = 45
    · obtain ⟨s1, s2⟩ := tk_S h.2.1 (show sgn 45 by unfold sgn; omega) q
      rw [if_pos s1, if_pos s2, if_pos q]
    · rw [if2 (tk_Sn h.2.1 q), if_neg q]
  rw [qatom_n h hK ht h1 h2, qM_atom_59, if_pos rfl]
  by_cases q : t_c B n j = 2
  · obtain ⟨s1, s2⟩ := tk_W h.2.1 ⟨q, rfl⟩
    rw [if_pos s1, s2, M_wordOf h.1.2, Option.bind_some, qM_atom_130, if_pos (show wdx sk sn F S (t_w B n j) < 0 from hw q)]
    exact fin _ _
  · rw [if_neg (show ¬ σ.1 305 71 = 1 from fun z => q (tk1_1 (h.2.1.2.2.1.symm.trans z)))]
    exact fin _ _
theorem go_atom_x (hK : K.length < 499) (ht : t_c B n j ≠ 3) (h1 : ¬ tW B n j 9734) (h2 : ¬ tW B n j 9528) (hw : t_c B n j = 2 → wdx sk sn F S (t_w B n j) < 0) (h3 : t_c B n j ≠ 40) (h4 : t_c B n j ≠ 45) : BAD B n sk sn F S c0 (-1, o, j, c, f, g, (3, 0, x, y, z) :: K) j := fun σ h => by
  have h : ms B n sk sn F S σ.1 (-1) o j c f g ((3, 0, x, y, z) :: K) := h
  obtain ⟨b1, b2⟩ := ms_fail (c0 := c0) h
  refine ⟨_, (_, _, _, _, _, _, _), st_3 h (by omega) ?_, b1, rfl, b2⟩
  rw [qatom_x h hK ht h1 h2 hw h3, if_neg h4, qM_atom_200, if_pos rfl, if_pos (mse_ok h.2.2.1)]
theorem tW_2 {w v : Int} (h : tW B n j w) (hv : v ≠ w) : ¬ tW B n j v := fun q => hv (q.2.symm.trans h.2)
theorem tW_c {w : Int} (h : t_c B n j ≠ 2) : ¬ tW B n j w := fun q => h q.1
theorem go_atom_m (hK : K.length < 499) (ho : o ≤ 10) (ht : t_c B n j = 45) : (o ≠ 10 → GO B n sk sn F S c0 (-1, o, j, c, f, g, (3, 0, x, y, z) :: K) (-1, o + 1, j + 1, c, f, g, (3, 0, -1, -1, 0) :: (3, 3, x, y, z) :: K)) ∧ (o = 10 → BAD B n sk sn F S c0 (-1, o, j, c, f, g, (3, 0, x, y, z) :: K) j) := by
  have key : ∀ σ : xS, ms B n sk sn F S σ.1 (-1) o j c f g ((3, 0, x, y, z) :: K) → ∃ τ, st_go σ τ ∧ ms B n sk sn F S τ.1 (if o = 10 then (t_s B n j : Int) else -1) (o + 1) (j + 1) c f g ((3, 0, -1, -1, 0) :: (3, 3, x, y, z) :: K) ∧ fm c0 σ τ := fun σ h => by
    obtain ⟨τ1, o1, o2, o3⟩ := ms_opens (c0 := c0) h ho (9, 0)
    obtain ⟨h1, h2⟩ := ms_set (c0 := c0) (fr' := (3, 3, x, y, z)) o3 (a := 359) (by decide) 3 rfl
    obtain ⟨τ, k1, k2, k3⟩ := ms_begin (c0 := c0) h1 (show K.length + 1 < 500 by omega) 3
    refine ⟨τ, st_3 h (by omega) ?_, k2, fm_tr o2 (fm_tr h2 k3)⟩
    rw [qatom_x h hK (by omega) (tW_c (by omega)) (tW_c (by omega)) (fun q => absurd q (by omega)) (by omega), if_pos ht, qM_atom_200, if_neg (by decide), opn, o1, Option.bind_some, qM_atom_211, if_pos (xin_K (by omega)), Int.toNat_natCast, k1, Option.bind_some, qM_atom_223]
  refine ⟨fun q σ h => ?_, fun q σ h => ?_⟩
  · obtain ⟨τ, k1, k2, k3⟩ := key σ h
    rw [if_neg q] at k2
    exact ⟨τ, k1, k2, k3⟩
  · obtain ⟨τ, k1, k2, k3⟩ := key σ h
    rw [if_pos q] at k2
    exact ⟨τ, (_, _, _, _, _, _, _), k1, k2, rfl, k3⟩
theorem go_atom_p (hK : K.length < 499) (ho : o ≤ 10) (ht : t_c B n j = 40) : (o ≠ 10 → GO B n sk sn F S c0 (-1, o, j, c, f, g, (3, 0, x, y, z) :: K) (-1, o + 1, j + 1, c, f, g, (0, 0, -1, -1, 0) :: (3, 2, x, y, z) :: K)) ∧ (o = 10 → BAD B n sk sn F S c0 (-1, o, j, c, f, g, (3, 0, x, y, z) :: K) j) := by
  have key : ∀ σ : xS, ms B n sk sn F S σ.1 (-1) o j c f g ((3, 0, x, y, z) :: K) → ∃ τ, st_go σ τ ∧ ms B n sk sn F S τ.1 (if o = 10 then (t_s B n j : Int) else -1) (o + 1) (j + 1) c f g ((0, 0, -1, -1, 0) :: (3, 2, x, y, z) :: K) ∧ fm c0 σ τ := fun σ h => by
    obtain ⟨s1, s2⟩ := tk_S h.2.1 (show sgn 40 by unfold sgn; omega) ht
    obtain ⟨τ1, o1, o2, o3⟩ := ms_opens (c0 := c0) h ho (9, 0)
    obtain ⟨h1, h2⟩ := ms_set (c0 := c0) (fr' := (3, 2, x, y, z)) o3 (a := 359) (by decide) 2 rfl
    obtain ⟨τ, k1, k2, k3⟩ := ms_begin (c0 := c0) h1 (show K.length + 1 < 500 by omega) 0
    refine ⟨τ, st_3 h (by omega) ?_, k2, fm_tr o2 (fm_tr h2 k3)⟩
    rw [qatom_n h hK (by omega) (tW_c (by omega)) (tW_c (by omega)), qM_atom_59, if_pos rfl, if_neg (show ¬ σ.1 305 71 = 1 by omega), if_pos s1, if_pos s2, opn, o1, Option.bind_some, qM_atom_179, if_pos (xin_K (by omega)), Int.toNat_natCast, k1, Option.bind_some, qM_atom_191]
  refine ⟨fun q σ h => ?_, fun q σ h => ?_⟩
  · obtain ⟨τ, k1, k2, k3⟩ := key σ h
    rw [if_neg q] at k2
    exact ⟨τ, k1, k2, k3⟩
  · obtain ⟨τ, k1, k2, k3⟩ := key σ h
    rw [if_pos q] at k2
    exact ⟨τ, (_, _, _, _, _, _, _), k1, k2, rfl, k3⟩
theorem go_atom_l (hK : K.length < 499) (ho : o ≤ 10) (ht : (tW B n j 9734 ∧ k = 8) ∨ (tW B n j 9528 ∧ k = 9)) : (o ≠ 10 → t_c B n (j + 1) = 40 → GO B n sk sn F S c0 (-1, o, j, c, f, g, (3, 0, x, y, z) :: K) (-1, o + 1, j + 1 + 1, c, f, g, (0, 0, -1, -1, 0) :: (3, 1, x, y, k) :: K)) ∧ (o = 10 → BAD B n sk sn F S c0 (-1, o, j, c, f, g, (3, 0, x, y, z) :: K) j) ∧ (o ≠ 10 → t_c B n (j + 1) ≠ 40 → BAD B n sk sn F S c0 (-1, o, j, c, f, g, (3, 0, x, y, z) :: K) (j + 1)) := by
  have key : ∀ σ : xS, ms B n sk sn F S σ.1 (-1) o j c f g ((3, 0, x, y, z) :: K) → ∃ τ τ1 : xS, st_go σ τ ∧ fm c0 σ τ ∧ (∀ e' j', ms B n sk sn F S τ1.1 e' (o + 1) j' c f g ((3, 0, x, y, k) :: K) → ms B n sk sn F S τ.1 e' (o + 1) j' c f g ((0, 0, -1, -1, 0) :: (3, 1, x, y, k) :: K)) ∧ (t_c B n (j + 1) = 40 → ms B n sk sn F S τ1.1 (if o = 10 then (t_s B n j : Int) else -1) (o + 1) (j + 1 + 1) c f g ((3, 0, x, y, k) :: K)) ∧ (t_c B n (j + 1) ≠ 40 → ms B n sk sn F S τ1.1 (if (if o = 10 then (t_s B n j : Int) else -1) = -1 then (t_s B n (j + 1) : Int) else (if o = 10 then (t_s B n j : Int) else -1)) (o + 1) (j + 1) c f g ((3, 0, x, y, k) :: K)) := fun σ h => by
    obtain ⟨_, _, _, _, h5, _⟩ := st_at h (by omega)
    obtain ⟨a1, a2⟩ := ms_set (c0 := c0) (fr' := (3, 0, x, y, k)) h (a := 362) (by decide) k rfl
    obtain ⟨τ1, o1, o2, o3⟩ := ms_opens (c0 := c0) a1 ho (9, 0)
    obtain ⟨τ2, p1, p2, p3, p4⟩ := ms_sign (c0 := c0) o3 (show sgn 40 by unfold sgn; omega)
    have hb : ∃ e' j', ms B n sk sn F S τ2.1 e' (o + 1) j' c f g ((3, 0, x, y, k) :: K) := by
      by_cases q : t_c B n (j + 1) = 40
      · exact ⟨_, _, p3 q⟩
      · exact ⟨_, _, p4 q⟩
    obtain ⟨e1, j1, hb⟩ := hb
    obtain ⟨h1, h2⟩ := ms_set (c0 := c0) (fr' := (3, 1, x, y, k)) hb (a := 359) (by decide) 1 rfl
    obtain ⟨τ, k1, k2, k3⟩ := ms_begin (c0 := c0) h1 (show K.length + 1 < 500 by omega) 0
    refine ⟨τ, τ2, st_3 h (by omega) ?_, fm_tr a2 (fm_tr o2 (fm_tr p2 (fm_tr h2 k3))), fun e' j' hm => ?_, p3, p4⟩
    · have fin : X iM_atom 93 [(2, 305), (0, (K.length : Int)), (9, 0), (9, 0)] [] τ1 = some ((9, 0), τ) := by rw [qM_atom_93, p1, Option.bind_some, qM_atom_99, if_pos (xin_K (by omega)), Int.toNat_natCast, k1, Option.bind_some, qM_atom_111]
      have e9 : (xs σ 362 K.length k).1 305 = σ.1 305 := xs_ne (by decide)
      rw [e9] at o1
      rcases ht with ⟨t1, rfl⟩ | ⟨t1, rfl⟩
      · obtain ⟨s1, s2⟩ := tk_W h.2.1 t1
        rw [qM_atom_0, if_pos (xin_K (by omega)), Int.toNat_natCast, h5, if_pos rfl, if_neg (show ¬ σ.1 305 71 = 2 by omega), if_pos s1, if_pos s2, qM_atom_49, if_neg (by decide), if_pos s1, if_pos s2, if_pos (xin_K (by omega)), Int.toNat_natCast, opn, o1, Option.bind_some, fin]
      · obtain ⟨s1, s2⟩ := tk_W h.2.1 t1
        have s3 : ¬ σ.1 305 73 = 9734 := by omega
        rw [qM_atom_0, if_pos (xin_K (by omega)), Int.toNat_natCast, h5, if_pos rfl, if_neg (show ¬ σ.1 305 71 = 2 by omega), if_pos s1, if_neg s3, qM_atom_49, if_pos rfl, if_pos s1, if_pos s2, qM_atom_59, if_neg (by decide), if_pos s1, if_neg s3, if_pos (xin_K (by omega)), Int.toNat_natCast, opn, o1, Option.bind_some, fin]
    · obtain ⟨h1', h2'⟩ := ms_set (c0 := c0) (fr' := (3, 1, x, y, k)) hm (a := 359) (by decide) 1 rfl
      obtain ⟨τ', k1', k2', k3'⟩ := ms_begin (c0 := c0) h1' (show K.length + 1 < 500 by omega) 0
      rw [k1] at k1'
      have : τ = τ' := (Prod.mk.inj (Option.some.inj k1')).2
      rw [this]
      exact k2'
  refine ⟨fun q q2 σ h => ?_, fun q σ h => ?_, fun q q2 σ h => ?_⟩
  · obtain ⟨τ, τ1, k1, k2, k3, k4, k5⟩ := key σ h
    have := k4 q2
    rw [if_neg q] at this
    exact ⟨τ, k1, k3 _ _ this, k2⟩
  · obtain ⟨τ, τ1, k1, k2, k3, k4, k5⟩ := key σ h
    rw [if_pos q, if_neg (show ¬ (t_s B n j : Int) = -1 by omega)] at k5
    rw [if_pos q] at k4
    by_cases q2 : t_c B n (j + 1) = 40
    · exact ⟨τ, (_, _, _, _, _, _, _), k1, k3 _ _ (k4 q2), rfl, k2⟩
    · exact ⟨τ, (_, _, _, _, _, _, _), k1, k3 _ _ (k5 q2), rfl, k2⟩
  · obtain ⟨τ, τ1, k1, k2, k3, k4, k5⟩ := key σ h
    have := k5 q2
    rw [if_neg q, if_pos rfl] at this
    exact ⟨τ, (_, _, _, _, _, _, _), k1, k3 _ _ this, rfl, k2⟩
end GOA

/-! the machine's steps: tokens, EX -/
section GO
abbrev PS := Int × Int × Nat × Nat × (Nat → Nat → Int) × Int × List PF
variable (B : Nat → Int) (n : Nat) (sk sn : Nat → Int) (F S : Nat)
def msT (m : Nat → Nat → Int) (s : PS) : Prop := ms B n sk sn F S m s.1 s.2.1 s.2.2.1 s.2.2.2.1 s.2.2.2.2.1 s.2.2.2.2.2.1 s.2.2.2.2.2.2
def GO (c0 : Nat) (s t : PS) : Prop := ∀ σ : xS, msT B n sk sn F S σ.1 s → ∃ τ, st_go σ τ ∧ msT B n sk sn F S τ.1 t ∧ fm c0 σ τ
def BAD (c0 : Nat) (s : PS) (k : Nat) : Prop := ∀ σ : xS, msT B n sk sn F S σ.1 s → ∃ τ t, st_go σ τ ∧ msT B n sk sn F S τ.1 t ∧ t.1 = (t_s B n k : Int) ∧ fm c0 σ τ
def tW (j : Nat) (w : Int) : Prop := t_c B n j = 2 ∧ t_w B n j = w
variable {B n sk sn F S}
variable {c0 : Nat} {σ τ υ : xS} {e o g : Int} {j c : Nat} {f : Nat → Nat → Int} {K : List PF} {s t u : PS}
theorem GO_tr (h : GO B n sk sn F S c0 s t) (k : GO B n sk sn F S c0 t u) : GO B n sk sn F S c0 s u := fun σ hs => by
  obtain ⟨τ, h1, h2, h3⟩ := h σ hs
  obtain ⟨υ, k1, k2, k3⟩ := k τ h2
  exact ⟨υ, st_tr h1 k1, k2, fm_tr h3 k3⟩
theorem BAD_tr {k : Nat} (h : GO B n sk sn F S c0 s t) (hk : BAD B n sk sn F S c0 t k) : BAD B n sk sn F S c0 s k := fun σ hs => by
  obtain ⟨τ, h1, h2, h3⟩ := h σ hs
  obtain ⟨υ, u, k1, k2, k3, k4⟩ := hk τ h2
  exact ⟨υ, u, st_tr h1 k1, k2, k3, fm_tr h3 k4⟩
theorem if2 {α : Type} {p q : Prop} [Decidable p] [Decidable q] {a d : α} (h : ¬ (p ∧ q)) : (if p then (if q then a else d) else d) = d := by
  by_cases c : p
  · rw [if_pos c, if_neg (fun z => h ⟨c, z⟩)]
  · rw [if_neg c]
theorem tk1_1 {c : Int} (h : tk1 c = 1) : c = 2 := by
  unfold tk1 at h
  repeat' split at h
  all_goals first | assumption | exact absurd h (by decide)
theorem tk1_2 {c : Int} (h : tk1 c = 2) : c = 3 := by
  unfold tk1 at h
  repeat' split at h
  all_goals first | assumption | exact absurd h (by decide)
theorem tk_W {m : Nat → Nat → Int} (h : tkn m B n j) {w : Int} (hw : tW B n j w) : m 305 71 = 1 ∧ m 305 73 = w := by
  refine ⟨?_, (h.2.2.2.1 hw.1).trans hw.2⟩
  rw [h.2.2.1, hw.1]
  rfl
theorem tk_Wn {m : Nat → Nat → Int} (h : tkn m B n j) {w : Int} (hw : ¬ tW B n j w) : ¬ (m 305 71 = 1 ∧ m 305 73 = w) := fun q => by
  have e := tk1_1 (h.2.2.1.symm.trans q.1)
  exact hw ⟨e, (h.2.2.2.1 e).symm.trans q.2⟩
theorem tk_S {m : Nat → Nat → Int} (h : tkn m B n j) {w : Int} (hs : sgn w) (hw : t_c B n j = w) : m 305 71 = 3 ∧ m 305 72 = w := by
  have e : tk1 (t_c B n j) = 3 := by rw [hw]; exact tk1_sgn hs
  exact ⟨h.2.2.1.trans e, (h.2.2.2.2.2 e).trans hw⟩
theorem tk_Sn {m : Nat → Nat → Int} (h : tkn m B n j) {w : Int} (hw : t_c B n j ≠ w) : ¬ (m 305 71 = 3 ∧ m 305 72 = w) := fun q => by
  have e := h.2.2.1.symm.trans q.1
  exact hw ((h.2.2.2.2.2 e).symm.trans q.2)
theorem tk_D {m : Nat → Nat → Int} (h : tkn m B n j) (hw : t_c B n j = 3) : m 305 71 = 2 ∧ m 305 73 = t_n B n j := ⟨by rw [h.2.2.1, hw]; rfl, h.2.2.2.2.1 hw⟩
theorem tk_Dn {m : Nat → Nat → Int} (h : tkn m B n j) (hw : t_c B n j ≠ 3) : m 305 71 ≠ 2 := fun q => hw (tk1_2 (h.2.2.1.symm.trans q))
theorem mse_ok {m : Nat → Nat → Int} (h : mse m (-1)) : xna 4 (m 305 74) = 0 := by
  rcases h with h | h
  · rw [h.2.1]; rfl
  · exact absurd h.1 (by decide)
theorem mse_no {m : Nat → Nat → Int} (h : mse m e) (he : e ≠ -1) : ¬ xna 4 (m 305 74) = 0 := by
  rcases h with h | h
  · exact absurd h.1 he
  · rw [h.2.1]; decide
/-- a sign that must come -/
theorem ms_sign (h : ms B n sk sn F S σ.1 e o j c f g K) {w : Int} (hs : sgn w) : ∃ τ, X iM_sign 0 [(2, 305), (0, w)] [] σ = some ((9, 0), τ) ∧ fm c0 σ τ ∧ (t_c B n j = w → ms B n sk sn F S τ.1 e o (j + 1) c f g K) ∧ (t_c B n j ≠ w → ms B n sk sn F S τ.1 (if e = -1 then (t_s B n j : Int) else e) o j c f g K) := by
  by_cases hw : t_c B n j = w
  · obtain ⟨h1, h2⟩ := tk_S h.2.1 hs hw
    obtain ⟨τ, k1, k2, k3⟩ := ms_next (c0 := c0) h (9, 0)
    exact ⟨τ, by rw [qM_sign_0, if_pos h1, if_pos h2, k1, Option.bind_some, qM_sign_12], k3, fun _ => k2, fun q => absurd hw q⟩
  · have h1 := tk_Sn h.2.1 hw
    rw [qM_sign_0, if2 h1]
    by_cases he : e = -1
    · subst he
      rw [if_pos (mse_ok h.2.2.1), if_pos rfl]
      exact ⟨_, rfl, (ms_fail h).2, fun q => absurd q hw, fun _ => (ms_fail (c0 := c0) h).1⟩
    · rw [if_neg (mse_no h.2.2.1 he), if_neg he]
      exact ⟨_, rfl, fm_rf, fun q => absurd q hw, fun _ => h⟩
theorem ms_word (h : ms B n sk sn F S σ.1 e o j c f g K) (w : Int) : ∃ τ, X iM_word 0 [(2, 305), (1, w), (8, 0)] [] σ = some ((9, 0), τ) ∧ fm c0 σ τ ∧ (tW B n j w → ms B n sk sn F S τ.1 e o (j + 1) c f g K) ∧ (¬ tW B n j w → ms B n sk sn F S τ.1 (if e = -1 then (t_s B n j : Int) else e) o j c f g K) := by
  by_cases hw : tW B n j w
  · obtain ⟨h1, h2⟩ := tk_W h.2.1 hw
    obtain ⟨τ, k1, k2, k3⟩ := ms_next (c0 := c0) h (9, 0)
    exact ⟨τ, by rw [qM_word_0, if_pos h1, if_pos h2, k1, Option.bind_some, qM_word_12], k3, fun _ => k2, fun q => absurd hw q⟩
  · have h1 := tk_Wn h.2.1 hw
    rw [qM_word_0, if2 h1]
    by_cases he : e = -1
    · subst he
      rw [if_pos (mse_ok h.2.2.1), if_pos rfl]
      exact ⟨_, rfl, (ms_fail h).2, fun q => absurd q hw, fun _ => (ms_fail (c0 := c0) h).1⟩
    · rw [if_neg (mse_no h.2.2.1 he), if_neg he]
      exact ⟨_, rfl, fm_rf, fun q => absurd q hw, fun _ => h⟩
/-- what is opened -/
theorem ms_opens (h : ms B n sk sn F S σ.1 (-1) o j c f g K) (ho : o ≤ 10) (w : xAV) : ∃ τ, (if σ.1 305 75 = 10 then (if xna 4 (σ.1 305 74) = 0 then X iM_next 0 [(2, 305), w] [] (xs (xs (xs σ 305 74 1) 305 67 (σ.1 305 70)) 305 75 (xw (σ.1 305 75 + 1))) else X iM_next 0 [(2, 305), w] [] (xs σ 305 75 (xw (σ.1 305 75 + 1)))) else X iM_next 0 [(2, 305), w] [] (xs σ 305 75 (xw (σ.1 305 75 + 1)))) = some ((9, 0), τ) ∧ fm c0 σ τ ∧ ms B n sk sn F S τ.1 (if o = 10 then (t_s B n j : Int) else -1) (o + 1) (j + 1) c f g K := by
  have h0 := h.2.2.2.1.2
  have e1 : xw (σ.1 305 75 + 1) = o + 1 := by rw [h.2.2.2.1.1, xw_id (by omega) (by omega)]
  rw [e1, h.2.2.2.1.1]
  clear e1
  by_cases c10 : o = 10
  · obtain ⟨h1, h2⟩ := ms_fail (c0 := c0) h
    obtain ⟨h3, h4⟩ := ms_open (c0 := c0) (o' := o + 1) h1 (by omega)
    obtain ⟨τ, k1, k2, k3⟩ := ms_next (c0 := c0) h3 w
    rw [if_pos c10, if_pos (mse_ok h.2.2.1), if_pos c10]
    exact ⟨τ, k1, fm_tr h2 (fm_tr h4 k3), k2⟩
  · obtain ⟨h3, h4⟩ := ms_open (c0 := c0) (o' := o + 1) h (by omega)
    obtain ⟨τ, k1, k2, k3⟩ := ms_next (c0 := c0) h3 w
    rw [if_neg c10, if_neg c10]
    exact ⟨τ, k1, fm_tr h4 k3, k2⟩
theorem opn {α β : Type} {p q : Prop} [Decidable p] [Decidable q] {a b d : Option α} {k : α → Option β} : (if p then (if q then a.bind k else b.bind k) else d.bind k) = Option.bind (if p then (if q then a else b) else d) k := by
  by_cases h1 : p
  · by_cases h2 : q
    · rw [if_pos h1, if_pos h2, if_pos h1, if_pos h2]
    · rw [if_pos h1, if_neg h2, if_pos h1, if_neg h2]
  · rw [if_neg h1, if_neg h1]
theorem xin_K {K : List PF} (hK : K.length < 500) : xin (K.length : Int) 500 := xin_of (by omega) (by omega)
/-! EX -/
variable {a x y z : Int}
theorem go_ex_s (hw : ¬ tW B n j 249) (hK : K.length < 499) : GO B n sk sn F S c0 (-1, o, j, c, f, g, (0, 0, x, y, z) :: K) (-1, o, j, c, f, g, (1, 0, -1, -1, 0) :: (0, 4, x, y, z) :: K) := fun σ h => by
  have h : ms B n sk sn F S σ.1 (-1) o j c f g ((0, 0, x, y, z) :: K) := h
  obtain ⟨_, _, _, _, h5, _⟩ := st_at h (by omega)
  obtain ⟨h1, h2⟩ := ms_set (c0 := c0) (fr' := (0, 4, x, y, z)) h (a := 359) (by decide) 4 rfl
  obtain ⟨τ, k1, k2, k3⟩ := ms_begin (c0 := c0) h1 (show K.length + 1 < 500 by omega) 1
  refine ⟨τ, st_0 h (by omega) ?_, k2, fm_tr h2 k3⟩
  rw [qM_ex_0, if_pos (xin_K (by omega)), Int.toNat_natCast, h5, if_pos rfl, if_pos (xin_K (by omega)), if2 (tk_Wn h.2.1 hw), k1, Option.bind_some, qM_ex_54]
theorem go_ex_i (hw : tW B n j 249) (ho : o ≤ 10) (hK : K.length < 499) : (o ≠ 10 → GO B n sk sn F S c0 (-1, o, j, c, f, g, (0, 0, x, y, z) :: K) (-1, o + 1, j + 1, c, f, g, (4, 0, -1, -1, 0) :: (0, 1, x, y, z) :: K)) ∧ (o = 10 → BAD B n sk sn F S c0 (-1, o, j, c, f, g, (0, 0, x, y, z) :: K) j) := by
  have key : ∀ σ : xS, ms B n sk sn F S σ.1 (-1) o j c f g ((0, 0, x, y, z) :: K) → ∃ τ, st_go σ τ ∧ ms B n sk sn F S τ.1 (if o = 10 then (t_s B n j : Int) else -1) (o + 1) (j + 1) c f g ((4, 0, -1, -1, 0) :: (0, 1, x, y, z) :: K) ∧ fm c0 σ τ := fun σ h => by
    obtain ⟨_, _, _, _, h5, _⟩ := st_at h (by omega)
    obtain ⟨w1, w2⟩ := tk_W h.2.1 hw
    obtain ⟨τ1, o1, o2, o3⟩ := ms_opens (c0 := c0) h ho (9, 0)
    obtain ⟨h1, h2⟩ := ms_set (c0 := c0) (fr' := (0, 1, x, y, z)) o3 (a := 359) (by decide) 1 rfl
    obtain ⟨τ, k1, k2, k3⟩ := ms_begin (c0 := c0) h1 (show K.length + 1 < 500 by omega) 4
    refine ⟨τ, st_0 h (by omega) ?_, k2, fm_tr o2 (fm_tr h2 k3)⟩
    rw [qM_ex_0, if_pos (xin_K (by omega)), Int.toNat_natCast, h5, if_pos rfl, if_pos w1, if_pos w2, opn, o1, Option.bind_some, qM_ex_27, if_pos (xin_K (by omega)), Int.toNat_natCast, k1, Option.bind_some, qM_ex_39]
  refine ⟨fun q σ h => ?_, fun q σ h => ?_⟩
  · obtain ⟨τ, k1, k2, k3⟩ := key σ h
    rw [if_neg q] at k2
    exact ⟨τ, k1, k2, k3⟩
  · obtain ⟨τ, k1, k2, k3⟩ := key σ h
    rw [if_pos q] at k2
    exact ⟨τ, (_, _, _, _, _, _, _), k1, k2, rfl, k3⟩
theorem go_ex_t (hK : K.length < 499) : (tW B n j 399641 → GO B n sk sn F S c0 (-1, o, j, c, f, g, (0, 1, x, y, z) :: K) (-1, o, j + 1, c, f, g, (0, 0, -1, -1, 0) :: (0, 2, g, y, z) :: K)) ∧ (¬ tW B n j 399641 → BAD B n sk sn F S c0 (-1, o, j, c, f, g, (0, 1, x, y, z) :: K) j) := by
  have key : ∀ σ : xS, ms B n sk sn F S σ.1 (-1) o j c f g ((0, 1, x, y, z) :: K) → ∃ τ j' e', st_go σ τ ∧ ms B n sk sn F S τ.1 e' o j' c f g ((0, 0, -1, -1, 0) :: (0, 2, g, y, z) :: K) ∧ fm c0 σ τ ∧ (tW B n j 399641 → e' = -1 ∧ j' = j + 1) ∧ (¬ tW B n j 399641 → e' = (t_s B n j : Int)) := fun σ h => by
    obtain ⟨_, _, _, _, h5, _⟩ := st_at h (by omega)
    have hg := h.2.2.2.2.2.1
    obtain ⟨a1, a2⟩ := ms_set (c0 := c0) (fr' := (0, 1, g, y, z)) h (a := 360) (by decide) g rfl
    obtain ⟨τ1, o1, o2, o3, o4⟩ := ms_word (c0 := c0) a1 399641
    have o5 : ∃ j' e', ms B n sk sn F S τ1.1 e' o j' c f g ((0, 1, g, y, z) :: K) ∧ (tW B n j 399641 → e' = -1 ∧ j' = j + 1) ∧ (¬ tW B n j 399641 → e' = (t_s B n j : Int)) := by
      by_cases q : tW B n j 399641
      · exact ⟨_, _, o3 q, fun _ => ⟨rfl, rfl⟩, fun z => absurd q z⟩
      · exact ⟨_, _, o4 q, fun z => absurd z q, fun _ => if_pos rfl⟩
    obtain ⟨j', e', o6, o7, o8⟩ := o5
    obtain ⟨h1, h2⟩ := ms_set (c0 := c0) (fr' := (0, 2, g, y, z)) o6 (a := 359) (by decide) 2 rfl
    obtain ⟨τ, k1, k2, k3⟩ := ms_begin (c0 := c0) h1 (show K.length + 1 < 500 by omega) 0
    refine ⟨τ, j', e', st_0 h (by omega) ?_, k2, fm_tr a2 (fm_tr o2 (fm_tr h2 k3)), o7, o8⟩
    rw [qM_ex_0, if_pos (xin_K (by omega)), Int.toNat_natCast, h5, if_neg (by decide), if_pos (xin_K (by omega)), if_pos rfl, if_pos (xin_K (by omega)), hg, o1, Option.bind_some, qM_ex_84, if_pos (xin_K (by omega)), Int.toNat_natCast, k1, Option.bind_some, qM_ex_96]
  refine ⟨fun q σ h => ?_, fun q σ h => ?_⟩
  · obtain ⟨τ, j', e', k1, k2, k3, k4, _⟩ := key σ h
    obtain ⟨rfl, rfl⟩ := k4 q
    exact ⟨τ, k1, k2, k3⟩
  · obtain ⟨τ, j', e', k1, k2, k3, _, k4⟩ := key σ h
    exact ⟨τ, (_, _, _, _, _, _, _), k1, k2, k4 q, k3⟩
theorem go_ex_e (hK : K.length < 499) : (tW B n j 107681 → GO B n sk sn F S c0 (-1, o, j, c, f, g, (0, 2, x, y, z) :: K) (-1, o, j + 1, c, f, g, (0, 0, -1, -1, 0) :: (0, 3, x, g, z) :: K)) ∧ (¬ tW B n j 107681 → BAD B n sk sn F S c0 (-1, o, j, c, f, g, (0, 2, x, y, z) :: K) j) := by
  have key : ∀ σ : xS, ms B n sk sn F S σ.1 (-1) o j c f g ((0, 2, x, y, z) :: K) → ∃ τ j' e', st_go σ τ ∧ ms B n sk sn F S τ.1 e' o j' c f g ((0, 0, -1, -1, 0) :: (0, 3, x, g, z) :: K) ∧ fm c0 σ τ ∧ (tW B n j 107681 → e' = -1 ∧ j' = j + 1) ∧ (¬ tW B n j 107681 → e' = (t_s B n j : Int)) := fun σ h => by
    obtain ⟨_, _, _, _, h5, _⟩ := st_at h (by omega)
    have hg := h.2.2.2.2.2.1
    obtain ⟨a1, a2⟩ := ms_set (c0 := c0) (fr' := (0, 2, x, g, z)) h (a := 361) (by decide) g rfl
    obtain ⟨τ1, o1, o2, o3, o4⟩ := ms_word (c0 := c0) a1 107681
    have o5 : ∃ j' e', ms B n sk sn F S τ1.1 e' o j' c f g ((0, 2, x, g, z) :: K) ∧ (tW B n j 107681 → e' = -1 ∧ j' = j + 1) ∧ (¬ tW B n j 107681 → e' = (t_s B n j : Int)) := by
      by_cases q : tW B n j 107681
      · exact ⟨_, _, o3 q, fun _ => ⟨rfl, rfl⟩, fun z => absurd q z⟩
      · exact ⟨_, _, o4 q, fun z => absurd z q, fun _ => if_pos rfl⟩
    obtain ⟨j', e', o6, o7, o8⟩ := o5
    obtain ⟨h1, h2⟩ := ms_set (c0 := c0) (fr' := (0, 3, x, g, z)) o6 (a := 359) (by decide) 3 rfl
    obtain ⟨τ, k1, k2, k3⟩ := ms_begin (c0 := c0) h1 (show K.length + 1 < 500 by omega) 0
    refine ⟨τ, j', e', st_0 h (by omega) ?_, k2, fm_tr a2 (fm_tr o2 (fm_tr h2 k3)), o7, o8⟩
    rw [qM_ex_0, if_pos (xin_K (by omega)), Int.toNat_natCast, h5, if_neg (by decide), if_pos (xin_K (by omega)), if_neg (by decide), if_pos (xin_K (by omega)), if_pos rfl, if_pos (xin_K (by omega)), hg, o1, Option.bind_some, qM_ex_126, if_pos (xin_K (by omega)), Int.toNat_natCast, k1, Option.bind_some, qM_ex_138]
  refine ⟨fun q σ h => ?_, fun q σ h => ?_⟩
  · obtain ⟨τ, j', e', k1, k2, k3, k4, _⟩ := key σ h
    obtain ⟨rfl, rfl⟩ := k4 q
    exact ⟨τ, k1, k2, k3⟩
  · obtain ⟨τ, j', e', k1, k2, k3, _, k4⟩ := key σ h
    exact ⟨τ, (_, _, _, _, _, _, _), k1, k2, k4 q, k3⟩
theorem go_ex_n (hK : K.length < 499) (hc : c < 3300) (h0 : c0 ≤ c) (ho : 1 ≤ o) : GO B n sk sn F S c0 (-1, o, j, c, f, g, (0, 3, x, y, z) :: K) (-1, o - 1, j, c + 1, nwr f c 10 x y g 0, (c : Int), K) := fun σ h => by
  have h : ms B n sk sn F S σ.1 (-1) o j c f g ((0, 3, x, y, z) :: K) := h
  obtain ⟨_, _, _, _, h5, h6, h7, _⟩ := st_at h (by omega)
  have hg := h.2.2.2.2.2.1
  have hd := h.2.2.2.1.2
  have eo : xw (σ.1 305 75 - 1) = o - 1 := by rw [h.2.2.2.1.1, xw_id (by omega) (by omega)]
  obtain ⟨a1, a2⟩ := ms_open (c0 := c0) (o' := o - 1) h (by omega)
  obtain ⟨τ1, k1, k2, k3⟩ := ms_node (c0 := c0) a1 hc h0 10 x y g 0
  obtain ⟨b1, b2⟩ := ms_pop (c0 := c0) k2 (by omega) (c : Int)
  refine ⟨_, st_0 h (by omega) ?_, b1, fm_tr a2 (fm_tr k3 b2)⟩
  rw [qM_ex_0, if_pos (xin_K (by omega)), Int.toNat_natCast, h5, if_neg (by decide), if_pos (xin_K (by omega)), if_neg (by decide), if_pos (xin_K (by omega)), if_neg (by decide), if_pos (xin_K (by omega)), if_pos rfl, if_pos (xin_K (by omega)), if_pos (xin_K (by omega)), h6, h7, hg, eo, k1, Option.bind_some, qM_ex_185]
theorem go_ex_d (hK : K.length < 499) : GO B n sk sn F S c0 (-1, o, j, c, f, g, (0, 4, x, y, z) :: K) (-1, o, j, c, f, g, K) := fun σ h => by
  have h : ms B n sk sn F S σ.1 (-1) o j c f g ((0, 4, x, y, z) :: K) := h
  obtain ⟨_, _, _, _, h5, _⟩ := st_at h (by omega)
  have hg := h.2.2.2.2.2.1
  obtain ⟨b1, b2⟩ := ms_pop (c0 := c0) h (by omega) g
  refine ⟨_, st_0 h (by omega) ?_, b1, b2⟩
  rw [qM_ex_0, if_pos (xin_K (by omega)), Int.toNat_natCast, h5, if_neg (by decide), if_pos (xin_K (by omega)), if_neg (by decide), if_pos (xin_K (by omega)), if_neg (by decide), if_pos (xin_K (by omega)), if_neg (by decide), hg]
end GO

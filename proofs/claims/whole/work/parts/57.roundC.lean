/-! the lorry's round: the class's -/
abbrev bz (v : Int) (h : Nat) : Prop := xiand (xshr v (h : Int)) 1 = 0
theorem bz_rm : ∀ v : Nat, v < 256 → ∀ x : Nat, x < 8 → (0 ≤ xiand (v : Int) (xixor (xshl 1 (x : Int)) (-1)) ∧ xiand (v : Int) (xixor (xshl 1 (x : Int)) (-1)) < 256) ∧ ∀ h : Nat, h < 8 → (bz (xiand (v : Int) (xixor (xshl 1 (x : Int)) (-1))) h ↔ bz v h ∨ h = x) := by decide +kernel
theorem bz_0 : ∀ v : Nat, v < 256 → ((v : Int) = 0 ↔ ∀ h : Nat, h < 8 → bz v h) := by decide +kernel
theorem bz_N : ∀ N : Nat, N ≤ 8 → xshl 1 (N : Int) = ((2 ^ N : Nat) : Int) := by decide +kernel
theorem bz_up : ∀ v : Nat, v < 256 → ∀ N : Nat, N ≤ 8 → v < 2 ^ N → ∀ h : Nat, h < 8 → N ≤ h → bz v h := by decide +kernel
/-- what is still to be visited -/
def bok (v : Int) (l : List Nat) : Prop := (0 ≤ v ∧ v < 256) ∧ ∀ h : Nat, h < 8 → (bz v h ↔ h ∉ l)
theorem bok_rm {v : Int} {A B : List Nat} {x : Nat} (h : bok v (A ++ x :: B)) (ha : asc (A ++ x :: B)) (hx : x < 8) : bok (xiand v (xixor (xshl 1 (x : Int)) (-1))) (A ++ B) := by
  obtain ⟨n, hn⟩ : ∃ n : Nat, v = n := ⟨v.toNat, by have := h.1; omega⟩
  subst hn
  obtain ⟨h1, h2⟩ := bz_rm n (by have := h.1; omega) x hx
  have hm := nodup_mid (asc_nodup ha)
  refine ⟨h1, fun y hy => ?_⟩
  rw [h2 y hy, h.2 y hy]
  constructor
  · rintro (q | q)
    · intro hq
      refine q ?_
      rcases List.mem_append.mp hq with hq | hq
      · exact List.mem_append_left _ hq
      · exact List.mem_append_right _ (List.mem_cons_of_mem _ hq)
    · subst q
      intro hq
      rcases List.mem_append.mp hq with hq | hq
      · exact hm.1 hq
      · exact hm.2 hq
  · intro q
    by_cases e : y = x
    · exact Or.inr e
    · refine Or.inl fun hq => q ?_
      rcases List.mem_append.mp hq with hq | hq
      · exact List.mem_append_left _ hq
      · rcases List.mem_cons.mp hq with hq | hq
        · exact absurd hq e
        · exact List.mem_append_right _ hq
theorem bok_nil {v : Int} {l : List Nat} (h : bok v l) (hl : ∀ x ∈ l, x < 8) : v = 0 ↔ l = [] := by
  obtain ⟨n, hn⟩ : ∃ n : Nat, v = n := ⟨v.toNat, by have := h.1; omega⟩
  subst hn
  rw [bz_0 n (by have := h.1; omega)]
  constructor
  · intro q
    refine List.eq_nil_iff_forall_not_mem.mpr fun x hx => ?_
    exact (h.2 x (hl x hx)).mp (q x (hl x hx)) hx
  · intro q y hy
    rw [h.2 y hy, q]
    exact List.not_mem_nil
def ab (x : Int) : Int := if 0 ≤ x then x else -x
theorem xab_ab {x : Int} (h : -1000000 ≤ x ∧ x ≤ 1000000) : xab 0 x = ab x := by
  show (if 0 ≤ x then x else xw (-x)) = ab x
  unfold ab
  split
  · rfl
  · rw [xw_id (by omega) (by omega)]
theorem ab_le {x : Int} {n : Int} (h : -n ≤ x ∧ x ≤ n) : 0 ≤ ab x ∧ ab x ≤ n := by
  unfold ab
  split <;> omega
/-- a house more: minute, late, where -/
def ro_s (m : Nat → Nat → Int) (s : (Int × Int) × (Int × Int)) (h : Nat) : (Int × Int) × (Int × Int) :=
  ((s.1.1 + (ab (s.2.1 - m 312 h) + ab (s.2.2 - m 313 h)) + 5, s.1.2 + if m 314 h < s.1.1 + (ab (s.2.1 - m 312 h) + ab (s.2.2 - m 313 h)) then 1 else 0), (m 312 h, m 313 h))
def ro_p (m : Nat → Nat → Int) (t0 : Int) (p : List Nat) : (Int × Int) × (Int × Int) := p.foldl (ro_s m) ((t0, 0), (0, 0))
def ro_f (m : Nat → Nat → Int) (t0 : Int) (p : List Nat) : Int × Int := ((ro_p m t0 p).1.2, (ro_p m t0 p).1.1 + ((ro_p m t0 p).2.1 + (ro_p m t0 p).2.2) - t0)
theorem ro_snoc {m : Nat → Nat → Int} {t0 : Int} {p : List Nat} {h : Nat} : ro_p m t0 (p ++ [h]) = ro_s m (ro_p m t0 p) h := by
  unfold ro_p
  rw [List.foldl_append]
  rfl
theorem ro_le {m : Nat → Nat → Int} (hH : ho_J m) {t0 : Int} : ∀ {p : List Nat}, (∀ x ∈ p, (x : Int) < m 305 11) → (t0 ≤ (ro_p m t0 p).1.1 ∧ (ro_p m t0 p).1.1 ≤ t0 + 203 * p.length) ∧ (0 ≤ (ro_p m t0 p).1.2 ∧ (ro_p m t0 p).1.2 ≤ p.length) ∧ (0 ≤ (ro_p m t0 p).2.1 ∧ (ro_p m t0 p).2.1 ≤ 99) ∧ (0 ≤ (ro_p m t0 p).2.2 ∧ (ro_p m t0 p).2.2 ≤ 99) := by
  intro p
  induction p using snocRec with
  | nil =>
    intro _
    show (t0 ≤ t0 ∧ t0 ≤ t0 + 203 * 0) ∧ (0 ≤ (0 : Int) ∧ (0 : Int) ≤ 0) ∧ (0 ≤ (0 : Int) ∧ (0 : Int) ≤ 99) ∧ (0 ≤ (0 : Int) ∧ (0 : Int) ≤ 99)
    omega
  | append_singleton p h ih =>
    intro hp
    obtain ⟨i1, i2, i3, i4⟩ := ih fun x hx => hp x (List.mem_append_left _ hx)
    have hh := hp h (List.mem_append_right _ List.mem_cons_self)
    have hr := hH.2.2 h (by omega)
    have a1 := ab_le (x := (ro_p m t0 p).2.1 - m 312 h) (n := 99) (by omega)
    have a2 := ab_le (x := (ro_p m t0 p).2.2 - m 313 h) (n := 99) (by omega)
    rw [ro_snoc, List.length_append]
    show (t0 ≤ (ro_p m t0 p).1.1 + (ab ((ro_p m t0 p).2.1 - m 312 h) + ab ((ro_p m t0 p).2.2 - m 313 h)) + 5 ∧ (ro_p m t0 p).1.1 + (ab ((ro_p m t0 p).2.1 - m 312 h) + ab ((ro_p m t0 p).2.2 - m 313 h)) + 5 ≤ t0 + 203 * ((p.length + 1 : Nat) : Int)) ∧ (0 ≤ (ro_p m t0 p).1.2 + (if m 314 h < (ro_p m t0 p).1.1 + (ab ((ro_p m t0 p).2.1 - m 312 h) + ab ((ro_p m t0 p).2.2 - m 313 h)) then 1 else 0) ∧ (ro_p m t0 p).1.2 + (if m 314 h < (ro_p m t0 p).1.1 + (ab ((ro_p m t0 p).2.1 - m 312 h) + ab ((ro_p m t0 p).2.2 - m 313 h)) then 1 else 0) ≤ ((p.length + 1 : Nat) : Int)) ∧ (0 ≤ m 312 h ∧ m 312 h ≤ 99) ∧ (0 ≤ m 313 h ∧ m 313 h ≤ 99)
    refine ⟨by omega, ?_, hr.2.1, hr.2.2.1⟩
    split <;> omega
/-- late and minutes only grow -/
theorem ro_mono {m : Nat → Nat → Int} (hH : ho_J m) {t0 : Int} {p : List Nat} : ∀ {r : List Nat}, (∀ x ∈ p ++ r, (x : Int) < m 305 11) → (ro_p m t0 p).1.1 ≤ (ro_p m t0 (p ++ r)).1.1 ∧ (ro_p m t0 p).1.2 ≤ (ro_p m t0 (p ++ r)).1.2 := by
  intro r
  induction r using snocRec with
  | nil =>
    intro _
    rw [List.append_nil]
    exact ⟨Int.le_refl _, Int.le_refl _⟩
  | append_singleton r h ih =>
    intro hp
    have hp' : ∀ x ∈ p ++ r, (x : Int) < m 305 11 := fun x hx => hp x (by rw [← List.append_assoc]; exact List.mem_append_left _ hx)
    obtain ⟨i1, i2⟩ := ih hp'
    obtain ⟨j1, j2, j3, j4⟩ := ro_le hH (t0 := t0) hp'
    have hh := hp h (by simp)
    have hr := hH.2.2 h (by omega)
    have a1 := ab_le (x := (ro_p m t0 (p ++ r)).2.1 - m 312 h) (n := 99) (by omega)
    have a2 := ab_le (x := (ro_p m t0 (p ++ r)).2.2 - m 313 h) (n := 99) (by omega)
    rw [← List.append_assoc, ro_snoc]
    show (ro_p m t0 p).1.1 ≤ (ro_p m t0 (p ++ r)).1.1 + (ab ((ro_p m t0 (p ++ r)).2.1 - m 312 h) + ab ((ro_p m t0 (p ++ r)).2.2 - m 313 h)) + 5 ∧ (ro_p m t0 p).1.2 ≤ (ro_p m t0 (p ++ r)).1.2 + (if m 314 h < (ro_p m t0 (p ++ r)).1.1 + (ab ((ro_p m t0 (p ++ r)).2.1 - m 312 h) + ab ((ro_p m t0 (p ++ r)).2.2 - m 313 h)) then 1 else 0)
    refine ⟨by omega, ?_⟩
    split <;> omega
theorem ro_cut {m : Nat → Nat → Int} (hH : ho_J m) {t0 : Int} {p r : List Nat} (hp : ∀ x ∈ p ++ r, (x : Int) < m 305 11) : ¬ btr (ro_f m t0 (p ++ r)) ((ro_p m t0 p).1.2, (ro_p m t0 p).1.1 - t0) := by
  have h1 := ro_mono hH (t0 := t0) hp
  have h2 := ro_le hH (t0 := t0) hp
  show ¬ ((ro_p m t0 (p ++ r)).1.2 < (ro_p m t0 p).1.2 ∨ ((ro_p m t0 (p ++ r)).1.2 = (ro_p m t0 p).1.2 ∧ (ro_p m t0 (p ++ r)).1.1 + ((ro_p m t0 (p ++ r)).2.1 + (ro_p m t0 (p ++ r)).2.2) - t0 < (ro_p m t0 p).1.1 - t0))
  omega

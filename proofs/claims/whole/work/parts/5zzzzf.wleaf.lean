/-! the writer of rows: leaves, one part, two parts -/
section WLF
variable {σ0 σ τ υ : xS} {f : Nat → Nat → Int} {l : List Nat} {t : Int} {K : List WF} {i lo : Nat} {a r p : Int} {wd : Int → List Nat} {n : Nat}
theorem opb_len (r : Int) (l : List Nat) : (opb r l).length ≤ l.length + 1 ∧ (r = 0 → opb r l = l) := by
  unfold opb
  by_cases h1 : r = 1
  · rw [if_pos h1, List.length_append]; exact ⟨Nat.le_refl _, fun h => absurd h (by omega)⟩
  by_cases h2 : r = 2
  · rw [if_neg h1, if_pos h2, List.length_append]; exact ⟨Nat.le_refl _, fun h => absurd h (by omega)⟩
  · rw [if_neg h1, if_neg h2]; exact ⟨by omega, fun _ => rfl⟩
/-- what a row's round does to its frame -/
def wrow (lo : Nat) (t : Int) (f : Nat → Nat → Int) (wd : Int → List Nat) (σ0 : xS) (n c : Nat) (w : Nat) : Prop := ∀ (σ : xS) (l : List Nat) (K : List WF) (r : Int), wf2 σ0 σ → wz f σ.1 l (((c : Int), 0, r, -1) :: K) → (r = 0 ∨ r = 1 ∨ r = 2) → (r ≠ 0 → bk (f 0 c) = 2) → (K.length + c ≤ 498 + lo ∧ lo ≤ c) → l.length + w ≤ 1390 → ∃ τ, wgo t σ τ ∧ wz f τ.1 (brk r (txs f wd n c) l) K ∧ wf2 σ τ
theorem W_0 (hk : f 0 i = 0) (h5 : 0 ≤ f 5 i ∧ f 5 i ≤ 999999999) (hi : i < 3300) : wrow lo t f wd σ0 (n + 1) i (1 + d10 (f 5 i)) := by
  intro σ l K r h0 hz hr hb hK hl
  have hr0 : r = 0 := by
    by_cases e : r = 0
    · exact e
    · have := hb e
      rw [hk] at this
      exact absurd this (by decide)
  subst hr0
  have ed : (dec (f 5 i)).length = d10 (f 5 i) := dec_len
  obtain ⟨τ0, e0, z0, q0⟩ := wr_0 (t := t) hz (by omega) hi hr (by omega)
  have e1 : opb 0 l = l := (opb_len 0 l).2 rfl
  rw [e1] at z0
  obtain ⟨τ1, a1, a2, a3⟩ := M_wN z0.1 h5 (by omega)
  have z1 := wz_wr z0 a2 a3
  have hw := (wW_len l (dec (f 5 i))).1
  obtain ⟨τ2, b1, b2, b3⟩ := wz_close z1 (by omega) hr (by omega)
  have hx3 : xin (i : Int) 3300 := xin_of (by omega) (by omega)
  have e5 : τ0.1 356 i = f 5 i := by rw [z0.2.2.2 5 (by decide)]
  refine ⟨τ2, fun w2 w3 w4 w5 => ⟨xkl w2, (0, (K.length : Int)), (0, (i : Int)), (0, f 0 i), ?_⟩, ?_, wf2_tr q0 (wf2_tr (wf2_1 a3) b3)⟩
  · rw [e0, qM_writesNode_81, if_pos hk, if_pos hx3, Int.toNat_natCast, e5, a1, Option.bind_some, qM_writesNode_97, b1, Option.bind_some, qM_writesNode_102, qM_writesNode_597]
  · have : txs f wd (n + 1) i l = wW l (dec (f 5 i)) := if_pos hk
    rw [brk_oc, e1, this]
    exact b2
theorem W_1 (hk : f 0 i = 1) (h1 : 0 ≤ f 1 i) (hi : i < 3300) (HW : ∀ υ : xS, wf2 σ0 υ → X iM_wordAt 0 [(2, 305), (0, t), (0, f 1 i)] [] υ = some ((1, wcd (wd (f 1 i)) 0), υ)) (hwd : wlt (wd (f 1 i))) : wrow lo t f wd σ0 (n + 1) i (1 + (wd (f 1 i)).length) := by
  intro σ l K r h0 hz hr hb hK hl
  have hr0 : r = 0 := by
    by_cases e : r = 0
    · exact e
    · have := hb e
      rw [hk] at this
      exact absurd this (by decide)
  subst hr0
  obtain ⟨τ0, e0, z0, q0⟩ := wr_0 (t := t) hz (by omega) hi hr (by omega)
  have e1 : opb 0 l = l := (opb_len 0 l).2 rfl
  rw [e1] at z0
  have hwa := HW τ0 (wf2_tr h0 q0)
  obtain ⟨τ1, a1, a2, a3⟩ := M_wW z0.1 hwd (by omega)
  have z1 := wz_wr z0 a2 a3
  have hw := (wW_len l (wd (f 1 i))).1
  obtain ⟨τ2, b1, b2, b3⟩ := wz_close z1 (by omega) hr (by omega)
  have hx3 : xin (i : Int) 3300 := xin_of (by omega) (by omega)
  have e5 : τ0.1 352 i = f 1 i := by rw [z0.2.2.2 1 (by decide)]
  refine ⟨τ2, fun w2 w3 w4 w5 => ⟨xkl w2, (0, (K.length : Int)), (0, (i : Int)), (0, f 0 i), ?_⟩, ?_, wf2_tr q0 (wf2_tr (wf2_1 a3) b3)⟩
  · rw [e0, qM_writesNode_81, if_neg (by omega), if_pos hk, if_pos hx3, Int.toNat_natCast, e5, hwa, Option.bind_some, qM_writesNode_124, a1, Option.bind_some, qM_writesNode_127, b1, Option.bind_some, qM_writesNode_132, qM_writesNode_597]
  · have : txs f wd (n + 1) i l = wW l (wd (f 1 i)) := by
      show (if f 0 i = 0 then _ else if f 0 i = 1 then wW l (wd (f 1 i)) else _) = _
      rw [if_neg (by omega), if_pos hk]
    rw [brk_oc, e1, this]
    exact b2
theorem aro_012 (k p : Int) (s : Bool) : aro k p s = 0 ∨ aro k p s = 1 ∨ aro k p s = 2 := by
  unfold aro
  repeat' split
  all_goals first | exact Or.inl rfl | exact Or.inr (Or.inl rfl) | exact Or.inr (Or.inr rfl)
end WLF

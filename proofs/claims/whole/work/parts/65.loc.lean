/-! locals -/
theorem yxnth_lt {α : Type} : ∀ {l : List α} {i : Nat} {v : α}, xnth l i = some v → i < l.length
  | [], _, _, h => by cases h
  | _ :: _, 0, _, _ => Nat.succ_pos _
  | _ :: l, i + 1, v, h => Nat.succ_lt_succ (yxnth_lt (l := l) h)
theorem xnth_get {α : Type} : ∀ (l : List α) (i : Nat), xnth l i = l[i]?
  | [], _ => rfl
  | _ :: _, 0 => rfl
  | _ :: l, i + 1 => by
    show xnth l i = _
    rw [xnth_get l i]
    simp
theorem len_put {α : Type} : ∀ (l : List α) (i : Nat) (v : α), (xput l i v).length = l.length
  | [], _, _ => rfl
  | _ :: _, 0, _ => rfl
  | _ :: l, i + 1, v => by
    show (xput l i v).length + 1 = l.length + 1
    rw [len_put l i v]
theorem xnth_put {α : Type} : ∀ (l : List α) (i j : Nat) (v : α), xnth (xput l i v) j = if j = i ∧ i < l.length then some v else xnth l j
  | [], i, j, v => by simp [xput]
  | a :: l, 0, 0, v => by simp [xput, xnth]
  | a :: l, 0, j + 1, v => by simp [xput, xnth]
  | a :: l, i + 1, 0, v => by simp [xput, xnth]
  | a :: l, i + 1, j + 1, v => by
    show xnth (xput l i v) j = _
    rw [xnth_put l i j v]
    simp [xnth]
theorem len_kill : ∀ (l : List xAV) (i : Nat), (xkill l i).length = l.length
  | [], _ => rfl
  | _ :: _, 0 => rfl
  | _ :: _, 1 => rfl
  | _ :: l, i + 2 => by
    show (xkill l (i + 1)).length + 1 = l.length + 1
    rw [len_kill l (i + 1)]
theorem xnth_kill : ∀ (l : List xAV) (i j : Nat), xnth (xkill l i) j = if j + 1 = i then (xnth l j).map xkl else xnth l j
  | [], i, j => by simp [xkill, xnth]
  | w :: l, 0, j => by simp [xkill]
  | w :: l, 1, 0 => by simp [xkill, xnth]
  | w :: l, 1, j + 1 => by simp [xkill, xnth]
  | w :: l, i + 2, 0 => by simp [xkill, xnth]
  | w :: l, i + 2, j + 1 => by
    show xnth (xkill l (i + 1)) j = _
    rw [xnth_kill l (i + 1) j]
    simp [xnth]
/-- the frame's locals are the interpreter's -/
def yL (b : Nat) (ac : Nat → Nat) (oq : Value) (ls : List xAV) (rs : Array Slot) : Prop := rs.size = ls.length ∧ lv_wf rs ∧ ∀ i w, xnth ls i = some w → w.1 ≤ 3 → rs[i]? = some (.val (ycv b ac oq w)) ∧ yvv w
def yLl (b : Nat) (ac : Nat → Nat) (oq : Value) (ls : List xAV) : List (Nat × Value) := (List.range ls.length).filterMap fun j => match xnth ls j with
  | some w => if w.1 ≤ 3 then some (j, ycv b ac oq w) else none
  | none => none
section YLOC
variable {b : Nat} {ac : Nat → Nat} {oq : Value}
theorem yLl_mem {ls : List xAV} {q : Nat × Value} : q ∈ yLl b ac oq ls ↔ ∃ w, xnth ls q.1 = some w ∧ w.1 ≤ 3 ∧ q.2 = ycv b ac oq w := by
  unfold yLl
  rw [List.mem_filterMap]
  constructor
  · rintro ⟨j, -, h⟩
    cases hn : xnth ls j with
    | none => rw [hn] at h; cases h
    | some w =>
      rw [hn] at h
      simp only at h
      by_cases hw : w.1 ≤ 3
      · rw [if_pos hw] at h
        cases h
        exact ⟨w, hn, hw, rfl⟩
      · rw [if_neg hw] at h; cases h
  · rintro ⟨w, h1, h2, h3⟩
    refine ⟨q.1, List.mem_range.mpr (yxnth_lt h1), ?_⟩
    rw [h1]
    simp only
    rw [if_pos h2, ← h3]
theorem yL.has {ls : List xAV} {rs : Array Slot} (h : yL b ac oq ls rs) : lv_has rs ls.length (yLl b ac oq ls) := by
  refine ⟨h.1, h.2.1, fun q hq => ?_⟩
  obtain ⟨w, h1, h2, h3⟩ := yLl_mem.mp hq
  rw [h3]
  exact (h.2.2 _ _ h1 h2).1
theorem ycv_cat {w : xAV} (ho : oq.category = 1) : (ycv b ac oq w).category = 2 ↔ w.1 = 1 := by
  obtain ⟨t, x⟩ := w
  unfold ycv
  match t with
  | 0 => simp [Value.category]
  | 1 => simp [Value.category]
  | 2 =>
    simp only
    cases yrf b ac x <;> simp [va_rf, Value.category]
  | t + 3 => simp [ho]
theorem ycv_cat1 {w : xAV} (ho : oq.category = 1) (h : w.1 ≠ 1) : (ycv b ac oq w).category = 1 := by
  rcases lv_cat (ycv b ac oq w) with z | z
  · exact z
  · exact absurd ((ycv_cat ho).mp z) h
theorem xkl_tag {w : xAV} (h : (xkl w).1 ≤ 3) : xkl w = w ∧ w.1 ≠ 1 := by
  unfold xkl at h ⊢
  cases hb : Nat.beq w.1 1 with
  | true => rw [hb] at h; exact absurd (show 9 ≤ 3 from h) (by decide)
  | false =>
    refine ⟨rfl, fun e => ?_⟩
    rw [e] at hb
    cases hb
theorem yL_set1 {ls : List xAV} {rs rs' : Array Slot} {i t : Nat} {x : Int} (ho : oq.category = 1) (h : yL b ac oq ls rs) (hi : i < ls.length) (ht : t ≠ 1) (hv : yvv (t, x))
    (h' : lv_has rs' ls.length ((i, ycv b ac oq (t, x)) :: (yLl b ac oq ls).filter (fun q => !(q.1 == i) && !(q.1 + 1 == i && q.2.category == 2)))) : yL b ac oq (xset ls i t x) rs' := by
  have hb : Nat.beq t 1 = false := by cases z : Nat.beq t 1 with
    | false => rfl
    | true => exact absurd (Nat.eq_of_beq_eq_true z) ht
  have hs : xset ls i t x = xput (xkill ls i) i (t, x) := by unfold xset; rw [hb]; rfl
  rw [hs]
  refine ⟨by rw [len_put, len_kill]; exact h'.1, h'.2.1, fun j w hj hw => ?_⟩
  rw [xnth_put, len_kill] at hj
  by_cases hji : j = i
  · subst hji
    rw [if_pos ⟨rfl, hi⟩] at hj
    cases hj
    exact ⟨h'.2.2 _ List.mem_cons_self, hv⟩
  · rw [if_neg (fun q => hji q.1), xnth_kill] at hj
    have key : ∀ w0, xnth ls j = some w0 → w0.1 ≤ 3 → (j + 1 = i → w0.1 ≠ 1) → rs'[j]? = some (.val (ycv b ac oq w0)) ∧ yvv w0 := by
      intro w0 h1 h2 h3
      refine ⟨h'.2.2 (j, ycv b ac oq w0) (List.mem_cons_of_mem _ (List.mem_filter.mpr ⟨yLl_mem.mpr ⟨w0, h1, h2, rfl⟩, ?_⟩)), (h.2.2 _ _ h1 h2).2⟩
      simp only [Bool.and_eq_true, Bool.not_eq_true', beq_eq_false_iff_ne, ne_eq, Bool.and_eq_false_iff]
      refine ⟨hji, ?_⟩
      by_cases e : j + 1 = i
      · exact Or.inr fun z => h3 e ((ycv_cat ho).mp z)
      · exact Or.inl e
    by_cases e : j + 1 = i
    · rw [if_pos e] at hj
      cases hn : xnth ls j with
      | none => rw [hn] at hj; cases hj
      | some w0 =>
        rw [hn] at hj
        cases hj
        obtain ⟨e1, e2⟩ := xkl_tag hw
        rw [e1] at hw ⊢
        exact key w0 hn hw (fun _ => e2)
    · rw [if_neg e] at hj
      exact key w hj hw (fun z => absurd z e)
theorem yL_set2 {ls : List xAV} {rs rs' : Array Slot} {i : Nat} {x : Int} (ho : oq.category = 1) (h : yL b ac oq ls rs) (hi : i + 1 < ls.length) (hv : yvv (1, x))
    (h' : lv_has rs' ls.length ((i, ycv b ac oq (1, x)) :: (yLl b ac oq ls).filter (fun q => !(q.1 == i) && (!(q.1 == i + 1) && !(q.1 + 1 == i && q.2.category == 2))))) : yL b ac oq (xset ls i 1 x) rs' := by
  have hs : xset ls i 1 x = xput (xput (xkill ls i) i (1, x)) (i + 1) (8, 0) := rfl
  rw [hs]
  refine ⟨by rw [len_put, len_put, len_kill]; exact h'.1, h'.2.1, fun j w hj hw => ?_⟩
  rw [xnth_put, len_put, len_kill] at hj
  by_cases hj1 : j = i + 1
  · subst hj1
    rw [if_pos ⟨rfl, hi⟩] at hj
    cases hj
    exact absurd hw (by decide)
  rw [if_neg (fun q => hj1 q.1), xnth_put, len_kill] at hj
  by_cases hji : j = i
  · subst hji
    rw [if_pos ⟨rfl, by omega⟩] at hj
    cases hj
    exact ⟨h'.2.2 _ List.mem_cons_self, hv⟩
  · rw [if_neg (fun q => hji q.1), xnth_kill] at hj
    have key : ∀ w0, xnth ls j = some w0 → w0.1 ≤ 3 → (j + 1 = i → w0.1 ≠ 1) → rs'[j]? = some (.val (ycv b ac oq w0)) ∧ yvv w0 := by
      intro w0 h1 h2 h3
      refine ⟨h'.2.2 (j, ycv b ac oq w0) (List.mem_cons_of_mem _ (List.mem_filter.mpr ⟨yLl_mem.mpr ⟨w0, h1, h2, rfl⟩, ?_⟩)), (h.2.2 _ _ h1 h2).2⟩
      simp only [Bool.and_eq_true, Bool.not_eq_true', beq_eq_false_iff_ne, ne_eq, Bool.and_eq_false_iff]
      refine ⟨hji, hj1, ?_⟩
      by_cases e : j + 1 = i
      · exact Or.inr fun z => h3 e ((ycv_cat ho).mp z)
      · exact Or.inl e
    by_cases e : j + 1 = i
    · rw [if_pos e] at hj
      cases hn : xnth ls j with
      | none => rw [hn] at hj; cases hj
      | some w0 =>
        rw [hn] at hj
        cases hj
        obtain ⟨e1, e2⟩ := xkl_tag hw
        rw [e1] at hw ⊢
        exact key w0 hn hw (fun _ => e2)
    · rw [if_neg e] at hj
      exact key w hj hw (fun z => absurd z e)
end YLOC

/-! a stand-in for 79, 80 while they are mended -/
theorem yM_at {i : Nat} {y : yMt} (h : xnth yMl i = some y) : yM i = y := by unfold yM; rw [h]
theorem yxnth_app {α : Type} : ∀ (l1 l2 : List α) (k : Nat), xnth (l1 ++ l2) k = if k < l1.length then xnth l1 k else xnth l2 (k - l1.length)
  | [], l2, k => by simp
  | a :: l1, l2, 0 => by simp [xnth]
  | a :: l1, l2, k + 1 => by
    show xnth (l1 ++ l2) k = _
    rw [yxnth_app l1 l2 k]
    simp [xnth]
theorem ySel_0 : Cond.selects "java/lang/StringBuilder" ⟨"java/lang/AbstractStringBuilder", "isLatin1", "()Z"⟩ ⟨"java/lang/AbstractStringBuilder", "isLatin1", "()Z"⟩ ∈ tables_1 := List.mem_of_getElem? (i := 1131) (by decide +kernel)
theorem ySel_in : ∀ q ∈ yPs, Cond.privateMethod (yPm q) ∈ tables_1 ∧ Cond.instanceMethod (yPm q) ∈ tables_1 := List.forall_mem_cons.mpr ⟨⟨List.mem_of_getElem? (i := 1098) (by decide +kernel), List.mem_of_getElem? (i := 1099) (by decide +kernel)⟩, List.forall_mem_cons.mpr ⟨⟨List.mem_of_getElem? (i := 1137) (by decide +kernel), List.mem_of_getElem? (i := 1138) (by decide +kernel)⟩, List.forall_mem_cons.mpr ⟨⟨List.mem_of_getElem? (i := 1398) (by decide +kernel), List.mem_of_getElem? (i := 1399) (by decide +kernel)⟩, List.forall_mem_cons.mpr ⟨⟨List.mem_of_getElem? (i := 1406) (by decide +kernel), List.mem_of_getElem? (i := 1407) (by decide +kernel)⟩, List.forall_mem_cons.mpr ⟨⟨List.mem_of_getElem? (i := 1102) (by decide +kernel), List.mem_of_getElem? (i := 1103) (by decide +kernel)⟩, List.forall_mem_cons.mpr ⟨⟨List.mem_of_getElem? (i := 1410) (by decide +kernel), List.mem_of_getElem? (i := 1411) (by decide +kernel)⟩, fun _ h => absurd h List.not_mem_nil⟩⟩⟩⟩⟩⟩
theorem yCk_ok : yCk xFk yM xPg yWL := sorry
theorem yCm_ok : yCm yM xPg := sorry

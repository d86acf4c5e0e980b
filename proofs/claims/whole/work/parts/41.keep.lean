/-! one group of cells changes, the others stand -/
section KEEP
variable {m m' : Nat → Nat → Int}
theorem pJ_st (h : pJ m) (hn : st_J m') (fr : ∀ a, ¬ (202 ≤ a ∧ a ≤ 206) → ¬ (306 ≤ a ∧ a ≤ 310) → a ≠ 201 → a ≠ 305 → m' a = m a) (sl : ∀ k, k ≠ 6 → m' 305 k = m 305 k) (mo : m 305 6 ≤ m' 305 6) : pJ m' := by
  obtain ⟨a1, a2, a3, a4, a5, a6, a7, a8, a9⟩ := h
  refine ⟨hn, ho_J_cg (fun a _ => fr a (by omega) (by omega) (by omega) (by omega)) ?_ (sl _ (by omega)) a2, bk_J_cg (fun a _ => fr a (by omega) (by omega) (by omega) (by omega)) (fun k _ => ?_) (fun k _ => sl k (by omega)) mo (Int.le_of_eq (sl 11 (by omega)).symm) a3, ht_J_cg (fun a _ => fr a (by omega) (by omega) (by omega) (by omega)) ?_ (sl _ (by omega)) a4, ev_J_cg (fun a _ => fr a (by omega) (by omega) (by omega) (by omega)) (fun k _ => ?_) (fun k _ => sl k (by omega)) (Int.le_of_eq (sl 11 (by omega)).symm) (Int.le_of_eq (sl 0 (by omega)).symm) a5, sp_J_cg (fun k _ => ?_) (fun k _ _ => sl k (by omega)) a6, ng_J_cg (fun a _ => fr a (by omega) (by omega) (by omega) (by omega)) (fun k _ => ?_) (fun k _ => sl k (by omega)) mo a7, wn_J_cg (fun a _ => fr a (by omega) (by omega) (by omega) (by omega)) a8, tp_J_cg (fun a _ => fr a (by omega) (by omega) (by omega) (by omega)) (fun k _ => ?_) (fun k _ => sl k (by omega)) a9⟩
  all_goals rw [fr _ (by omega) (by omega) (by omega) (by omega)]
theorem pJ_ho (h : pJ m) (hn : ho_J m') (fr : ∀ a, ¬ (210 ≤ a ∧ a ≤ 213) → ¬ (311 ≤ a ∧ a ≤ 314) → a ≠ 209 → a ≠ 305 → m' a = m a) (sl : ∀ k, k ≠ 11 → m' 305 k = m 305 k) (mo : m 305 11 ≤ m' 305 11) : pJ m' := by
  obtain ⟨a1, a2, a3, a4, a5, a6, a7, a8, a9⟩ := h
  refine ⟨st_J_cg (fun a _ => fr a (by omega) (by omega) (by omega) (by omega)) ?_ (sl _ (by omega)) a1, hn, bk_J_cg (fun a _ => fr a (by omega) (by omega) (by omega) (by omega)) (fun k _ => ?_) (fun k _ => sl k (by omega)) (Int.le_of_eq (sl 6 (by omega)).symm) mo a3, ht_J_cg (fun a _ => fr a (by omega) (by omega) (by omega) (by omega)) ?_ (sl _ (by omega)) a4, ev_J_cg (fun a _ => fr a (by omega) (by omega) (by omega) (by omega)) (fun k _ => ?_) (fun k _ => sl k (by omega)) mo (Int.le_of_eq (sl 0 (by omega)).symm) a5, sp_J_cg (fun k _ => ?_) (fun k _ _ => sl k (by omega)) a6, ng_J_cg (fun a _ => fr a (by omega) (by omega) (by omega) (by omega)) (fun k _ => ?_) (fun k _ => sl k (by omega)) (Int.le_of_eq (sl 6 (by omega)).symm) a7, wn_J_cg (fun a _ => fr a (by omega) (by omega) (by omega) (by omega)) a8, tp_J_cg (fun a _ => fr a (by omega) (by omega) (by omega) (by omega)) (fun k _ => ?_) (fun k _ => sl k (by omega)) a9⟩
  all_goals rw [fr _ (by omega) (by omega) (by omega) (by omega)]
theorem pJ_bk (h : pJ m) (hn : bk_J m') (fr : ∀ a, ¬ (217 ≤ a ∧ a ≤ 228) → ¬ (315 ≤ a ∧ a ≤ 323) → a ≠ 216 → a ≠ 305 → m' a = m a) (sl : ∀ k, k ≠ 22 → k ≠ 15 → k ≠ 23 → k ≠ 0 → m' 305 k = m 305 k) (mo : m 305 0 ≤ m' 305 0) : pJ m' := by
  obtain ⟨a1, a2, a3, a4, a5, a6, a7, a8, a9⟩ := h
  refine ⟨st_J_cg (fun a _ => fr a (by omega) (by omega) (by omega) (by omega)) ?_ (sl _ (by omega) (by omega) (by omega) (by omega)) a1, ho_J_cg (fun a _ => fr a (by omega) (by omega) (by omega) (by omega)) ?_ (sl _ (by omega) (by omega) (by omega) (by omega)) a2, hn, ht_J_cg (fun a _ => fr a (by omega) (by omega) (by omega) (by omega)) ?_ (sl _ (by omega) (by omega) (by omega) (by omega)) a4, ev_J_cg (fun a _ => fr a (by omega) (by omega) (by omega) (by omega)) (fun k _ => ?_) (fun k _ => sl k (by omega) (by omega) (by omega) (by omega)) (Int.le_of_eq (sl 11 (by omega) (by omega) (by omega) (by omega)).symm) mo a5, sp_J_cg (fun k _ => ?_) (fun k _ _ => sl k (by omega) (by omega) (by omega) (by omega)) a6, ng_J_cg (fun a _ => fr a (by omega) (by omega) (by omega) (by omega)) (fun k _ => ?_) (fun k _ => sl k (by omega) (by omega) (by omega) (by omega)) (Int.le_of_eq (sl 6 (by omega) (by omega) (by omega) (by omega)).symm) a7, wn_J_cg (fun a _ => fr a (by omega) (by omega) (by omega) (by omega)) a8, tp_J_cg (fun a _ => fr a (by omega) (by omega) (by omega) (by omega)) (fun k _ => ?_) (fun k _ => sl k (by omega) (by omega) (by omega) (by omega)) a9⟩
  all_goals rw [fr _ (by omega) (by omega) (by omega) (by omega)]
/-- the groups behind the book: what is written lies in cells of one of them -/
theorem pJ_oth (h : pJ m) (hq : (ht_J m' ∧ ev_J m' ∧ sp_J m' ∧ ng_J m') ∧ wn_J m' ∧ tp_J m') (fr : ∀ a, (200 < a ∧ a ≤ 228 ∧ a ≠ 200) ∨ (306 ≤ a ∧ a ≤ 323) → m' a = m a) (sl : ∀ k, k = 0 ∨ k = 6 ∨ k = 11 ∨ k = 15 ∨ k = 22 ∨ k = 23 → m' 305 k = m 305 k) : pJ m' := by
  obtain ⟨a1, a2, a3, a4, a5, a6, a7, a8, a9⟩ := h
  refine ⟨st_J_cg (fun a _ => fr a (by omega)) ?_ (sl _ (by omega)) a1, ho_J_cg (fun a _ => fr a (by omega)) ?_ (sl _ (by omega)) a2, bk_J_cg (fun a _ => fr a (by omega)) (fun k _ => ?_) (fun k _ => sl k (by omega)) (Int.le_of_eq (sl 6 (by omega)).symm) (Int.le_of_eq (sl 11 (by omega)).symm) a3, hq.1.1, hq.1.2.1, hq.1.2.2.1, hq.1.2.2.2, hq.2.1, hq.2.2⟩
  all_goals rw [fr _ (by omega)]
end KEEP
/-- terms' cells stand -/
def teF (σ τ : xS) : Prop := τ.2 = σ.2 ∧ (∀ a, 392 ≤ a ∨ a = 243 ∨ a = 244 ∨ (341 ≤ a ∧ a ≤ 356) → τ.1 a = σ.1 a) ∧ ∀ k, k = 49 ∨ k = 57 ∨ k = 64 → τ.1 305 k = σ.1 305 k
/-- a call that writes -/
def stOK (σ : xS) (ci : Nat) (cl : List xAV) (mi : Nat) (ml : List xAV) : Prop := ∃ v τ τ', X ci 0 cl [] σ = some (v, τ) ∧ X mi 0 ml [] τ = some (v, τ') ∧ pJ τ'.1 ∧ teF σ τ'
theorem teF_rf (σ : xS) : teF σ σ := ⟨rfl, fun _ _ => rfl, fun _ _ => rfl⟩
theorem st_same {σ : xS} {ci : Nat} {cl : List xAV} {mi : Nat} {ml : List xAV} {v : xAV} (hP : pJ σ.1) (h1 : X ci 0 cl [] σ = some (v, σ)) (h2 : X mi 0 ml [] σ = some (v, σ)) : stOK σ ci cl mi ml := ⟨v, σ, σ, h1, h2, hP, teF_rf σ⟩
theorem xite {α : Type} {c : Prop} [Decidable c] {A B r : α} (h1 : c → A = r) (h2 : ¬ c → B = r) : (if c then A else B) = r := by
  by_cases h : c
  · rw [if_pos h]; exact h1 h
  · rw [if_neg h]; exact h2 h

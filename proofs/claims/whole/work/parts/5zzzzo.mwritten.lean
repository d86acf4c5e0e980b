/-! the reference writes a text -/
section MWT
variable {σ τ υ : xS} {A f : Nat → Nat → Int} {l : List Nat} {i F M t : Nat}
/-- what is told of a text's letters -/
def wva (L : List Nat) (a : Int) : Int := if a = -1 then (L.length : Int) else if 0 ≤ a ∧ a < (L.length : Int) then ((L.getD a.toNat 0 : Nat) : Int) else -1
theorem tws_le : ∀ (d j : Nat), tws A f F j ≤ tws A f F (j + d)
  | 0, _ => Nat.le_refl _
  | d + 1, j => Nat.le_trans (tws_le d j) (Nat.le_add_right _ _)
theorem M_w31 (hA : ∀ q, q < 7 → σ.1 (344 + q) = A q) (hf : ∀ q, q < 6 → σ.1 (351 + q) = f q) (hF : t < 8 ∧ σ.1 341 t = (F : Int)) (hM : σ.1 342 t = (M : Int)) (hFM : F + M ≤ 199) (hst : ∀ j, j < M → stM A f F (F + j)) (hnm : ∀ y, F ≤ y → y < F + M → A 0 y = 0 → nmk (A 6 y)) (hw : tws A f F M ≤ 1389) (a : Int) : ∀ (d j : Nat) (τ : xS), j + d = M → wo τ.1 (txa A f F j) → wf2 σ τ → ∃ υ, X iM_written 31 [(2, 305), (0, (t : Int)), (0, a), (0, ((F + j : Nat) : Int))] [] τ = X iM_written 31 [(2, 305), (0, (t : Int)), (0, a), (0, ((F + M : Nat) : Int))] [] υ ∧ wo υ.1 (txa A f F M) ∧ wf2 σ υ
  | 0, j, τ, e, h1, h2 => by
    have e : j = M := e
    subst e
    exact ⟨τ, rfl, h1, h2⟩
  | d + 1, j, τ, e, h1, h2 => by
    have hj : j < M := by omega
    have hA' := wf2_A h2 hA
    have hf' : ∀ q, q < 6 → τ.1 (351 + q) = f q := fun q hq => by rw [h2.2.1 _ (by omega) (by omega)]; exact hf q hq
    have h341 : τ.1 341 t = (F : Int) := by rw [h2.2.1 341 (by decide) (by decide)]; exact hF.2
    have h342 : τ.1 342 t = (M : Int) := by rw [h2.2.1 342 (by decide) (by decide)]; exact hM
    have ht : xin (t : Int) 8 := xin_of (by omega) (by omega)
    have l1 := txa_len j fun x hx => hst x (by omega)
    have l2 : tws A f F (j + 1) ≤ tws A f F M := by
      have := tws_le (A := A) (f := f) (F := F) (M - (j + 1)) (j + 1)
      rwa [show j + 1 + (M - (j + 1)) = M by omega] at this
    have l3 : tws A f F (j + 1) = tws A f F j + sw A f F (F + j) := rfl
    obtain ⟨τ1, b1, b2, b3⟩ := M_wStm (i := F + j) h1 hf' hA' ⟨hF.1, h341⟩ ⟨Nat.le_add_right _ _, by omega⟩ (hst j hj) (fun y y1 y2 => hnm y y1 (by omega)) (by omega)
    obtain ⟨υ, c1, c2, c3⟩ := M_w31 hA hf hF hM hFM hst hnm hw a d (j + 1) τ1 (by omega) b2 (wf2_tr h2 b3)
    refine ⟨υ, ?_, c2, c3⟩
    have e1 : xw (((F + j : Nat) : Int) + 1) = ((F + (j + 1) : Nat) : Int) := xw_t (n := F + j) (by omega)
    rw [qM_written_31, if_pos ht, if_pos ht, Int.toNat_natCast, h341, h342, xw_pl (by omega), if_pos (by clear e1; omega), b1, Option.bind_some, qM_written_54, e1]
    exact c1
theorem getD_P {P : Nat → Prop} : ∀ (l : List Nat) (i : Nat), (∀ c ∈ l, P c) → i < l.length → P (l.getD i 0)
  | [], _, _, h => absurd h (Nat.not_lt_zero _)
  | c :: l, 0, h, _ => h c (List.mem_cons_self ..)
  | c :: l, i + 1, h, hi => getD_P l i (fun d hd => h d (List.mem_cons_of_mem _ hd)) (Nat.lt_of_succ_lt_succ hi)
theorem M_written (hA : ∀ q, q < 7 → σ.1 (344 + q) = A q) (hf : ∀ q, q < 6 → σ.1 (351 + q) = f q) (hF : t < 8 ∧ σ.1 341 t = (F : Int)) (hM : σ.1 342 t = (M : Int)) (hFM : F + M ≤ 199) (hst : ∀ j, j < M → stM A f F (F + j)) (hnm : ∀ y, F ≤ y → y < F + M → A 0 y = 0 → nmk (A 6 y)) (hw : tws A f F M ≤ 1389) (h49 : (t : Int) < σ.1 305 49) (hb : ∀ c ∈ txa A f F M, c < 128) (a : Int) : ∃ τ, X iM_written 0 [(2, 305), (0, (t : Int)), (0, a), (9, 0)] [] σ = some ((0, wva (txa A f F M) a), τ) ∧ wf2 σ τ := by
  have q0 : wf2 σ (xs (xs σ 305 92 0) 305 93 0) := wf2_1 (wfr1_tr (wfr1_s (Or.inr ⟨rfl, Or.inl rfl⟩) _) (wfr1_s (Or.inr ⟨rfl, Or.inr rfl⟩) _))
  have w0 : wo (xs (xs σ 305 92 0) 305 93 0).1 (txa A f F 0) := ⟨⟨by rw [xs_at, xup_ne (by decide), xs_at, xup_eq]; rfl, fun i hi => absurd hi (Nat.not_lt_zero _)⟩, by rw [xs_at, xup_eq]; rfl⟩
  obtain ⟨υ, c1, c2, c3⟩ := M_w31 hA hf hF hM hFM hst hnm hw a M 0 _ (Nat.zero_add _) w0 q0
  have ht : xin (t : Int) 8 := xin_of (by omega) (by omega)
  have h341 : υ.1 341 t = (F : Int) := by rw [c3.2.1 341 (by decide) (by decide)]; exact hF.2
  have h342 : υ.1 342 t = (M : Int) := by rw [c3.2.1 342 (by decide) (by decide)]; exact hM
  have hl := txa_len M hst
  refine ⟨υ, ?_, c3⟩
  have c1 : X iM_written 31 [(2, 305), (0, (t : Int)), (0, a), (0, (F : Int))] [] (xs (xs σ 305 92 0) 305 93 0) = X iM_written 31 [(2, 305), (0, (t : Int)), (0, a), (0, ((F + M : Nat) : Int))] [] υ := c1
  rw [qM_written_0, if_neg (by omega), if_pos h49, if_pos ht, Int.toNat_natCast, hF.2, c1, qM_written_31, if_pos ht, if_pos ht, Int.toNat_natCast, h341, h342, xw_pl (by omega), if_neg (by omega), c2.1.1]
  unfold wva
  by_cases a1 : a = -1
  · rw [if_pos a1, if_pos a1]
  rw [if_neg a1, if_neg a1]
  by_cases a2 : a < 0
  · rw [if_pos a2, if_neg (by omega)]
  rw [if_neg a2]
  by_cases a3 : a < ((txa A f F M).length : Int)
  · have hi : a.toNat < (txa A f F M).length := by omega
    rw [if_pos a3, if_pos (xin_of (by omega) (by omega)), if_pos ⟨by omega, a3⟩, c2.1.2 _ hi, xna2_c _ (getD_P _ _ hb hi)]
  · rw [if_neg a3, if_neg (by omega)]
end MWT

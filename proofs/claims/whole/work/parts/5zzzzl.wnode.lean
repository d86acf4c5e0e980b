/-! writesNode -/
section WND
variable {σ0 σ τ υ : xS} {f : Nat → Nat → Int} {l : List Nat} {t : Int} {i lo : Nat} {wd : Int → List Nat} {n w : Nat}
theorem M_wNode (hw : wo σ.1 l) (hf : ∀ q, q < 6 → σ.1 (351 + q) = f q) (h0 : wf2 σ0 σ) (W : wrow lo t f wd σ0 n i w) (hi : i ≤ 498 + lo ∧ lo ≤ i) (hl : l.length + w ≤ 1390) : ∃ τ, X iM_writesNode 0 [(2, 305), (0, t), (0, (i : Int)), (9, 0), (9, 0), (9, 0)] [] σ = some ((9, 0), τ) ∧ wo τ.1 (txs f wd n i l) ∧ (∀ q, q < 6 → τ.1 (351 + q) = f q) ∧ wf2 σ τ := by
  have z0 : wz f (xs σ 305 98 0).1 l [] := ⟨wo_o hw (xs_ne (by decide)) ⟨by rw [xs_at, xup_ne (by decide)], by rw [xs_at, xup_ne (by decide)]⟩, by rw [xs_at, xup_eq]; rfl, trivial, fun q hq => by rw [xs_ne (by omega)]; exact hf q hq⟩
  have q0 : wf2 σ (xs σ 305 98 0) := wf2_s (Or.inr ⟨rfl, rfl⟩) 0
  obtain ⟨τ1, b1, b2, b3⟩ := wz_begin z0 (by decide) (i : Int) 0
  obtain ⟨τ2, c1, c2, c3⟩ := W τ1 l [] 0 (wf2_tr h0 (wf2_tr q0 b3)) b2 (Or.inl rfl) (fun h => absurd rfl h) (by show 0 + i ≤ 498 + lo ∧ lo ≤ i; omega) hl
  have b0 : brk 0 (txs f wd n i) l = txs f wd n i l := by
    unfold brk
    rw [if_neg (by decide), if_neg (by decide)]
  rw [b0] at c2
  obtain ⟨u2, u3, u4, u5, e⟩ := c1 (0, (i : Int)) (9, 0) (9, 0) (9, 0)
  have h98 : ¬ 0 < τ2.1 305 98 := by rw [c2.2.1]; decide
  exact ⟨τ2, by rw [qM_writesNode_0, b1, Option.bind_some, e, qM_writesNode_11, if_neg h98], c2.1, c2.2.2.2, wf2_tr q0 (wf2_tr b3 c3)⟩
end WND

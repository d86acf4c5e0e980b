/-! the writer of rows: a round's head -/
section WRO
variable {σ τ υ : xS} {f : Nat → Nat → Int} {l : List Nat} {t : Int} {K : List WF} {i : Nat} {a r p : Int}
def opb (r : Int) (l : List Nat) : List Nat := if r = 1 then l ++ [40] else if r = 2 then l ++ [91] else l
def clb (r : Int) (l : List Nat) : List Nat := if r = 1 then l ++ [41] else if r = 2 then l ++ [93] else l
theorem brk_oc (r : Int) (g : List Nat → List Nat) (l : List Nat) : brk r g l = clb r (g (opb r l)) := by
  unfold brk clb opb
  by_cases h1 : r = 1
  · rw [if_pos h1, if_pos h1, if_pos h1]
  by_cases h2 : r = 2
  · rw [if_neg h1, if_pos h2, if_neg h1, if_pos h2, if_neg h1, if_pos h2]
  · rw [if_neg h1, if_neg h2, if_neg h1, if_neg h2, if_neg h1, if_neg h2]
/-- a sign, as the rounds write it themselves -/
noncomputable def psg (σ : xS) (l : List Nat) (c : Int) : xS := xs (xs (xs σ 370 l.length c) 305 92 ((l.length + 1 : Nat) : Int)) 305 93 0
theorem psg_ok (h : wz f σ.1 l K) {c : Nat} (hc : isld c = false) : wz f (psg σ l (c : Int)).1 (l ++ [c]) K ∧ wf2 σ (psg σ l (c : Int)) := by
  have hw : wfr1 σ (psg σ l (c : Int)) := wfr1_tr (wfr1_tr (wfr1_s (Or.inl rfl) _) (wfr1_s (Or.inr ⟨rfl, Or.inl rfl⟩) _)) (wfr1_s (Or.inr ⟨rfl, Or.inr rfl⟩) _)
  exact ⟨wz_wr h ⟨wo2_93 (wo2_put h.1.1 c) 0, by unfold psg; rw [xs_at, xup_eq, lld_snoc, hc]; rfl⟩ hw, wf2_1 hw⟩
theorem wz_at (h : wz f σ.1 l (((i : Int), a, r, p) :: K)) (hK : K.length < 500) : 0 < σ.1 305 98 ∧ xw (σ.1 305 98 - 1) = (K.length : Int) ∧ (σ.1 371 K.length = (i : Int) ∧ σ.1 372 K.length = a ∧ σ.1 373 K.length = r ∧ σ.1 374 K.length = p) := by
  have h98 : σ.1 305 98 = ((K.length + 1 : Nat) : Int) := h.2.1
  refine ⟨by rw [h98]; omega, ?_, h.2.2.1.1⟩
  rw [h98, xw_id (by omega) (by omega)]
  omega
/-- a slot of the frame -/
theorem wz_set (h : wz f σ.1 l (((i : Int), a, r, p) :: K)) (v : Int) : (wz f (xs σ 372 K.length v).1 l (((i : Int), v, r, p) :: K) ∧ wf2 σ (xs σ 372 K.length v)) ∧ wz f (xs σ 374 K.length v).1 l (((i : Int), a, r, v) :: K) ∧ wf2 σ (xs σ 374 K.length v) := by
  obtain ⟨h1, h2, ⟨⟨f1, f2, f3, f4⟩, f5⟩, h4⟩ := h
  have gen : ∀ b, 371 ≤ b → b ≤ 374 → wo (xs σ b K.length v).1 l ∧ (xs σ b K.length v).1 305 98 = ((K.length + 1 : Nat) : Int) ∧ wfs4 (xs σ b K.length v).1 K ∧ ∀ q, q < 6 → (xs σ b K.length v).1 (351 + q) = f q := fun b b1 b2 => by
    refine ⟨wo_o h1 (xs_ne (by omega)) ⟨by rw [xs_ne (by omega)], by rw [xs_ne (by omega)]⟩, by rw [xs_ne (by omega)]; exact h2, wfs4_cg (fun x k x1 x2 x3 => ?_) f5, fun q hq => by rw [xs_ne (by omega)]; exact h4 q hq⟩
    by_cases e : x = b
    · rw [e, xs_at, xup_ne (by omega)]
    · rw [xs_ne e]
  obtain ⟨g1, g2, g3, g4⟩ := gen 372 (by decide) (by decide)
  obtain ⟨k1, k2, k3, k4⟩ := gen 374 (by decide) (by decide)
  refine ⟨⟨⟨g1, g2, ⟨⟨?_, ?_, ?_, ?_⟩, g3⟩, g4⟩, wf2_s (Or.inl (by decide)) v⟩, ⟨k1, k2, ⟨⟨?_, ?_, ?_, ?_⟩, k3⟩, k4⟩, wf2_s (Or.inl (by decide)) v⟩
  · rw [xs_ne (by decide)]; exact f1
  · rw [xs_at, xup_eq]
  · rw [xs_ne (by decide)]; exact f3
  · rw [xs_ne (by decide)]; exact f4
  · rw [xs_ne (by decide)]; exact f1
  · rw [xs_ne (by decide)]; exact f2
  · rw [xs_ne (by decide)]; exact f3
  · rw [xs_at, xup_eq]
/-- a frame begun: what stands around it is opened -/
theorem wr_0 (h : wz f σ.1 l (((i : Int), 0, r, p) :: K)) (hK : K.length < 500) (hi : i < 3300) (hr : r = 0 ∨ r = 1 ∨ r = 2) (hl : l.length < 1400) : ∃ τ, (∀ w2 w3 w4 w5, X iM_writesNode 11 [(2, 305), (0, t), w2, w3, w4, w5] [] σ = X iM_writesNode 81 [(2, 305), (0, t), xkl w2, (0, (K.length : Int)), (0, (i : Int)), (0, f 0 i)] [] τ) ∧ wz f τ.1 (opb r l) (((i : Int), 0, r, p) :: K) ∧ wf2 σ τ := by
  have hx : xin (K.length : Int) 500 := xin_of (by omega) (by omega)
  have hx3 : xin (i : Int) 3300 := xin_of (by omega) (by omega)
  have hx2 : xin (l.length : Int) 1400 := xin_of (by omega) (by omega)
  have e92 : xw ((l.length : Int) + 1) = ((l.length + 1 : Nat) : Int) := by rw [xw_id (by omega) (by omega)]; omega
  obtain ⟨h98, e98, f1, f2, f3, f4⟩ := wz_at h hK
  have e0 : σ.1 351 i = f 0 i := by rw [h.2.2.2 0 (by decide)]
  have h92 := h.1.1.1
  rcases hr with rfl | rfl | rfl
  · refine ⟨σ, fun w2 w3 w4 w5 => ?_, h, wf2_rf⟩
    rw [qM_writesNode_11, if_pos h98, e98, if_pos hx, Int.toNat_natCast, f1, if_pos hx3, if_pos hx, f2, if_pos rfl, if_pos hx, f3, if_neg (by decide), Int.toNat_natCast, e0]
  · obtain ⟨g1, g2⟩ := psg_ok h (c := 40) rfl
    refine ⟨psg σ l ((40 : Nat) : Int), fun w2 w3 w4 w5 => ?_, g1, g2⟩
    rw [qM_writesNode_11, if_pos h98, e98, if_pos hx, Int.toNat_natCast, f1, if_pos hx3, if_pos hx, f2, if_pos rfl, if_pos hx, f3, if_pos (by decide), if_pos hx, if_pos rfl, h92, if_pos hx2, Int.toNat_natCast, e0, e92, Int.toNat_natCast]
    rfl
  · obtain ⟨g1, g2⟩ := psg_ok h (c := 91) rfl
    refine ⟨psg σ l ((91 : Nat) : Int), fun w2 w3 w4 w5 => ?_, g1, g2⟩
    rw [qM_writesNode_11, if_pos h98, e98, if_pos hx, Int.toNat_natCast, f1, if_pos hx3, if_pos hx, f2, if_pos rfl, if_pos hx, f3, if_pos (by decide), if_pos hx, if_neg (by decide), h92, if_pos hx2, Int.toNat_natCast, e0, e92, Int.toNat_natCast]
    rfl
/-- a frame come back to -/
theorem wr_1 (h : wz f σ.1 l (((i : Int), a, r, p) :: K)) (ha : a ≠ 0) (hK : K.length < 500) (hi : i < 3300) : ∀ w2 w3 w4 w5, X iM_writesNode 11 [(2, 305), (0, t), w2, w3, w4, w5] [] σ = X iM_writesNode 81 [(2, 305), (0, t), xkl w2, (0, (K.length : Int)), (0, (i : Int)), (0, f 0 i)] [] σ := fun w2 w3 w4 w5 => by
  have hx : xin (K.length : Int) 500 := xin_of (by omega) (by omega)
  have hx3 : xin (i : Int) 3300 := xin_of (by omega) (by omega)
  obtain ⟨h98, e98, f1, f2, f3, f4⟩ := wz_at h hK
  have e0 : σ.1 351 i = f 0 i := by rw [h.2.2.2 0 (by decide)]
  rw [qM_writesNode_11, if_pos h98, e98, if_pos hx, Int.toNat_natCast, f1, if_pos hx3, if_pos hx, f2, if_neg ha, Int.toNat_natCast, e0]
end WRO

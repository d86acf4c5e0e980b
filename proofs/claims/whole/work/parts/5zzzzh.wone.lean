/-! the writer of rows: one part, "if" -/
section WON
variable {σ0 σ τ υ : xS} {f : Nat → Nat → Int} {l : List Nat} {t : Int} {K : List WF} {i lo : Nat} {a r p : Int} {wd : Int → List Nat} {n : Nat}
set_option maxHeartbeats 1000000 in
theorem W_u {c w1 : Nat} (hk : f 0 i = 7 ∨ f 0 i = 14) (hi : i < 3300) (e1 : f 1 i = (c : Int)) (hc : lo ≤ c ∧ c < i) (hkc : 0 ≤ f 0 c ∧ f 0 c ≤ 16) (Wc : wrow lo t f wd σ0 n c w1) (hlc : ∀ l, (txs f wd n c l).length + bk (f 0 c) ≤ l.length + w1) : wrow lo t f wd σ0 (n + 1) i ((4 - (if f 0 i = 7 then 3 else 0)) + w1) := by
  intro σ l K r h0 hz hr hb hK hl
  have hr0 : r = 0 := by
    by_cases e : r = 0
    · exact e
    · have := hb e
      rcases hk with h | h <;> (rw [h] at this; exact absurd this (by decide))
  subst hr0
  have hx : xin (K.length : Int) 500 := xin_of (by omega) (by omega)
  have hx3 : xin (i : Int) 3300 := xin_of (by omega) (by omega)
  obtain ⟨τ0, s0, z0, q0⟩ := wr_0 (t := t) hz (by omega) hi hr (by omega)
  have eo : opb 0 l = l := (opb_len 0 l).2 rfl
  rw [eo] at z0
  have f0 : τ0.1 372 K.length = 0 := z0.2.2.1.1.2.1
  have hkk : f 0 i = 2 ∨ f 0 i = 3 ∨ f 0 i = 4 ∨ f 0 i = 5 ∨ f 0 i = 6 ∨ f 0 i = 7 ∨ f 0 i = 11 ∨ f 0 i = 12 ∨ f 0 i = 13 ∨ f 0 i = 14 ∨ f 0 i = 15 ∨ f 0 i = 16 := by omega
  have q81 : ∀ υ : xS, ∀ w2, X iM_writesNode 81 [(2, 305), (0, t), w2, (0, (K.length : Int)), (0, (i : Int)), (0, f 0 i)] [] υ = X iM_writesNode 149 [(2, 305), (0, t), w2, (0, (K.length : Int)), (0, (i : Int)), (0, f 0 i)] [] υ := fun υ w2 => by
    rw [qM_writesNode_81, if_neg (by omega), if_neg (by omega)]
    rcases hk with h | h
    · rw [if_pos h]
    · rw [if_neg (by omega), if_pos h]
  have head : ∃ τ1, (∀ w2, X iM_writesNode 149 [(2, 305), (0, t), w2, (0, (K.length : Int)), (0, (i : Int)), (0, f 0 i)] [] τ0 = X iM_writesNode 181 [(2, 305), (0, t), w2, (0, (K.length : Int)), (0, (i : Int)), (0, f 0 i)] [] τ1) ∧ wz f τ1.1 (if f 0 i = 7 then l ++ [45] else wW l (kwl 21)) (((i : Int), 0, 0, -1) :: K) ∧ wf2 τ0 τ1 := by
    have hx2 : xin (τ0.1 305 92) 1400 := by rw [z0.1.1.1]; exact xin_of (by omega) (by omega)
    have h92 := z0.1.1.1
    have e92 : xw ((l.length : Int) + 1) = ((l.length + 1 : Nat) : Int) := by rw [xw_id (by omega) (by omega)]; omega
    by_cases h7 : f 0 i = 7
    · rw [if_pos h7]
      obtain ⟨g1, g2⟩ := psg_ok z0 (c := 45) rfl
      refine ⟨psg τ0 l ((45 : Nat) : Int), fun w2 => ?_, g1, g2⟩
      rw [qM_writesNode_149, if_pos hx, Int.toNat_natCast, f0, if_pos rfl, if_pos h7, if_pos hx2, h92, e92, Int.toNat_natCast]
      rfl
    · rw [if_neg h7]
      clear e92
      obtain ⟨τ1, k1, k2, k3⟩ := M_wW z0.1 (kwl_wlt 21 (by decide)) (show l.length + 3 + 1 ≤ 1400 by omega)
      have k1 : X iM_writesWord 0 [(2, 305), (1, 10631), (8, 0), (9, 0), (9, 0)] [] τ0 = some ((9, 0), τ1) := k1
      refine ⟨τ1, fun w2 => ?_, wz_wr z0 k2 k3, wf2_1 k3⟩
      rw [qM_writesNode_149, if_pos hx, Int.toNat_natCast, f0, if_pos rfl, if_neg h7, k1, Option.bind_some]
  obtain ⟨τ1, a1, a2, a3⟩ := head
  have hL : (if f 0 i = 7 then l ++ [45] else wW l (kwl 21)).length ≤ l.length + (4 - (if f 0 i = 7 then 3 else 0)) := by
    by_cases h7 : f 0 i = 7
    · rw [if_pos h7, if_pos h7, List.length_append]; exact Nat.le_refl _
    · rw [if_neg h7, if_neg h7]
      have := (wW_len l (kwl 21)).1
      have e : (kwl 21).length = 3 := rfl
      omega
  generalize hL0 : (if f 0 i = 7 then l ++ [45] else wW l (kwl 21)) = L0 at a2 hL
  obtain ⟨⟨zA, qA⟩, _⟩ := wz_set a2 1
  have r1 : τ1.1 352 i = (c : Int) := by rw [a2.2.2.2 1 (by decide)]; exact e1
  have mA := (M_aro (k := f 0 i) (x := c) (σ := xs τ1 372 K.length 1) (by omega) (by rw [zA.2.2.2 0 (by decide)]) hkc hkk).1
  obtain ⟨τ2, b1, b2, b3⟩ := wz_begin zA (show (((i : Int), 1, 0, -1) :: K : List WF).length < 500 by rw [List.length_cons]; omega) (c : Int) (aro (f 0 i) (f 0 c) false)
  have qB := wf2_tr q0 (wf2_tr a3 (wf2_tr qA b3))
  obtain ⟨τ3, c1, c2, c3⟩ := Wc τ2 L0 (((i : Int), 1, 0, -1) :: K) _ (wf2_tr h0 qB) b2 (aro_012 _ _ _) aro_bk (by rw [List.length_cons]; omega) (by omega)
  have g0 : wgo t σ τ2 := fun w2 w3 w4 w5 => ⟨xkl w2, (0, (K.length : Int)), (0, (i : Int)), (0, f 0 i), by
    rw [s0, q81, a1, qM_writesNode_181, if_pos hx, if_pos hx3, if_pos hx3, Int.toNat_natCast, Int.toNat_natCast, r1, mA, Option.bind_some, qM_writesNode_210, b1, Option.bind_some, qM_writesNode_213, qM_writesNode_597]⟩
  have k1 := brk_len (a := aro (f 0 i) (f 0 c) false) (l := L0) hlc aro_bk
  obtain ⟨τ4, v1, v2, v3⟩ := wz_close c2 (by omega) hr (by omega)
  have g2 : wgo t τ3 τ4 := fun w2 w3 w4 w5 => ⟨xkl w2, (0, (K.length : Int)), (0, (i : Int)), (0, f 0 i), by
    have f2 : τ3.1 372 K.length = 1 := c2.2.2.1.1.2.1
    rw [wr_1 (t := t) c2 (by decide) (by omega) hi, q81, qM_writesNode_149, if_pos hx, Int.toNat_natCast, f2, if_neg (by decide), v1, Option.bind_some, qM_writesNode_221, qM_writesNode_597]⟩
  refine ⟨τ4, wgo_tr g0 (wgo_tr c1 g2), ?_, wf2_tr qB (wf2_tr c3 v3)⟩
  have : txs f wd (n + 1) i l = brk (aro (f 0 i) (f 0 c) false) (txs f wd n c) L0 := by
    show (if f 0 i = 0 then _ else if f 0 i = 1 then _ else if f 0 i = 7 ∨ f 0 i = 14 then brk (aro (f 0 i) (f 0 (f 1 i).toNat) false) (txs f wd n (f 1 i).toNat) (if f 0 i = 7 then l ++ [45] else wW l (kwl 21)) else _) = _
    rw [if_neg (by omega), if_neg (by omega), if_pos hk, e1, Int.toNat_natCast, hL0]
  rw [brk_oc, eo, this]
  exact v2
end WON

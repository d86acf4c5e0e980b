/-! the writer of rows: all of a row -/
section WTR
variable {σ0 σ τ υ : xS} {f : Nat → Nat → Int} {l : List Nat} {t : Int} {K : List WF} {i lo : Nat} {a r p : Int} {wd : Int → List Nat} {n : Nat} {wx : Nat → Nat}
set_option maxHeartbeats 1000000 in
theorem W_l {c : Nat} (hk : f 0 i = 8 ∨ f 0 i = 9) (hi : i < 3300) (e1 : f 1 i = (c : Int)) (hc0 : lo ≤ c) (hc : c < i) (hcw : chw f lo i i (f 4 c)) (Wx : ∀ x, lo ≤ x → x < i → wrow lo t f wd σ0 n x (wx x)) (hlx : ∀ x, lo ≤ x → x < i → ∀ l, (txs f wd n x l).length ≤ l.length + wx x) : wrow lo t f wd σ0 (n + 1) i (6 + wx c + lsw f wx i (f 4 c)) := by
  intro σ l K r h0 hz hr hb hK hl
  have hr0 : r = 0 := by
    by_cases e : r = 0
    · exact e
    · have := hb e
      rcases hk with h | h <;> (rw [h] at this; exact absurd this (by decide))
  subst hr0
  have hx : xin (K.length : Int) 500 := xin_of (by omega) (by omega)
  have hx3 : xin (i : Int) 3300 := xin_of (by omega) (by omega)
  obtain ⟨τ0, s0, z0, q0⟩ := wr_0 (t := t) hz (by omega) hi hr (by omega)
  have eo : opb 0 l = l := (opb_len 0 l).2 rfl
  rw [eo] at z0
  have f0 : τ0.1 372 K.length = 0 := z0.2.2.1.1.2.1
  have q81 : ∀ υ : xS, ∀ w2, X iM_writesNode 81 [(2, 305), (0, t), w2, (0, (K.length : Int)), (0, (i : Int)), (0, f 0 i)] [] υ = X iM_writesNode 238 [(2, 305), (0, t), w2, (0, (K.length : Int)), (0, (i : Int)), (0, f 0 i)] [] υ := fun υ w2 => by
    rw [qM_writesNode_81, if_neg (by omega), if_neg (by omega), if_neg (by omega), if_neg (by omega)]
    rcases hk with h | h
    · rw [if_pos h]
    · rw [if_neg (by omega), if_pos h]
  have head : ∃ τ1, (∀ w2, X iM_writesNode 238 [(2, 305), (0, t), w2, (0, (K.length : Int)), (0, (i : Int)), (0, f 0 i)] [] τ0 = X iM_writesNode 271 [(2, 305), (0, t), w2, (0, (K.length : Int)), (0, (i : Int)), (0, f 0 i)] [] τ1) ∧ wz f τ1.1 (wW l (if f 0 i = 8 then kwl 17 else kwl 18)) (((i : Int), 0, 0, -1) :: K) ∧ wf2 τ0 τ1 := by
    by_cases h8 : f 0 i = 8
    · rw [if_pos h8]
      obtain ⟨τ1, k1, k2, k3⟩ := M_wW z0.1 (kwl_wlt 17 (by decide)) (show l.length + 3 + 1 ≤ 1400 by omega)
      have k1 : X iM_writesWord 0 [(2, 305), (1, 9734), (8, 0), (9, 0), (9, 0)] [] τ0 = some ((9, 0), τ1) := k1
      refine ⟨τ1, fun w2 => ?_, wz_wr z0 k2 k3, wf2_1 k3⟩
      rw [qM_writesNode_238, if_pos hx, Int.toNat_natCast, f0, if_pos rfl, if_pos h8, k1, Option.bind_some, qM_writesNode_261]
    · rw [if_neg h8]
      obtain ⟨τ1, k1, k2, k3⟩ := M_wW z0.1 (kwl_wlt 18 (by decide)) (show l.length + 3 + 1 ≤ 1400 by omega)
      have k1 : X iM_writesWord 0 [(2, 305), (1, 9528), (8, 0), (9, 0), (9, 0)] [] τ0 = some ((9, 0), τ1) := k1
      refine ⟨τ1, fun w2 => ?_, wz_wr z0 k2 k3, wf2_1 k3⟩
      rw [qM_writesNode_238, if_pos hx, Int.toNat_natCast, f0, if_pos rfl, if_neg h8, k1, Option.bind_some]
  obtain ⟨τ1, a1, a2, a3⟩ := head
  have hL : (wW l (if f 0 i = 8 then kwl 17 else kwl 18)).length ≤ l.length + 4 := by
    have h1 := (wW_len l (if f 0 i = 8 then kwl 17 else kwl 18)).1
    have h2 : (if f 0 i = 8 then kwl 17 else kwl 18).length = 3 := by
      by_cases d : f 0 i = 8
      · rw [if_pos d]; rfl
      · rw [if_neg d]; rfl
    omega
  generalize hL0 : wW l (if f 0 i = 8 then kwl 17 else kwl 18) = L0 at a2 hL
  have r1 : τ1.1 352 i = (c : Int) := by rw [a2.2.2.2 1 (by decide)]; exact e1
  have h92 := a2.1.1.1
  have hx2 : xin (L0.length : Int) 1400 := xin_of (by omega) (by omega)
  obtain ⟨g1, g2⟩ := psg_ok a2 (c := 40) rfl
  obtain ⟨⟨zA, qA⟩, _⟩ := wz_set g1 1
  obtain ⟨_, ⟨zB, qB⟩⟩ := wz_set zA (c : Int)
  obtain ⟨τ2, b1, b2, b3⟩ := wz_begin zB (show (((i : Int), 1, 0, (c : Int)) :: K : List WF).length < 500 by rw [List.length_cons]; omega) (c : Int) 0
  have qq := wf2_tr q0 (wf2_tr a3 (wf2_tr g2 (wf2_tr qA (wf2_tr qB b3))))
  have eL : (L0 ++ [40]).length = L0.length + 1 := List.length_append
  obtain ⟨τ3, c1, c2, c3⟩ := Wx c hc0 hc τ2 (L0 ++ [40]) (((i : Int), 1, 0, (c : Int)) :: K) 0 (wf2_tr h0 qq) b2 (Or.inl rfl) (fun h => absurd rfl h) (by rw [List.length_cons]; omega) (by omega)
  have b0 : brk 0 (txs f wd n c) (L0 ++ [40]) = txs f wd n c (L0 ++ [40]) := by
    unfold brk
    rw [if_neg (by decide), if_neg (by decide)]
  rw [b0] at c2
  have lt := hlx c hc0 hc (L0 ++ [40])
  obtain ⟨τ4, d1, d2, d3⟩ := W_ll hk hi (by omega) Wx hlx i c _ τ3 hc hcw (wf2_tr h0 (wf2_tr qq c3)) c2 (by omega)
  have e92 : xw ((L0.length : Int) + 1) = ((L0.length + 1 : Nat) : Int) := by rw [xw_id (by omega) (by omega)]; omega
  have b1 : X iM_begins 0 [(2, 305), (0, (c : Int)), (0, 0)] [] (xs (xs (xs (xs (xs τ1 370 L0.length 40) 305 92 ((L0.length + 1 : Nat) : Int)) 305 93 0) 372 K.length 1) 374 K.length (c : Int)) = some ((9, 0), τ2) := b1
  refine ⟨τ4, wgo_tr (fun w2 w3 w4 w5 => ⟨xkl w2, (0, (K.length : Int)), (0, (i : Int)), (0, f 0 i), ?_⟩) (wgo_tr c1 d1), ?_, wf2_tr qq (wf2_tr c3 d3)⟩
  · rw [s0, q81, a1, qM_writesNode_271, h92, if_pos hx2, if_pos hx, if_pos hx3, if_pos hx, if_pos hx3, Int.toNat_natCast, Int.toNat_natCast, Int.toNat_natCast, r1, e92, b1, Option.bind_some, qM_writesNode_309, qM_writesNode_597]
  · have : txs f wd (n + 1) i l = lsx f (txs f wd n) i (f 4 c) (txs f wd n c (L0 ++ [40])) ++ [41] := by
      rw [← hL0]
      show (if f 0 i = 0 then _ else if f 0 i = 1 then _ else if f 0 i = 7 ∨ f 0 i = 14 then _ else if f 0 i = 8 ∨ f 0 i = 9 then lsx f (txs f wd n) i (f 4 (f 1 i).toNat) (txs f wd n (f 1 i).toNat (wW l (if f 0 i = 8 then kwl 17 else kwl 18) ++ [40])) ++ [41] else _) = _
      rw [if_neg (by omega), if_neg (by omega), if_neg (by omega), if_pos hk, e1, Int.toNat_natCast]
    rw [brk_oc, eo, this]
    exact d2
/-- a row written -/
theorem W_tree {lw : Int → Nat} {sk : Nat → Int} {F S hi : Nat} (w : wfs f sk F S lo hi) (hhi : hi ≤ 3300) (HW : ∀ x : Int, 0 ≤ x → (10 ≤ x → F + (x - 10).toNat < S ∧ sk (F + (x - 10).toNat) = 0) → wlt (wd x) ∧ (wd x).length = lw x ∧ ∀ υ : xS, wf2 σ0 υ → X iM_wordAt 0 [(2, 305), (0, t), (0, x)] [] υ = some ((1, wcd (wd x) 0), υ)) (hlen : ∀ x, 0 ≤ x → (wd x).length ≤ lw x) : ∀ (n i : Nat), lo ≤ i → i < hi → i < n → wrow lo t f wd σ0 n i (wln f lw n i)
  | 0, i, _, _, h => absurd h (Nat.not_lt_zero i)
  | n + 1, i, h1, h2, h3 => by
    obtain ⟨w0, w1, w2, w3, w4, w5, w6⟩ := w i h1 h2
    have hi : i < 3300 := by omega
    have ih : ∀ x, lo ≤ x → x < i → wrow lo t f wd σ0 n x (wln f lw n x) := fun x x1 x2 => W_tree w hhi HW hlen n x x1 (by omega) (by omega)
    have il : ∀ x, lo ≤ x → x < i → ∀ l, (txs f wd n x l).length + bk (f 0 x) ≤ l.length + wln f lw n x := fun x x1 x2 l => txs_len w hlen n x l x1 (by omega) (by omega)
    have il' : ∀ x, lo ≤ x → x < i → ∀ l, (txs f wd n x l).length ≤ l.length + wln f lw n x := fun x x1 x2 l => by have := il x x1 x2 l; omega
    have kd : ∀ x, lo ≤ x → x < i → 0 ≤ f 0 x ∧ f 0 x ≤ 16 := fun x x1 x2 => (w x x1 (by omega)).1
    show wrow lo t f wd σ0 (n + 1) i (if f 0 i = 0 then 1 + d10 (f 5 i) else if f 0 i = 1 then 1 + lw (f 1 i)
      else if f 0 i = 7 ∨ f 0 i = 14 then 4 - (if f 0 i = 7 then 3 else 0) + wln f lw n (f 1 i).toNat
      else if f 0 i = 8 ∨ f 0 i = 9 then 6 + wln f lw n (f 1 i).toNat + lsw f (wln f lw n) i (f 4 (f 1 i).toNat)
      else if f 0 i = 10 then 15 + wln f lw n (f 1 i).toNat + wln f lw n (f 2 i).toNat + wln f lw n (f 3 i).toNat
      else (if f 0 i = 15 then 6 else if f 0 i = 16 then 5 else 3) + wln f lw n (f 1 i).toNat + wln f lw n (f 2 i).toNat)
    by_cases c0 : f 0 i = 0
    · rw [if_pos c0]
      exact W_0 c0 (w1 c0) hi
    by_cases c1 : f 0 i = 1
    · obtain ⟨a1, a2, a3⟩ := HW (f 1 i) (w2 c1).1 (w2 c1).2
      rw [if_neg c0, if_pos c1, ← a2]
      exact W_1 c1 (w2 c1).1 hi a3 a1
    have a3 := w3 (by omega)
    have e1 : f 1 i = (((f 1 i).toNat : Nat) : Int) := by omega
    rw [if_neg c0, if_neg c1]
    by_cases c7 : f 0 i = 7 ∨ f 0 i = 14
    · rw [if_pos c7]
      exact W_u c7 hi e1 a3.2 (kd _ a3.2.1 a3.2.2) (ih _ a3.2.1 a3.2.2) (il _ a3.2.1 a3.2.2)
    rw [if_neg c7]
    by_cases c8 : f 0 i = 8 ∨ f 0 i = 9
    · rw [if_pos c8]
      exact W_l c8 hi e1 a3.2.1 a3.2.2 (w6 c8) ih il'
    rw [if_neg c8]
    have a4 := w4 (by omega)
    have e2 : f 2 i = (((f 2 i).toNat : Nat) : Int) := by omega
    by_cases c10 : f 0 i = 10
    · have a5 := w5 c10
      have e3 : f 3 i = (((f 3 i).toNat : Nat) : Int) := by omega
      rw [if_pos c10]
      exact W_f c10 hi e1 e2 e3 a3.2 a4.2 a5.2 (ih _ a3.2.1 a3.2.2) (ih _ a4.2.1 a4.2.2) (ih _ a5.2.1 a5.2.2) (il' _ a3.2.1 a3.2.2) (il' _ a4.2.1 a4.2.2) (il' _ a5.2.1 a5.2.2)
    · rw [if_neg c10]
      exact W_b (by omega) hi e1 e2 a3.2 a4.2 (kd _ a3.2.1 a3.2.2) (kd _ a4.2.1 a4.2.2) (ih _ a3.2.1 a3.2.2) (ih _ a4.2.1 a4.2.2) (il _ a3.2.1 a3.2.2) (il _ a4.2.1 a4.2.2)
end WTR

/-! the writer of rows: two parts -/
section WLF
variable {σ0 σ τ υ : xS} {f : Nat → Nat → Int} {l : List Nat} {t : Int} {K : List WF} {i lo : Nat} {a r p : Int} {wd : Int → List Nat} {n : Nat}
theorem M_sg (h : wo σ.1 l) {c : Nat} (hc : isld c = false) : wo (psg σ l (c : Int)).1 (l ++ [c]) ∧ wfr1 σ (psg σ l (c : Int)) := by
  refine ⟨⟨wo2_93 (wo2_put h.1 c) 0, ?_⟩, wfr1_tr (wfr1_tr (wfr1_s (Or.inl rfl) _) (wfr1_s (Or.inr ⟨rfl, Or.inl rfl⟩) _)) (wfr1_s (Or.inr ⟨rfl, Or.inr rfl⟩) _)⟩
  unfold psg
  rw [xs_at, xup_eq, lld_snoc, hc]
  rfl
theorem kwl_wlt : ∀ k, k < 32 → wlt (kwl k) := by
  have : ∀ k, k < 32 → (1 ≤ (kwl k).length ∧ (kwl k).length ≤ 8) ∧ ∀ c ∈ kwl k, 97 ≤ c ∧ c ≤ 122 := by decide
  exact this
theorem M_op (h : wo σ.1 l) {k : Int} (hk : k = 2 ∨ k = 3 ∨ k = 4 ∨ k = 5 ∨ k = 6 ∨ k = 11 ∨ k = 12 ∨ k = 13 ∨ k = 15 ∨ k = 16) (hl : l.length + 5 ≤ 1400) : ∃ τ, X iM_writesOp 0 [(2, 305), (0, k)] [] σ = some ((9, 0), τ) ∧ wo τ.1 (opx k l) ∧ wfr1 σ τ := by
  have hx : xin (σ.1 305 92) 1400 := by rw [h.1.1]; exact xin_of (by omega) (by omega)
  have h92 := h.1.1
  have e92 : xw ((l.length : Int) + 1) = ((l.length + 1 : Nat) : Int) := by rw [xw_id (by omega) (by omega)]; omega
  rcases hk with rfl | rfl | rfl | rfl | rfl | rfl | rfl | rfl | rfl | rfl
  · refine ⟨psg σ l ((43 : Nat) : Int), ?_, (M_sg h (c := 43) rfl).1, (M_sg h (c := 43) rfl).2⟩
    rw [qM_writesOp_0, if_pos (show (2 : Int) = 2 from rfl), if_pos hx, qM_writesOp_139, h92, Int.toNat_natCast, e92]
    rfl
  · refine ⟨psg σ l ((45 : Nat) : Int), ?_, (M_sg h (c := 45) rfl).1, (M_sg h (c := 45) rfl).2⟩
    rw [qM_writesOp_0, if_neg (show ¬ (3 : Int) = 2 by decide), if_pos (show (3 : Int) = 3 from rfl), if_pos hx, qM_writesOp_139, h92, Int.toNat_natCast, e92]
    rfl
  · refine ⟨psg σ l ((42 : Nat) : Int), ?_, (M_sg h (c := 42) rfl).1, (M_sg h (c := 42) rfl).2⟩
    rw [qM_writesOp_0, if_neg (show ¬ (4 : Int) = 2 by decide), if_neg (show ¬ (4 : Int) = 3 by decide), if_pos (show (4 : Int) = 4 from rfl), if_pos hx, qM_writesOp_139, h92, Int.toNat_natCast, e92]
    rfl
  · refine ⟨psg σ l ((47 : Nat) : Int), ?_, (M_sg h (c := 47) rfl).1, (M_sg h (c := 47) rfl).2⟩
    rw [qM_writesOp_0, if_neg (show ¬ (5 : Int) = 2 by decide), if_neg (show ¬ (5 : Int) = 3 by decide), if_neg (show ¬ (5 : Int) = 4 by decide), if_pos (show (5 : Int) = 5 from rfl), if_pos hx, qM_writesOp_139, h92, Int.toNat_natCast, e92]
    rfl
  · refine ⟨psg σ l ((37 : Nat) : Int), ?_, (M_sg h (c := 37) rfl).1, (M_sg h (c := 37) rfl).2⟩
    rw [qM_writesOp_0, if_neg (show ¬ (6 : Int) = 2 by decide), if_neg (show ¬ (6 : Int) = 3 by decide), if_neg (show ¬ (6 : Int) = 4 by decide), if_neg (show ¬ (6 : Int) = 5 by decide), if_pos (show (6 : Int) = 6 from rfl), if_pos hx, qM_writesOp_139, h92, Int.toNat_natCast, e92]
    rfl
  · refine ⟨psg σ l ((60 : Nat) : Int), ?_, (M_sg h (c := 60) rfl).1, (M_sg h (c := 60) rfl).2⟩
    rw [qM_writesOp_0, if_neg (show ¬ (11 : Int) = 2 by decide), if_neg (show ¬ (11 : Int) = 3 by decide), if_neg (show ¬ (11 : Int) = 4 by decide), if_neg (show ¬ (11 : Int) = 5 by decide), if_neg (show ¬ (11 : Int) = 6 by decide), if_pos (show (11 : Int) = 11 from rfl), if_pos hx, qM_writesOp_139, h92, Int.toNat_natCast, e92]
    rfl
  · refine ⟨psg σ l ((62 : Nat) : Int), ?_, (M_sg h (c := 62) rfl).1, (M_sg h (c := 62) rfl).2⟩
    rw [qM_writesOp_0, if_neg (show ¬ (12 : Int) = 2 by decide), if_neg (show ¬ (12 : Int) = 3 by decide), if_neg (show ¬ (12 : Int) = 4 by decide), if_neg (show ¬ (12 : Int) = 5 by decide), if_neg (show ¬ (12 : Int) = 6 by decide), if_neg (show ¬ (12 : Int) = 11 by decide), if_pos (show (12 : Int) = 12 from rfl), if_pos hx, qM_writesOp_139, h92, Int.toNat_natCast, e92]
    rfl
  · refine ⟨psg σ l ((61 : Nat) : Int), ?_, (M_sg h (c := 61) rfl).1, (M_sg h (c := 61) rfl).2⟩
    rw [qM_writesOp_0, if_neg (show ¬ (13 : Int) = 2 by decide), if_neg (show ¬ (13 : Int) = 3 by decide), if_neg (show ¬ (13 : Int) = 4 by decide), if_neg (show ¬ (13 : Int) = 5 by decide), if_neg (show ¬ (13 : Int) = 6 by decide), if_neg (show ¬ (13 : Int) = 11 by decide), if_neg (show ¬ (13 : Int) = 12 by decide), if_pos (show (13 : Int) = 13 from rfl), if_pos hx, qM_writesOp_139, h92, Int.toNat_natCast, e92]
    rfl
  · obtain ⟨τ, k1, k2, k3⟩ := M_wW h (kwl_wlt 20 (by decide)) (show l.length + 3 + 1 ≤ 1400 by omega)
    have k1 : X iM_writesWord 0 [(2, 305), (1, 1111), (8, 0), (9, 0), (9, 0)] [] σ = some ((9, 0), τ) := k1
    exact ⟨τ, by rw [qM_writesOp_0, if_neg (show ¬ (15 : Int) = 2 by decide), if_neg (show ¬ (15 : Int) = 3 by decide), if_neg (show ¬ (15 : Int) = 4 by decide), if_neg (show ¬ (15 : Int) = 5 by decide), if_neg (show ¬ (15 : Int) = 6 by decide), if_neg (show ¬ (15 : Int) = 11 by decide), if_neg (show ¬ (15 : Int) = 12 by decide), if_neg (show ¬ (15 : Int) = 13 by decide), if_pos (show (15 : Int) = 15 from rfl), k1, Option.bind_some, qM_writesOp_129, qM_writesOp_139], k2, k3⟩
  · obtain ⟨τ, k1, k2, k3⟩ := M_wW h (kwl_wlt 19 (by decide)) (show l.length + 2 + 1 ≤ 1400 by omega)
    have k1 : X iM_writesWord 0 [(2, 305), (1, 423), (8, 0), (9, 0), (9, 0)] [] σ = some ((9, 0), τ) := k1
    exact ⟨τ, by rw [qM_writesOp_0, if_neg (show ¬ (16 : Int) = 2 by decide), if_neg (show ¬ (16 : Int) = 3 by decide), if_neg (show ¬ (16 : Int) = 4 by decide), if_neg (show ¬ (16 : Int) = 5 by decide), if_neg (show ¬ (16 : Int) = 6 by decide), if_neg (show ¬ (16 : Int) = 11 by decide), if_neg (show ¬ (16 : Int) = 12 by decide), if_neg (show ¬ (16 : Int) = 13 by decide), if_neg (show ¬ (16 : Int) = 15 by decide), k1, Option.bind_some, qM_writesOp_139], k2, k3⟩
set_option maxHeartbeats 1000000 in
/-- two parts and what joins them -/
theorem W_b {c d w1 w2 : Nat} (hk : (2 ≤ f 0 i ∧ f 0 i < 7) ∨ (11 ≤ f 0 i ∧ f 0 i ≤ 16 ∧ f 0 i ≠ 14)) (hi : i < 3300) (e1 : f 1 i = (c : Int)) (e2 : f 2 i = (d : Int)) (hc : lo ≤ c ∧ c < i) (hd : lo ≤ d ∧ d < i) (hkc : 0 ≤ f 0 c ∧ f 0 c ≤ 16) (hkd : 0 ≤ f 0 d ∧ f 0 d ≤ 16) (Wc : wrow lo t f wd σ0 n c w1) (Wd : wrow lo t f wd σ0 n d w2) (hlc : ∀ l, (txs f wd n c l).length + bk (f 0 c) ≤ l.length + w1) (hld : ∀ l, (txs f wd n d l).length + bk (f 0 d) ≤ l.length + w2) : wrow lo t f wd σ0 (n + 1) i (own (f 0 i) + w1 + w2) := by
  intro σ l K r h0 hz hr hb hK hl
  have hx : xin (K.length : Int) 500 := xin_of (by omega) (by omega)
  have hx3 : xin (i : Int) 3300 := xin_of (by omega) (by omega)
  have hown : 3 ≤ own (f 0 i) ∧ (f 0 i = 15 → own (f 0 i) = 6) ∧ (f 0 i = 16 → own (f 0 i) = 5) ∧ (f 0 i ≠ 15 → f 0 i ≠ 16 → own (f 0 i) = 3) := by
    unfold own
    by_cases a : f 0 i = 15
    · rw [if_pos a]; exact ⟨by decide, fun _ => rfl, fun h => by omega, fun h => absurd a h⟩
    by_cases b : f 0 i = 16
    · rw [if_neg a, if_pos b]; exact ⟨by decide, fun h => absurd h a, fun _ => rfl, fun _ h => absurd b h⟩
    · rw [if_neg a, if_neg b]; exact ⟨by decide, fun h => absurd h a, fun h => absurd h b, fun _ _ => rfl⟩
  obtain ⟨τ0, s0, z0, q0⟩ := wr_0 (t := t) hz (by omega) hi hr (by omega)
  have hob := opb_len r l
  have hkk : f 0 i = 2 ∨ f 0 i = 3 ∨ f 0 i = 4 ∨ f 0 i = 5 ∨ f 0 i = 6 ∨ f 0 i = 7 ∨ f 0 i = 11 ∨ f 0 i = 12 ∨ f 0 i = 13 ∨ f 0 i = 14 ∨ f 0 i = 15 ∨ f 0 i = 16 := by omega
  -- the first part
  obtain ⟨⟨zA, qA⟩, _⟩ := wz_set z0 1
  have r1 : τ0.1 352 i = (c : Int) := by rw [z0.2.2.2 1 (by decide)]; exact e1
  have r2 : ∀ υ : xS, ∀ L KK, wz f υ.1 L KK → υ.1 353 i = (d : Int) := fun υ L KK h => by rw [h.2.2.2 2 (by decide)]; exact e2
  have mA := (M_aro (k := f 0 i) (x := c) (σ := xs τ0 372 K.length 1) (by omega) (by rw [zA.2.2.2 0 (by decide)]) hkc hkk).1
  obtain ⟨τ1, b1, b2, b3⟩ := wz_begin zA (show (((i : Int), 1, r, -1) :: K : List WF).length < 500 by rw [List.length_cons]; omega) (c : Int) (aro (f 0 i) (f 0 c) false)
  have qB := wf2_tr q0 (wf2_tr qA b3)
  obtain ⟨τ2, c1, c2, c3⟩ := Wc τ1 (opb r l) (((i : Int), 1, r, -1) :: K) _ (wf2_tr h0 qB) b2 (aro_012 _ _ _) aro_bk (by rw [List.length_cons]; omega) (by omega)
  have g0 : wgo t σ τ1 := fun w2 w3 w4 w5 => ⟨xkl w2, (0, (K.length : Int)), (0, (i : Int)), (0, f 0 i), by
    have f2 : τ0.1 372 K.length = 0 := z0.2.2.1.1.2.1
    rw [s0, qM_writesNode_81, if_neg (by omega), if_neg (by omega), if_neg (by omega), if_neg (by omega), if_neg (by omega), if_neg (by omega), if_neg (by omega), if_pos hx, Int.toNat_natCast, f2, if_pos rfl, if_pos hx, if_pos hx3, if_pos hx3, Int.toNat_natCast, r1, mA, Option.bind_some, qM_writesNode_535, b1, Option.bind_some, qM_writesNode_538, qM_writesNode_597]⟩
  have k1 := brk_len (a := aro (f 0 i) (f 0 c) false) (l := opb r l) hlc aro_bk
  have ko := opx_len (k := f 0 i) (l := brk (aro (f 0 i) (f 0 c) false) (txs f wd n c) (opb r l))
  have kop : (opx (f 0 i) (brk (aro (f 0 i) (f 0 c) false) (txs f wd n c) (opb r l))).length + 2 ≤ (brk (aro (f 0 i) (f 0 c) false) (txs f wd n c) (opb r l)).length + own (f 0 i) := by
    by_cases a : f 0 i = 15
    · rw [if_pos a] at ko
      have := hown.2.1 a
      omega
    by_cases b : f 0 i = 16
    · rw [if_neg a, if_neg (by omega)] at ko
      have := hown.2.2.1 b
      omega
    · rw [if_neg a, if_pos (by omega)] at ko
      have := hown.2.2.2 a b
      omega
  obtain ⟨τ3, o1, o2, o3⟩ := M_op c2.1 (k := f 0 i) (by omega) (by omega)
  have z3 := wz_wr c2 o2 o3
  obtain ⟨⟨zB, qB2⟩, _⟩ := wz_set z3 2
  have mB := (M_aro (k := f 0 i) (x := d) (σ := xs τ3 372 K.length 2) (by omega) (by rw [zB.2.2.2 0 (by decide)]) hkd hkk).2
  obtain ⟨τ4, d1, d2, d3⟩ := wz_begin zB (show (((i : Int), 2, r, -1) :: K : List WF).length < 500 by rw [List.length_cons]; omega) (d : Int) (aro (f 0 i) (f 0 d) true)
  have qC := wf2_tr qB (wf2_tr c3 (wf2_tr (wf2_1 o3) (wf2_tr qB2 d3)))
  have g1 : wgo t τ2 τ4 := fun w2 w3 w4 w5 => ⟨xkl w2, (0, (K.length : Int)), (0, (i : Int)), (0, f 0 i), by
    have f2 : τ2.1 372 K.length = 1 := c2.2.2.1.1.2.1
    rw [wr_1 (t := t) c2 (by decide) (by omega) hi, qM_writesNode_81, if_neg (by omega), if_neg (by omega), if_neg (by omega), if_neg (by omega), if_neg (by omega), if_neg (by omega), if_neg (by omega), if_pos hx, Int.toNat_natCast, f2, if_neg (by decide), if_pos hx, if_pos rfl, o1, Option.bind_some, qM_writesNode_557, if_pos hx, if_pos hx3, if_pos hx3, Int.toNat_natCast, Int.toNat_natCast, r2 _ _ _ z3, mB, Option.bind_some, qM_writesNode_586, d1, Option.bind_some, qM_writesNode_589, qM_writesNode_597]⟩
  obtain ⟨τ5, u1, u2, u3⟩ := Wd τ4 _ (((i : Int), 2, r, -1) :: K) _ (wf2_tr h0 qC) d2 (aro_012 _ _ _) aro_bk (by rw [List.length_cons]; omega) (by omega)
  have k2 := brk_len (a := aro (f 0 i) (f 0 d) true) (l := opx (f 0 i) (brk (aro (f 0 i) (f 0 c) false) (txs f wd n c) (opb r l))) hld aro_bk
  obtain ⟨τ6, v1, v2, v3⟩ := wz_close u2 (by omega) hr (by omega)
  have g2 : wgo t τ5 τ6 := fun w2 w3 w4 w5 => ⟨xkl w2, (0, (K.length : Int)), (0, (i : Int)), (0, f 0 i), by
    have f2 : τ5.1 372 K.length = 2 := u2.2.2.1.1.2.1
    rw [wr_1 (t := t) u2 (by decide) (by omega) hi, qM_writesNode_81, if_neg (by omega), if_neg (by omega), if_neg (by omega), if_neg (by omega), if_neg (by omega), if_neg (by omega), if_neg (by omega), if_pos hx, Int.toNat_natCast, f2, if_neg (by decide), if_pos hx, if_neg (by decide), v1, Option.bind_some, qM_writesNode_597]⟩
  refine ⟨τ6, wgo_tr g0 (wgo_tr c1 (wgo_tr g1 (wgo_tr u1 g2))), ?_, wf2_tr qC (wf2_tr u3 v3)⟩
  have : txs f wd (n + 1) i (opb r l) = brk (aro (f 0 i) (f 0 d) true) (txs f wd n d) (opx (f 0 i) (brk (aro (f 0 i) (f 0 c) false) (txs f wd n c) (opb r l))) := by
    show (if f 0 i = 0 then _ else if f 0 i = 1 then _ else if f 0 i = 7 ∨ f 0 i = 14 then _ else if f 0 i = 8 ∨ f 0 i = 9 then _ else if f 0 i = 10 then _ else brk (aro (f 0 i) (f 0 (f 2 i).toNat) true) (txs f wd n (f 2 i).toNat) (opx (f 0 i) (brk (aro (f 0 i) (f 0 (f 1 i).toNat) false) (txs f wd n (f 1 i).toNat) (opb r l)))) = _
    rw [if_neg (by omega), if_neg (by omega), if_neg (by omega), if_neg (by omega), if_neg (by omega), e1, e2, Int.toNat_natCast, Int.toNat_natCast]
  rw [brk_oc, this]
  exact v2
end WLF

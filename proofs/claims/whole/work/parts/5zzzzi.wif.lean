/-! the writer of rows: "if" -/
section WIF
variable {σ0 σ τ υ : xS} {f : Nat → Nat → Int} {l : List Nat} {t : Int} {K : List WF} {i lo : Nat} {a r p : Int} {wd : Int → List Nat} {n : Nat}
/-- a slot of the frame below -/
theorem wz_low {top : WF} (h : wz f σ.1 l (top :: ((i : Int), a, r, p) :: K)) (v : Int) : wz f (xs σ 372 K.length v).1 l (top :: ((i : Int), v, r, p) :: K) ∧ wf2 σ (xs σ 372 K.length v) := by
  obtain ⟨ti, ta, tr, tp⟩ := top
  obtain ⟨h1, h2, ⟨⟨t1, t2, t3, t4⟩, ⟨⟨f1, f2, f3, f4⟩, f5⟩⟩, h4⟩ := h
  have hl : (((i : Int), a, r, p) :: K : List WF).length = K.length + 1 := rfl
  have one (b k : Nat) (hk : k ≠ K.length) : (xs σ 372 K.length v).1 b k = σ.1 b k := by
    by_cases z : b = 372
    · rw [z, xs_at, xup_ne hk]
    · rw [xs_ne z]
  refine ⟨⟨wo_o h1 (xs_ne (by decide)) ⟨by rw [xs_ne (by decide)], by rw [xs_ne (by decide)]⟩, by rw [xs_ne (by decide)]; exact h2, ⟨⟨?_, ?_, ?_, ?_⟩, ⟨⟨?_, ?_, ?_, ?_⟩, wfs4_cg (fun x k _ _ x3 => one x k (by omega)) f5⟩⟩, fun q hq => by rw [xs_ne (by omega)]; exact h4 q hq⟩, wf2_s (Or.inl (by decide)) v⟩
  · show (xs σ 372 K.length v).1 371 (K.length + 1) = ti
    rw [one _ _ (by omega)]; exact t1
  · show (xs σ 372 K.length v).1 372 (K.length + 1) = ta
    rw [one _ _ (by omega)]; exact t2
  · show (xs σ 372 K.length v).1 373 (K.length + 1) = tr
    rw [one _ _ (by omega)]; exact t3
  · show (xs σ 372 K.length v).1 374 (K.length + 1) = tp
    rw [one _ _ (by omega)]; exact t4
  · rw [xs_ne (by decide)]; exact f1
  · rw [xs_at, xup_eq]
  · rw [xs_ne (by decide)]; exact f3
  · rw [xs_ne (by decide)]; exact f4
set_option maxHeartbeats 1000000 in
theorem W_f {c d e w1 w2 w3 : Nat} (hk : f 0 i = 10) (hi : i < 3300) (e1 : f 1 i = (c : Int)) (e2 : f 2 i = (d : Int)) (e3 : f 3 i = (e : Int)) (hc : lo ≤ c ∧ c < i) (hd : lo ≤ d ∧ d < i) (he : lo ≤ e ∧ e < i) (Wc : wrow lo t f wd σ0 n c w1) (Wd : wrow lo t f wd σ0 n d w2) (We : wrow lo t f wd σ0 n e w3) (hlc : ∀ l, (txs f wd n c l).length ≤ l.length + w1) (hld : ∀ l, (txs f wd n d l).length ≤ l.length + w2) (hle : ∀ l, (txs f wd n e l).length ≤ l.length + w3) : wrow lo t f wd σ0 (n + 1) i (15 + w1 + w2 + w3) := by
  intro σ l K r h0 hz hr hb hK hl
  have hx : xin (K.length : Int) 500 := xin_of (by omega) (by omega)
  have hx3 : xin (i : Int) 3300 := xin_of (by omega) (by omega)
  obtain ⟨τ0, s0, z0, q0⟩ := wr_0 (t := t) hz (by omega) hi hr (by omega)
  have hob := (opb_len r l).1
  have b0 : ∀ (g : List Nat → List Nat) (L : List Nat), brk 0 g L = g L := fun g L => by
    unfold brk
    rw [if_neg (by decide), if_neg (by decide)]
  -- one round
  have rnd : ∀ (υ : xS) (L : List Nat) (av : Nat) (x wk wx : Nat), av < 3 → wf2 σ0 υ → wz f υ.1 L (((i : Int), (av : Int), r, -1) :: K) → wk < 32 → (lo ≤ x ∧ x < i) → wrow lo t f wd σ0 n x wx → L.length + 1 + (kwl wk).length + wx ≤ 1390 → (∀ w2 υ1 υ2, X iM_writesWord 0 [(2, 305), (1, wcd (kwl wk) 0), (8, 0), (9, 0), (9, 0)] [] υ = some ((9, 0), υ1) → wz f υ1.1 (wW L (kwl wk)) (((i : Int), (av : Int), r, -1) :: K) → X iM_begins 0 [(2, 305), (0, (x : Int)), (0, 0)] [] υ1 = some ((9, 0), υ2) → X iM_writesNode 81 [(2, 305), (0, t), w2, (0, (K.length : Int)), (0, (i : Int)), (0, f 0 i)] [] υ = X iM_writesNode 484 [(2, 305), (0, t), w2, (0, (K.length : Int)), (0, (i : Int)), (0, f 0 i)] [] υ2) → ∃ τ τ', (∀ w2, X iM_writesNode 81 [(2, 305), (0, t), w2, (0, (K.length : Int)), (0, (i : Int)), (0, f 0 i)] [] υ = X iM_writesNode 11 [(2, 305), (0, t), w2, (0, (K.length : Int)), (0, (i : Int)), (0, f 0 i)] [] τ) ∧ wgo t τ τ' ∧ wz f τ'.1 (txs f wd n x (wW L (kwl wk))) (((i : Int), ((av + 1 : Nat) : Int), r, -1) :: K) ∧ wf2 υ τ' := by
    intro υ L av x wk wx hav u0 uz hwk hxi Wx hL hq
    obtain ⟨υ1, k1, k2, k3⟩ := M_wW uz.1 (kwl_wlt wk hwk) (by omega)
    have z1 := wz_wr uz k2 k3
    obtain ⟨υ2, m1, m2, m3⟩ := wz_begin z1 (show (((i : Int), (av : Int), r, -1) :: K : List WF).length < 500 by rw [List.length_cons]; omega) (x : Int) 0
    obtain ⟨zl, ql⟩ := wz_low m2 ((av + 1 : Nat) : Int)
    have f2 : υ2.1 372 K.length = (av : Int) := m2.2.2.1.2.1.2.1
    have qq := wf2_tr (wf2_1 k3) (wf2_tr m3 ql)
    have hwl := (wW_len L (kwl wk)).1
    obtain ⟨τ', c1, c2, c3⟩ := Wx _ _ (((i : Int), ((av + 1 : Nat) : Int), r, -1) :: K) 0 (wf2_tr u0 qq) zl (Or.inl rfl) (fun h => absurd rfl h) (by rw [List.length_cons]; omega) (by omega)
    rw [b0] at c2
    refine ⟨_, τ', fun w2 => ?_, c1, c2, wf2_tr qq c3⟩
    rw [hq w2 υ1 υ2 k1 z1 m1, qM_writesNode_484, if_pos hx, if_pos hx, Int.toNat_natCast, f2, xw_t (by omega), qM_writesNode_597]
  have q81 : ∀ υ : xS, ∀ w2, X iM_writesNode 81 [(2, 305), (0, t), w2, (0, (K.length : Int)), (0, (i : Int)), (0, f 0 i)] [] υ = (if (υ.1 372 K.length) = 0 then ((X iM_writesWord 0 [(2, 305), (1, 249), (8, 0), (9, 0), (9, 0)] [] υ).bind fun q3 => X iM_writesNode 400 [(2, 305), (0, t), w2, (0, (K.length : Int)), (0, (i : Int)), (0, f 0 i)] [] q3.2)
      else if (υ.1 372 K.length) = 1 then ((X iM_writesWord 0 [(2, 305), (1, 399641), (8, 0), (9, 0), (9, 0)] [] υ).bind fun q4 => X iM_writesNode 432 [(2, 305), (0, t), w2, (0, (K.length : Int)), (0, (i : Int)), (0, f 0 i)] [] q4.2)
        else if (υ.1 372 K.length) = 2 then ((X iM_writesWord 0 [(2, 305), (1, 107681), (8, 0), (9, 0), (9, 0)] [] υ).bind fun q5 => X iM_writesNode 464 [(2, 305), (0, t), w2, (0, (K.length : Int)), (0, (i : Int)), (0, f 0 i)] [] q5.2)
          else (X iM_closes 0 [(2, 305), (0, (K.length : Int))] [] υ).bind fun q6 => X iM_writesNode 484 [(2, 305), (0, t), w2, (0, (K.length : Int)), (0, (i : Int)), (0, f 0 i)] [] q6.2) := fun υ w2 => by
    rw [qM_writesNode_81, if_neg (by omega), if_neg (by omega), if_neg (by omega), if_neg (by omega), if_neg (by omega), if_neg (by omega), if_pos hk, if_pos hx, Int.toNat_natCast, if_pos hx, if_pos hx]
  have n14 : (kwl 14).length = 2 := rfl
  have n15 : (kwl 15).length = 4 := rfl
  have n16 : (kwl 16).length = 4 := rfl
  have lA := hlc (wW (opb r l) (kwl 14))
  have lA' := (wW_len (opb r l) (kwl 14)).1
  obtain ⟨τa, τb, a1, a2, a3, a4⟩ := rnd τ0 (opb r l) 0 c 14 w1 (by decide) (wf2_tr h0 q0) z0 (by decide) hc Wc (by omega) fun w2 υ1 υ2 y1 y2 y3 => by
    have y1 : X iM_writesWord 0 [(2, 305), (1, 249), (8, 0), (9, 0), (9, 0)] [] τ0 = some ((9, 0), υ1) := y1
    have f2 : τ0.1 372 K.length = 0 := z0.2.2.1.1.2.1
    have r1 : υ1.1 352 i = (c : Int) := by rw [y2.2.2.2 1 (by decide)]; exact e1
    rw [q81, f2, if_pos rfl, y1, Option.bind_some, qM_writesNode_400, if_pos hx3, Int.toNat_natCast, r1, y3, Option.bind_some, qM_writesNode_412]
  generalize hA : txs f wd n c (wW (opb r l) (kwl 14)) = LA at a3 lA
  have lB := hld (wW LA (kwl 15))
  have lB' := (wW_len LA (kwl 15)).1
  obtain ⟨τc, τd, b1, b2, b3, b4⟩ := rnd τb LA 1 d 15 w2 (by decide) (wf2_tr h0 (wf2_tr q0 a4)) a3 (by decide) hd Wd (by omega) fun w2 υ1 υ2 y1 y2 y3 => by
    have y1 : X iM_writesWord 0 [(2, 305), (1, 399641), (8, 0), (9, 0), (9, 0)] [] τb = some ((9, 0), υ1) := y1
    have f2 : τb.1 372 K.length = 1 := a3.2.2.1.1.2.1
    have r1 : υ1.1 353 i = (d : Int) := by rw [y2.2.2.2 2 (by decide)]; exact e2
    rw [q81, f2, if_neg (by decide), if_pos rfl, y1, Option.bind_some, qM_writesNode_432, if_pos hx3, Int.toNat_natCast, r1, y3, Option.bind_some, qM_writesNode_444]
  generalize hB : txs f wd n d (wW LA (kwl 15)) = LB at b3 lB
  have lC := hle (wW LB (kwl 16))
  have lC' := (wW_len LB (kwl 16)).1
  obtain ⟨τe, τf, c1, c2, c3, c4⟩ := rnd τd LB 2 e 16 w3 (by decide) (wf2_tr h0 (wf2_tr q0 (wf2_tr a4 b4))) b3 (by decide) he We (by omega) fun w2 υ1 υ2 y1 y2 y3 => by
    have y1 : X iM_writesWord 0 [(2, 305), (1, 107681), (8, 0), (9, 0), (9, 0)] [] τd = some ((9, 0), υ1) := y1
    have f2 : τd.1 372 K.length = 2 := b3.2.2.1.1.2.1
    have r1 : υ1.1 354 i = (e : Int) := by rw [y2.2.2.2 3 (by decide)]; exact e3
    rw [q81, f2, if_neg (by decide), if_neg (by decide), if_pos rfl, y1, Option.bind_some, qM_writesNode_464, if_pos hx3, Int.toNat_natCast, r1, y3, Option.bind_some, qM_writesNode_476]
  generalize hC : txs f wd n e (wW LB (kwl 16)) = LC at c3 lC
  obtain ⟨τg, v1, v2, v3⟩ := wz_close c3 (by omega) hr (by omega)
  have fin : wz f (xs τg 372 K.length (xw (τg.1 372 K.length + 1))).1 (clb r LC) K ∧ wf2 τg (xs τg 372 K.length (xw (τg.1 372 K.length + 1))) := by
    generalize xw (τg.1 372 K.length + 1) = v
    obtain ⟨y1, y2, y3, y4⟩ := v2
    refine ⟨⟨wo_o y1 (xs_ne (by decide)) ⟨by rw [xs_ne (by decide)], by rw [xs_ne (by decide)]⟩, by rw [xs_ne (by decide)]; exact y2, wfs4_cg (fun x k _ _ x3 => ?_) y3, fun q hq => by rw [xs_ne (by omega)]; exact y4 q hq⟩, wf2_s (Or.inl (by decide)) v⟩
    by_cases z : x = 372
    · rw [z, xs_at, xup_ne (by omega)]
    · rw [xs_ne z]
  have g1 : wgo t σ τa := fun w2 w3 w4 w5 => ⟨xkl w2, (0, (K.length : Int)), (0, (i : Int)), (0, f 0 i), by rw [s0, a1]⟩
  have g2 : wgo t τb τc := fun w2 w3 w4 w5 => ⟨xkl w2, (0, (K.length : Int)), (0, (i : Int)), (0, f 0 i), by rw [wr_1 (t := t) a3 (by decide) (by omega) hi, b1]⟩
  have g3 : wgo t τd τe := fun w2 w3 w4 w5 => ⟨xkl w2, (0, (K.length : Int)), (0, (i : Int)), (0, f 0 i), by rw [wr_1 (t := t) b3 (by decide) (by omega) hi, c1]⟩
  have g4 : wgo t τf (xs τg 372 K.length (xw (τg.1 372 K.length + 1))) := fun w2 w3 w4 w5 => ⟨xkl w2, (0, (K.length : Int)), (0, (i : Int)), (0, f 0 i), by
    have f2 : τf.1 372 K.length = 3 := c3.2.2.1.1.2.1
    rw [wr_1 (t := t) c3 (by decide) (by omega) hi, q81, f2, if_neg (by decide), if_neg (by decide), if_neg (by decide), v1, Option.bind_some, qM_writesNode_484, if_pos hx, if_pos hx, Int.toNat_natCast, qM_writesNode_597]⟩
  refine ⟨_, wgo_tr g1 (wgo_tr a2 (wgo_tr g2 (wgo_tr b2 (wgo_tr g3 (wgo_tr c2 g4))))), ?_, wf2_tr q0 (wf2_tr a4 (wf2_tr b4 (wf2_tr c4 (wf2_tr v3 fin.2))))⟩
  have : txs f wd (n + 1) i (opb r l) = LC := by
    rw [← hC, ← hB, ← hA]
    show (if f 0 i = 0 then _ else if f 0 i = 1 then _ else if f 0 i = 7 ∨ f 0 i = 14 then _ else if f 0 i = 8 ∨ f 0 i = 9 then _ else if f 0 i = 10 then txs f wd n (f 3 i).toNat (wW (txs f wd n (f 2 i).toNat (wW (txs f wd n (f 1 i).toNat (wW (opb r l) (kwl 14))) (kwl 15))) (kwl 16)) else _) = _
    rw [if_neg (by omega), if_neg (by omega), if_neg (by omega), if_neg (by omega), if_pos hk, e1, e2, e3, Int.toNat_natCast, Int.toNat_natCast, Int.toNat_natCast]
  rw [brk_oc, this]
  exact fin.1
end WIF

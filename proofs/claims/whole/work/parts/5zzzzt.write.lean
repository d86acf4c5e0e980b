/-! the class writes a node: all of it -/
section WRN
variable {σ0 σ τ υ : xS} {l : List Nat} {f : Nat → Nat → Int} {wd : Int → List Nat} {sk sn : Nat → Int} {F S lo hi d : Nat}
theorem C_joined {sub ok : Nat → Nat → Prop} {a c r i : Nat} {K wk : Int} {L : List Nat} (w : wfs f sk F S lo hi) (hsub : ∀ y j, sub y j → lo ≤ j → j < hi → pok σ0 f wd d y j) (hsp : ∀ y j, sub y j → 0 < y) (hok : ∀ r y, ok r y → okr f K wk r) (hj : ∀ r y, ok r y → ∃ j : Nat, σ0.1 y 5 = (j : Int) ∧ j < 128 ∧ ∀ T, opx (f 0 r) T = T ++ [j]) (ha : nd σ0.2.1 a) (ha0 : σ0.1 a 0 = wk) (ha6 : σ0.1 a 6 = (c : Int)) (hK : whl K wk) (hc : sub c r) (hS : chS sub ok σ0.1 f L c r i) (h1 : lo ≤ i) (h2 : i < hi) (h : bs σ0 σ l) (hd : d + 2 ≤ xdp σ) (hl : (pxx f wd K i l).length ≤ 1389) : ∃ τ, X iNode_writeJoined 0 [(2, (a : Int)), (2, ((nn σ0 : Nat) : Int)), (9, 0)] [] σ = some ((9, 0), τ) ∧ bs σ0 τ (pxx f wd K i l) ∧ xdp τ = xdp σ := by
  obtain ⟨k1, k2⟩ := chS_in w (fun r c q => by have := (hok r c q).2.2.2; omega) hS h1 h2
  obtain ⟨p1, p2, p3⟩ := hsub _ _ hc k1 (by omega)
  have gl := chS_ge (wd := wd) (l := l) w hok hS h1 h2
  have hne := chN_ne (chS_N hsp hS)
  have hc0 : ¬ (c : Int) = 0 := by have := p1.1; omega
  have xx : (xcm (c : Int) && xcm (c : Int)) = true := by rw [xcm_new p1.1]; rfl
  obtain ⟨τ2, b1, b2, b3⟩ := C_wPart (σ := xsetdp σ (xdp σ - 1)) (k := K) (wk := wk) (a2 := 1) (s := false) p1 p2 hK (Or.inr ⟨rfl, rfl⟩) p3 (bs_dp h _) (by show d + 1 ≤ xdp σ - 1; omega) (by have gl : (brk (aro K (f 0 r) false) (tx f wd r) l).length ≤ _ := gl; omega)
  obtain ⟨τ3, c1, c2, c3⟩ := C_jl w hsub hok hj ha ha0 ha6 p1.1 L c r i (xsetdp τ2 (xdp σ)) hS p1 hne h1 h2 (bs_dp b2 _) (by show d + 2 ≤ xdp σ; omega) hl
  refine ⟨τ3, ?_, c2, c3⟩
  rw [qNode_writeJoined_0, bs_f h ha 6, xob_some, ha6, qNode_writeJoined_5, if_neg hc0, bs_f h ha 6, xob_some, ha6, xx, cnd_t, if_pos rfl, bs_f h ha 0, xob_some, ha0, xob_some, xx, cnd_t, if_pos rfl, beq_ff (show xdp σ ≠ 0 by omega), cnd_f, b1, Option.bind_some]
  exact c1
theorem C_conds {sub ok : Nat → Nat → Prop} {a c r i : Nat} {K wk : Int} {L : List Nat} (w : wfs f sk F S lo hi) (hsub : ∀ y j, sub y j → lo ≤ j → j < hi → pok σ0 f wd d y j) (hsp : ∀ y j, sub y j → 0 < y) (hok : ∀ r y, ok r y → okr f K wk r) {q : Nat} (hq : q < 32) (hwk : ∀ σ : xS, xfld xE1 σ wk 50 1 = some ((44 + 2 * q : Nat) : Int)) (hj : ∀ r y, ok r y → ∀ T, opx (f 0 r) T = wW T (kwl q)) (ha : nd σ0.2.1 a) (ha0 : σ0.1 a 0 = wk) (ha6 : σ0.1 a 6 = (c : Int)) (hK : whl K wk) (hc : sub c r) (hS : chS sub ok σ0.1 f L c r i) (h1 : lo ≤ i) (h2 : i < hi) (h : bs σ0 σ l) (hd : d + 2 ≤ xdp σ) (hl : (pxx f wd K i l).length ≤ 1389) : ∃ τ, X iNode_writeConds 0 [(2, (a : Int)), (2, ((nn σ0 : Nat) : Int)), (9, 0)] [] σ = some ((9, 0), τ) ∧ bs σ0 τ (pxx f wd K i l) ∧ xdp τ = xdp σ := by
  obtain ⟨k1, k2⟩ := chS_in w (fun r c q => by have := (hok r c q).2.2.2; omega) hS h1 h2
  obtain ⟨p1, p2, p3⟩ := hsub _ _ hc k1 (by omega)
  have gl := chS_ge (wd := wd) (l := l) w hok hS h1 h2
  have hne := chN_ne (chS_N hsp hS)
  have hc0 : ¬ (c : Int) = 0 := by have := p1.1; omega
  have xx : (xcm (c : Int) && xcm (c : Int)) = true := by rw [xcm_new p1.1]; rfl
  obtain ⟨τ2, b1, b2, b3⟩ := C_wPart (σ := xsetdp σ (xdp σ - 1)) (k := K) (wk := wk) (a2 := 1) (s := false) p1 p2 hK (Or.inr ⟨rfl, rfl⟩) p3 (bs_dp h _) (by show d + 1 ≤ xdp σ - 1; omega) (by have gl : (brk (aro K (f 0 r) false) (tx f wd r) l).length ≤ _ := gl; omega)
  obtain ⟨τ3, c1, c2, c3⟩ := C_cl w hsub hok hq hwk hj ha ha0 ha6 p1.1 L c r i (xsetdp τ2 (xdp σ)) hS p1 hne h1 h2 (bs_dp b2 _) (by show d + 2 ≤ xdp σ; omega) hl
  refine ⟨τ3, ?_, c2, c3⟩
  rw [qNode_writeConds_0, bs_f h ha 6, xob_some, ha6, qNode_writeConds_5, if_neg hc0, bs_f h ha 6, xob_some, ha6, xx, cnd_t, if_pos rfl, qNode_writeConds_28, bs_f h ha 0, xob_some, ha0, bs_f h ha 6, xob_some, ha6, xx, cnd_t, if_pos rfl, beq_ff (show xdp σ ≠ 0 by omega), cnd_f, b1, Option.bind_some]
  exact c1
/-- a node of any kind -/
theorem C_write (w : wfs f sk F S lo hi) : ∀ (n cl ch a i : Nat), rl f σ0.1 σ0.2.1 sk sn F S n cl ch a i → lo ≤ i → i < hi → wok σ0 a (3 * n) (tx f (nwx sn F) i)
  | 0, _, _, _, _, hr, _, _ => hr.elim
  | n + 1, cl, ch, a, i, hr, i1, i2 => by
    have ih : ∀ cl ch c j, rl f σ0.1 σ0.2.1 sk sn F S n cl ch c j → lo ≤ j → j < hi → pok σ0 f (nwx sn F) (3 * n) c j := fun cl ch c j q j1 j2 => ⟨(rl_nd q).2.2, rl_kd q, C_write w n cl ch c j q j1 j2⟩
    obtain ⟨⟨_, _, ha⟩, hr⟩ := hr
    obtain ⟨w0, w1, w2, w3, w4, w5, w6⟩ := w i i1 i2
    intro σ l h hd hl
    have hB := bs_b h
    have f0 := bs_f h ha 0
    have e : ∀ (x : List Nat) (c : Nat), (x ++ [c]).length = x.length + 1 := fun x c => List.length_append
    rcases hr with ⟨h1, h2, h3⟩ | ⟨h1, h2, h3, h4⟩ | ⟨h1, h2, h3, h4, h5, h6, h7⟩ | ⟨h1, h2, c, h3, h4, lo', hi', _, _, _, h8⟩ | ⟨h1, h2, c, h3, h4, lo', hi', _, _, _, h8⟩ | ⟨h12, c, L, h3, ⟨h4, lo', hi', _, _, _, h8⟩, h9⟩ | ⟨h1, h2, c1, c2, c3, g1, g2, g3, g4, ⟨_, a1, a2, _, _, _, r1⟩, ⟨_, b1, b2, _, _, _, r2⟩, ⟨_, d1, d2, _, _, _, r3⟩⟩ | ⟨h2, c1, c2, g1, g2, g3, hk, p1, p2⟩ | ⟨h1, h2, c, r, c', L, h3, p1, hS⟩ | ⟨h1, h2, c, r, c', L, h3, p1, hS⟩ | ⟨h12, c, r, c', L, h3, p1, hS⟩
    · rw [tx_0 h1] at hl ⊢
      have g := wW_ge l (dec (f 5 i))
      obtain ⟨τ, b1, b2, b3⟩ := C_wN (v := f 5 i) h (w1 h1) (by omega)
      refine ⟨τ, ?_, b2, b3⟩
      rw [qNode_write_0, f0, xob_some, h2, show xisO xE1 σ 34 50 = true from rfl, cnd_t, show xfld xE1 σ 34 50 0 = some 32 from rfl, xob_some, if_pos (show xin 32 38 by decide), show xag xE1 σ 41 (32 : Int).toNat = 7 from rfl, if_pos rfl, bs_f h ha 1, xob_some, h3, b1, Option.bind_some, qNode_write_80, qNode_write_187]
    · obtain ⟨A, hA⟩ : ∃ A : Nat, f 1 i = (A : Int) := ⟨(f 1 i).toNat, by omega⟩
      have hA10 : A < 10 := by omega
      have e0 : σ0.1 a 0 = ((24 + A : Nat) : Int) := by rw [h4, hA]; omega
      have ew : nwx sn F (f 1 i) = kwl (22 + A) := by
        unfold nwx
        rw [if_pos h3, hA, Int.toNat_natCast]
      rw [tx_1 h1, ew] at hl ⊢
      have g := wW_ge l (kwl (22 + A))
      obtain ⟨q1, q2, q3, q4, q5⟩ := kd_w (σ := σ) hA10
      have es : ((88 + 2 * A : Nat) : Int) = ((44 + 2 * (22 + A) : Nat) : Int) := by omega
      obtain ⟨τ, b1, b2, b3⟩ := C_wW (w := kwl (22 + A)) h (kwx (22 + A) (by omega)) (by omega)
      refine ⟨τ, ?_, b2, b3⟩
      rw [qNode_write_0, f0, xob_some, e0, q1, cnd_t, q2, xob_some, if_pos (xin_of (by omega) (by omega)), Int.toNat_natCast, q4, if_neg (show ¬ (0 : Int) = 7 by decide), if_neg (show ¬ (0 : Int) = 8 by decide), if_neg (show ¬ (0 : Int) = 9 by decide), if_neg (show ¬ (0 : Int) = 10 by decide), if_neg (show ¬ (0 : Int) = 11 by decide), if_neg (show ¬ (0 : Int) = 12 by decide), if_neg (show ¬ (0 : Int) = 13 by decide), if_neg (show ¬ (0 : Int) = 14 by decide), if_neg (show ¬ (0 : Int) = 15 by decide), if_neg (show ¬ (0 : Int) = 16 by decide), if_neg (show ¬ (0 : Int) = 17 by decide), if_neg (show ¬ (0 : Int) = 18 by decide), xob_some, q5, xob_some, es, b1, Option.bind_some, qNode_write_187]
    · obtain ⟨c, L, n1, n2, n3, n4⟩ := h7
      have ew : nwx sn F (f 1 i) = L := by
        unfold nwx
        rw [if_neg (by omega), ← n4, nmw_wcd n3]
      rw [tx_1 h1, ew] at hl ⊢
      have g := wW_ge l L
      obtain ⟨τ, b1, b2, b3⟩ := C_wW (w := L) h (strx_sto n2 n3) (by omega)
      refine ⟨τ, ?_, b2, b3⟩
      rw [qNode_write_0, f0, xob_some, h3, show xisO xE1 σ 35 50 = true from rfl, cnd_t, show xfld xE1 σ 35 50 0 = some 33 from rfl, xob_some, if_pos (show xin 33 38 by decide), show xag xE1 σ 41 (33 : Int).toNat = 8 from rfl, if_neg (show ¬ (8 : Int) = 7 by decide), if_pos rfl, bs_f h ha 4, xob_some, n1, b1, Option.bind_some, qNode_write_91, qNode_write_187]
    · have a3 := w3 (by omega)
      obtain ⟨p1, p2, p3⟩ := ih lo' hi' c _ h8 a3.2.1 (by omega)
      have es : aro (f 0 i) (f 0 (f 1 i).toNat) true = aro (f 0 i) (f 0 (f 1 i).toNat) false := by rw [aro_m h1, aro_m h1]
      rw [tx_u w i1 i2 (Or.inl h1), if_pos h1, ← es] at hl ⊢
      have bg := brk_ge (a := aro (f 0 i) (f 0 (f 1 i).toNat) true) (tx_ge (f := f) (wd := nwx sn F) (f 1 i).toNat) (l ++ [45])
      rw [e] at bg
      obtain ⟨τ1, b1, b2, b3⟩ := C_chr (c := 45) h (by decide) (by omega)
      have b1 : X iJB_append1 0 [(2, ((nn σ0 : Nat) : Int)), (0, 45)] [] σ = some ((2, ((nn σ0 : Nat) : Int)), τ1) := b1
      obtain ⟨τ2, d1, d2, d3⟩ := C_wPart (σ := xsetdp τ1 (xdp τ1 - 1)) (k := f 0 i) (wk := 38) (a2 := 0) (s := true) p1 p2 (Or.inr (Or.inr (Or.inr (Or.inl ⟨rfl, h1⟩)))) (Or.inl ⟨rfl, rfl⟩) p3 (bs_dp b2 _) (by show 3 * n + 1 ≤ xdp τ1 - 1; omega) hl
      refine ⟨xsetdp τ2 (xdp τ1), ?_, bs_dp d2 _, b3⟩
      rw [qNode_write_0, f0, xob_some, h2, show xisO xE1 σ 38 50 = true from rfl, cnd_t, show xfld xE1 σ 38 50 0 = some 36 from rfl, xob_some, if_pos (show xin 36 38 by decide), show xag xE1 σ 41 (36 : Int).toNat = 12 from rfl, if_neg (show ¬ (12 : Int) = 7 by decide), if_neg (show ¬ (12 : Int) = 8 by decide), if_neg (show ¬ (12 : Int) = 9 by decide), if_neg (show ¬ (12 : Int) = 10 by decide), if_neg (show ¬ (12 : Int) = 11 by decide), if_pos rfl, hB, cnd_t, b1, Option.bind_some, qNode_write_108, bs_f b2 ha 6, xob_some, h3, bs_f b2 ha 0, xob_some, h2, beq_ff (show xdp τ1 ≠ 0 by omega), cnd_f, d1, Option.bind_some, qNode_write_122, qNode_write_187]
    · have a3 := w3 (by omega)
      obtain ⟨p1, p2, p3⟩ := ih lo' hi' c _ h8 a3.2.1 (by omega)
      have es : aro (f 0 i) (f 0 (f 1 i).toNat) true = aro (f 0 i) (f 0 (f 1 i).toNat) false := by rw [aro_n h1, aro_n h1]
      rw [tx_u w i1 i2 (Or.inr h1), if_neg (show ¬ f 0 i = 7 by omega), ← es] at hl ⊢
      have bg := brk_ge (a := aro (f 0 i) (f 0 (f 1 i).toNat) true) (tx_ge (f := f) (wd := nwx sn F) (f 1 i).toNat) (wW l (kwl 21))
      have wg := wW_ge l (kwl 21)
      obtain ⟨τ1, b1, b2, b3⟩ := C_wW (w := kwl 21) h (kwx 21 (by decide)) (by omega)
      have b1 : X iNode_writeWord 0 [(2, 86), (2, ((nn σ0 : Nat) : Int))] [] σ = some ((9, 0), τ1) := b1
      obtain ⟨τ2, d1, d2, d3⟩ := C_wPart (σ := xsetdp τ1 (xdp τ1 - 1)) (k := f 0 i) (wk := 23) (a2 := 0) (s := true) p1 p2 (Or.inr (Or.inr (Or.inr (Or.inr (Or.inr (Or.inr ⟨rfl, h1⟩)))))) (Or.inl ⟨rfl, rfl⟩) p3 (bs_dp b2 _) (by show 3 * n + 1 ≤ xdp τ1 - 1; omega) hl
      refine ⟨xsetdp τ2 (xdp τ1), ?_, bs_dp d2 _, b3⟩
      rw [qNode_write_0, f0, xob_some, h2, show xisO xE1 σ 23 50 = true from rfl, cnd_t, show xfld xE1 σ 23 50 0 = some 21 from rfl, xob_some, if_pos (show xin 21 38 by decide), show xag xE1 σ 41 (21 : Int).toNat = 15 from rfl, if_neg (show ¬ (15 : Int) = 7 by decide), if_neg (show ¬ (15 : Int) = 8 by decide), if_neg (show ¬ (15 : Int) = 9 by decide), if_neg (show ¬ (15 : Int) = 10 by decide), if_neg (show ¬ (15 : Int) = 11 by decide), if_neg (show ¬ (15 : Int) = 12 by decide), if_neg (show ¬ (15 : Int) = 13 by decide), if_neg (show ¬ (15 : Int) = 14 by decide), if_pos rfl, xob_some, show xfld xE1 σ 23 50 1 = some 86 from rfl, xob_some, b1, Option.bind_some, qNode_write_144, bs_f b2 ha 6, xob_some, h3, bs_f b2 ha 0, xob_some, h2, beq_ff (show xdp τ1 ≠ 0 by omega), cnd_f, d1, Option.bind_some, qNode_write_157, qNode_write_187]
    · have h1 : f 0 i = 8 ∨ f 0 i = 9 := h12.elim (fun q => Or.inl q.1) (fun q => Or.inr q.1)
      have a3 := w3 (by omega)
      obtain ⟨p1, p2, p3⟩ := ih lo' hi' c _ h8 a3.2.1 (by omega)
      have hw := w6 h1
      rw [tx_l w i1 i2 h1] at hl ⊢
      generalize hl1 : wW l (if f 0 i = 8 then kwl 17 else kwl 18) = l1 at hl ⊢
      have t1 := tx_ge (f := f) (wd := nwx sn F) (f 1 i).toNat (l1 ++ [40])
      have t2 := lsx_ge (f := f) (tx_ge (f := f) (wd := nwx sn F)) i (f 4 (f 1 i).toNat) (tx f (nwx sn F) (f 1 i).toNat (l1 ++ [40]))
      have t3 := ap_ge (lsx f (tx f (nwx sn F)) i (f 4 (f 1 i).toNat) (tx f (nwx sn F) (f 1 i).toNat (l1 ++ [40]))) [41]
      rw [e] at t1
      have t0 : l.length ≤ l1.length := by rw [← hl1]; exact wW_ge _ _
      have hc0 : ¬ (c : Int) = 0 := by have := p1.1; omega
      have xx : (xcm (c : Int) && xcm (c : Int)) = true := by rw [xcm_new p1.1]; rfl
      have hsp : ∀ y j, (f 0 j ≤ 10 ∧ ∃ lo' hi', cl ≤ lo' ∧ hi' ≤ ch ∧ ¬ (lo' ≤ a ∧ a < hi') ∧ rl f σ0.1 σ0.2.1 sk sn F S n lo' hi' y j) → 0 < y := fun y j ⟨_, lo', hi', _, _, _, q⟩ => by have := (rl_nd q).2.2.1; omega
      have rest : ∀ τ1 : xS, bs σ0 τ1 l1 → xdp τ1 = xdp σ - 1 → ∃ τ, X iNode_writeList 11 [(2, (a : Int)), (2, ((nn σ0 : Nat) : Int)), (9, 0)] [] τ1 = some ((9, 0), τ) ∧ bs σ0 τ (lsx f (tx f (nwx sn F)) i (f 4 (f 1 i).toNat) (tx f (nwx sn F) (f 1 i).toNat (l1 ++ [40])) ++ [41]) ∧ xdp τ = xdp τ1 := fun τ1 b2 b3 => by
        obtain ⟨τ2, d1, d2, d3⟩ := C_chr (c := 40) b2 (by decide) (by omega)
        have d1 : X iJB_append1 0 [(2, ((nn σ0 : Nat) : Int)), (0, 40)] [] τ1 = some ((2, ((nn σ0 : Nat) : Int)), τ2) := d1
        obtain ⟨v0, τ3, v1, v2⟩ := wok_c p3 d2 (by omega) (by omega)
        obtain ⟨τ4, u1, u2, u3⟩ := C_ll (d := 3 * n) w i2 (fun y j ⟨_, lo', hi', _, _, _, q⟩ j1 j2 => ih lo' hi' y j q j1 j2) ha h3 p1.1 L c (f 1 i).toNat i (xsetdp τ3 (xdp τ2)) _ h9 p1 (chN_ne (chL_N hsp h9)) hw v2 (by show 3 * n + 1 ≤ xdp τ2; omega) hl
        refine ⟨τ4, ?_, u2, u3.trans d3⟩
        rw [qNode_writeList_11, bs_b b2, cnd_t, d1, Option.bind_some, qNode_writeList_17, bs_f d2 ha 6, xob_some, h3, qNode_writeList_23, if_neg hc0, bs_f d2 ha 6, xob_some, h3, xx, cnd_t, if_pos rfl, v0, cnd_f, v1, Option.bind_some]
        exact u1
      rcases h12 with ⟨k1, k2⟩ | ⟨k1, k2⟩
      · rw [if_pos k1] at hl1
        subst hl1
        obtain ⟨τ1, b1, b2, b3⟩ := C_wW (w := kwl 17) (bs_dp h (xdp σ - 1)) (kwx 17 (by decide)) (by omega)
        have b1 : X iNode_writeWord 0 [(2, 78), (2, ((nn σ0 : Nat) : Int))] [] (xsetdp σ (xdp σ - 1)) = some ((9, 0), τ1) := b1
        obtain ⟨τ4, u1, u2, u3⟩ := rest τ1 b2 b3
        refine ⟨xsetdp τ4 (xdp σ), ?_, bs_dp u2 _, rfl⟩
        rw [qNode_write_0, f0, xob_some, k2, show xisO xE1 σ 19 50 = true from rfl, cnd_t, show xfld xE1 σ 19 50 0 = some 17 from rfl, xob_some, if_pos (show xin 17 38 by decide), show xag xE1 σ 41 (17 : Int).toNat = 17 from rfl, if_neg (show ¬ (17 : Int) = 7 by decide), if_neg (show ¬ (17 : Int) = 8 by decide), if_neg (show ¬ (17 : Int) = 9 by decide), if_neg (show ¬ (17 : Int) = 10 by decide), if_neg (show ¬ (17 : Int) = 11 by decide), if_neg (show ¬ (17 : Int) = 12 by decide), if_neg (show ¬ (17 : Int) = 13 by decide), if_neg (show ¬ (17 : Int) = 14 by decide), if_neg (show ¬ (17 : Int) = 15 by decide), if_neg (show ¬ (17 : Int) = 16 by decide), if_pos rfl, beq_ff (show xdp σ ≠ 0 by omega), cnd_f, qNode_writeList_0, bs_f (bs_dp h _) ha 0, xob_some, k2, show xfld xE1 (xsetdp σ (xdp σ - 1)) 19 50 1 = some 78 from rfl, xob_some, b1, Option.bind_some, u1, Option.bind_some, qNode_write_173, qNode_write_187]
      · rw [if_neg (show ¬ f 0 i = 8 by omega)] at hl1
        subst hl1
        obtain ⟨τ1, b1, b2, b3⟩ := C_wW (w := kwl 18) (bs_dp h (xdp σ - 1)) (kwx 18 (by decide)) (by omega)
        have b1 : X iNode_writeWord 0 [(2, 80), (2, ((nn σ0 : Nat) : Int))] [] (xsetdp σ (xdp σ - 1)) = some ((9, 0), τ1) := b1
        obtain ⟨τ4, u1, u2, u3⟩ := rest τ1 b2 b3
        refine ⟨xsetdp τ4 (xdp σ), ?_, bs_dp u2 _, rfl⟩
        rw [qNode_write_0, f0, xob_some, k2, show xisO xE1 σ 20 50 = true from rfl, cnd_t, show xfld xE1 σ 20 50 0 = some 18 from rfl, xob_some, if_pos (show xin 18 38 by decide), show xag xE1 σ 41 (18 : Int).toNat = 18 from rfl, if_neg (show ¬ (18 : Int) = 7 by decide), if_neg (show ¬ (18 : Int) = 8 by decide), if_neg (show ¬ (18 : Int) = 9 by decide), if_neg (show ¬ (18 : Int) = 10 by decide), if_neg (show ¬ (18 : Int) = 11 by decide), if_neg (show ¬ (18 : Int) = 12 by decide), if_neg (show ¬ (18 : Int) = 13 by decide), if_neg (show ¬ (18 : Int) = 14 by decide), if_neg (show ¬ (18 : Int) = 15 by decide), if_neg (show ¬ (18 : Int) = 16 by decide), if_neg (show ¬ (18 : Int) = 17 by decide), if_pos rfl, beq_ff (show xdp σ ≠ 0 by omega), cnd_f, qNode_writeList_0, bs_f (bs_dp h _) ha 0, xob_some, k2, show xfld xE1 (xsetdp σ (xdp σ - 1)) 20 50 1 = some 80 from rfl, xob_some, b1, Option.bind_some, u1, Option.bind_some, qNode_write_173, qNode_write_187]
    · have a3 := w3 (by omega)
      have a4 := w4 (by omega)
      have a5 := w5 h1
      obtain ⟨p1, p2, p3⟩ := ih a1 a2 c1 _ r1 a3.2.1 (by omega)
      obtain ⟨q1, q2, q3⟩ := ih b1 b2 c2 _ r2 a4.2.1 (by omega)
      obtain ⟨s1, s2, s3⟩ := ih d1 d2 c3 _ r3 a5.2.1 (by omega)
      rw [tx_f w i1 i2 h1] at hl ⊢
      generalize hL1 : wW l (kwl 14) = L1 at hl ⊢
      generalize hL2 : tx f (nwx sn F) (f 1 i).toNat L1 = L2 at hl ⊢
      generalize hL3 : wW L2 (kwl 15) = L3 at hl ⊢
      generalize hL4 : tx f (nwx sn F) (f 2 i).toNat L3 = L4 at hl ⊢
      generalize hL5 : wW L4 (kwl 16) = L5 at hl ⊢
      have n1 : l.length ≤ L1.length := by rw [← hL1]; exact wW_ge _ _
      have n2 : L1.length ≤ L2.length := by rw [← hL2]; exact tx_ge _ _
      have n3 : L2.length ≤ L3.length := by rw [← hL3]; exact wW_ge _ _
      have n4 : L3.length ≤ L4.length := by rw [← hL4]; exact tx_ge _ _
      have n5 : L4.length ≤ L5.length := by rw [← hL5]; exact wW_ge _ _
      have n6 := tx_ge (f := f) (wd := nwx sn F) (f 3 i).toNat L5
      obtain ⟨τ1, x1, x2, x3⟩ := C_wW (w := kwl 14) (bs_dp h (xdp σ - 1)) (kwx 14 (by decide)) (by omega)
      rw [hL1] at x2
      have x1 : X iNode_writeWord 0 [(2, 72), (2, ((nn σ0 : Nat) : Int))] [] (xsetdp σ (xdp σ - 1)) = some ((9, 0), τ1) := x1
      have x3 : xdp τ1 = xdp σ - 1 := x3
      obtain ⟨y0, τ2, y1, y2⟩ := wok_c p3 x2 (by omega) (by rw [hL2]; omega)
      rw [hL2] at y2
      obtain ⟨τ3, z1, z2, z3⟩ := C_wW (w := kwl 15) y2 (kwx 15 (by decide)) (by omega)
      rw [hL3] at z2
      have z1 : X iNode_writeWord 0 [(2, 74), (2, ((nn σ0 : Nat) : Int))] [] (xsetdp τ2 (xdp τ1)) = some ((9, 0), τ3) := z1
      have z3 : xdp τ3 = xdp τ1 := z3
      obtain ⟨u0, τ4, u1, u2⟩ := wok_c q3 z2 (by omega) (by rw [hL4]; omega)
      rw [hL4] at u2
      obtain ⟨τ5, v1, v2, v3⟩ := C_wW (w := kwl 16) u2 (kwx 16 (by decide)) (by omega)
      rw [hL5] at v2
      have v1 : X iNode_writeWord 0 [(2, 76), (2, ((nn σ0 : Nat) : Int))] [] (xsetdp τ4 (xdp τ3)) = some ((9, 0), τ5) := v1
      have v3 : xdp τ5 = xdp τ3 := v3
      obtain ⟨t0, τ6, t1, t2⟩ := wok_c s3 v2 (by omega) (by omega)
      have o1 : ¬ (c1 : Int) = 0 := by have := p1.1; omega
      have o2 : ¬ (c2 : Int) = 0 := by have := q1.1; omega
      have o3 : ¬ (c3 : Int) = 0 := by have := s1.1; omega
      have xa : (xcm 16 && xcm 16) = true := rfl
      have xb : (xcm 17 && xcm 16) = true := rfl
      have xd : (xcm 18 && xcm 16) = true := rfl
      have e67 : ∀ k, xfld xE1 (xsetdp τ6 (xdp τ5)) (c3 : Int) 7 k = some (σ0.1 c3 k) := bs_f t2 s1
      refine ⟨xsetdp (xsetdp τ6 (xdp τ5)) (xdp σ), ?_, bs_dp t2 _, rfl⟩
      rw [qNode_write_0, f0, xob_some, h2, show xisO xE1 σ 16 50 = true from rfl, cnd_t, show xfld xE1 σ 16 50 0 = some 14 from rfl, xob_some, if_pos (show xin 14 38 by decide), show xag xE1 σ 41 (14 : Int).toNat = 16 from rfl, if_neg (show ¬ (16 : Int) = 7 by decide), if_neg (show ¬ (16 : Int) = 8 by decide), if_neg (show ¬ (16 : Int) = 9 by decide), if_neg (show ¬ (16 : Int) = 10 by decide), if_neg (show ¬ (16 : Int) = 11 by decide), if_neg (show ¬ (16 : Int) = 12 by decide), if_neg (show ¬ (16 : Int) = 13 by decide), if_neg (show ¬ (16 : Int) = 14 by decide), if_neg (show ¬ (16 : Int) = 15 by decide), if_pos rfl, beq_ff (show xdp σ ≠ 0 by omega), cnd_f, qNode_writeIf_0, bs_f (bs_dp h _) ha 6, xob_some, g1, qNode_writeIf_9, if_neg o1, show xfld xE1 (xsetdp σ (xdp σ - 1)) 16 50 1 = some 72 from rfl, xob_some, x1, Option.bind_some, qNode_writeIf_21, y0, cnd_f, y1, Option.bind_some, qNode_writeIf_26, xa, cnd_t, if_pos rfl, bs_f y2 p1 7, xob_some, g2, qNode_writeIf_9, if_neg o2, show xfld xE1 (xsetdp τ2 (xdp τ1)) 17 50 1 = some 74 from rfl, xob_some, z1, Option.bind_some, qNode_writeIf_21, u0, cnd_f, u1, Option.bind_some, qNode_writeIf_26, xb, cnd_t, if_neg (show ¬ (17 : Int) = 16 by decide), bs_f u2 q1 7, xob_some, g3, qNode_writeIf_9, if_neg o3, show xfld xE1 (xsetdp τ4 (xdp τ3)) 18 50 1 = some 76 from rfl, xob_some, v1, Option.bind_some, qNode_writeIf_21, t0, cnd_f, t1, Option.bind_some, qNode_writeIf_26, xd, cnd_t, if_neg (show ¬ (18 : Int) = 16 by decide), e67 7, xob_some, g4, qNode_writeIf_9, if_pos rfl, Option.bind_some, qNode_write_165, qNode_write_187]
    · have hk' : 11 ≤ f 0 i ∧ f 0 i ≤ 13 := by rcases hk with ⟨q, _⟩ | ⟨q, _⟩ | ⟨q, _⟩ <;> omega
      have a3 := w3 (by omega)
      have a4 := w4 (by omega)
      have hS : chS (fun c j => f 0 j ≤ 10 ∧ ∃ lo' hi', cl ≤ lo' ∧ hi' ≤ ch ∧ ¬ (lo' ≤ a ∧ a < hi') ∧ rl f σ0.1 σ0.2.1 sk sn F S n lo' hi' c j) (fun r y => r = i ∧ y = c2) σ0.1 f [c2] c1 (f 1 i).toNat i := ⟨g2, i, by omega, a4.1, ⟨rfl, rfl⟩, p2, g3, rfl⟩
      have e0 : pxx f (nwx sn F) (f 0 i) i l = tx f (nwx sn F) i l := by
        show brk (aro (f 0 i) (f 0 i) false) _ l = _
        rw [aro_c hk', if_neg (by omega), brk_0]
      rw [← e0] at hl ⊢
      obtain ⟨τ, t1, t2, t3⟩ := C_joined (σ := xsetdp σ (xdp σ - 1)) (d := 3 * n) (K := f 0 i) (wk := 39) w (fun y j ⟨_, lo', hi', _, _, _, q⟩ j1 j2 => ih lo' hi' y j q j1 j2) (fun y j ⟨_, lo', hi', _, _, _, q⟩ => by have := (rl_nd q).2.2.1; omega) (fun r y ⟨q1, q2⟩ => by
        subst q1
        exact ⟨fun p s => rfl, by rw [aro_c hk', if_neg (by omega)], Or.inr (Or.inr (Or.inl ⟨rfl, hk'⟩)), Or.inr (by omega)⟩) (fun r y ⟨q1, q2⟩ => by
        subst q1 q2
        rcases hk with ⟨z1, z2⟩ | ⟨z1, z2⟩ | ⟨z1, z2⟩
        · exact ⟨60, z2, by decide, fun T => by unfold opx; rw [z1, if_neg (by decide), if_neg (by decide), if_neg (by decide), if_neg (by decide), if_neg (by decide), if_pos rfl]⟩
        · exact ⟨62, z2, by decide, fun T => by unfold opx; rw [z1, if_neg (by decide), if_neg (by decide), if_neg (by decide), if_neg (by decide), if_neg (by decide), if_neg (by decide), if_pos rfl]⟩
        · exact ⟨61, z2, by decide, fun T => by unfold opx; rw [z1, if_neg (by decide), if_neg (by decide), if_neg (by decide), if_neg (by decide), if_neg (by decide), if_neg (by decide), if_neg (by decide), if_pos rfl]⟩) ha h2 g1 (Or.inr (Or.inr (Or.inl ⟨rfl, hk'⟩))) p1 hS i1 i2 (bs_dp h _) (by show 3 * n + 2 ≤ xdp σ - 1; omega) hl
      refine ⟨xsetdp τ (xdp σ), ?_, bs_dp t2 _, rfl⟩
      rw [qNode_write_0, f0, xob_some, h2, show xisO xE1 σ 39 50 = true from rfl, cnd_t, show xfld xE1 σ 39 50 0 = some 37 from rfl, xob_some, if_pos (show xin 37 38 by decide), show xag xE1 σ 41 (37 : Int).toNat = 11 from rfl, if_neg (show ¬ (11 : Int) = 7 by decide), if_neg (show ¬ (11 : Int) = 8 by decide), if_neg (show ¬ (11 : Int) = 9 by decide), if_neg (show ¬ (11 : Int) = 10 by decide), if_pos rfl, beq_ff (show xdp σ ≠ 0 by omega), cnd_f, t1, Option.bind_some, qNode_write_99, qNode_write_187]
    · have e0 : pxx f (nwx sn F) (f 0 i) i l = tx f (nwx sn F) i l := by
        show brk (aro (f 0 i) (f 0 i) false) _ l = _
        rw [aro_s h1, if_neg (fun q => q.elim (by omega) (fun z => absurd z.1 (by decide))), brk_0]
      rw [← e0] at hl ⊢
      obtain ⟨τ, t1, t2, t3⟩ := C_joined (σ := xsetdp σ (xdp σ - 1)) (d := 3 * n) (K := f 0 i) (wk := 36) w (fun y j ⟨_, lo', hi', _, _, _, q⟩ j1 j2 => ih lo' hi' y j q j1 j2) (fun y j ⟨_, lo', hi', _, _, _, q⟩ => by have := (rl_nd q).2.2.1; omega) (fun r y q => by
        have hr : f 0 r = 2 ∨ f 0 r = 3 := q.elim (fun z => Or.inl z.1) (fun z => Or.inr z.1)
        exact ⟨fun p s => by rw [aro_s hr, aro_s h1], by rw [aro_s h1, if_neg (fun q => q.elim (by omega) (fun z => absurd z.1 (by decide)))], Or.inl ⟨rfl, hr⟩, Or.inl (by omega)⟩) (fun r y q => by
        rcases q with ⟨z1, z2⟩ | ⟨z1, z2⟩
        · exact ⟨43, z2, by decide, fun T => by unfold opx; rw [z1, if_pos rfl]⟩
        · exact ⟨45, z2, by decide, fun T => by unfold opx; rw [z1, if_neg (by decide), if_pos rfl]⟩) ha h2 h3 (Or.inl ⟨rfl, h1⟩) p1 hS i1 i2 (bs_dp h _) (by show 3 * n + 2 ≤ xdp σ - 1; omega) hl
      refine ⟨xsetdp τ (xdp σ), ?_, bs_dp t2 _, rfl⟩
      rw [qNode_write_0, f0, xob_some, h2, show xisO xE1 σ 36 50 = true from rfl, cnd_t, show xfld xE1 σ 36 50 0 = some 34 from rfl, xob_some, if_pos (show xin 34 38 by decide), show xag xE1 σ 41 (34 : Int).toNat = 9 from rfl, if_neg (show ¬ (9 : Int) = 7 by decide), if_neg (show ¬ (9 : Int) = 8 by decide), if_pos rfl, beq_ff (show xdp σ ≠ 0 by omega), cnd_f, t1, Option.bind_some, qNode_write_99, qNode_write_187]
    · have hk' : 4 ≤ f 0 i ∧ f 0 i ≤ 6 := by omega
      have e0 : pxx f (nwx sn F) (f 0 i) i l = tx f (nwx sn F) i l := by
        show brk (aro (f 0 i) (f 0 i) false) _ l = _
        rw [aro_p hk', if_neg (fun q => q.elim (by omega) (fun z => z.elim (by omega) (fun z => absurd z.1 (by decide)))), brk_0]
      rw [← e0] at hl ⊢
      obtain ⟨τ, t1, t2, t3⟩ := C_joined (σ := xsetdp σ (xdp σ - 1)) (d := 3 * n) (K := f 0 i) (wk := 37) w (fun y j ⟨_, lo', hi', _, _, _, q⟩ j1 j2 => ih lo' hi' y j q j1 j2) (fun y j ⟨_, lo', hi', _, _, _, q⟩ => by have := (rl_nd q).2.2.1; omega) (fun r y q => by
        have hr : 4 ≤ f 0 r ∧ f 0 r ≤ 6 := by rcases q with z | z | z <;> (have := z.1; omega)
        exact ⟨fun p s => by rw [aro_p hr, aro_p hk'], by rw [aro_p hk', if_neg (fun q => q.elim (by omega) (fun z => z.elim (by omega) (fun z => absurd z.1 (by decide))))], Or.inr (Or.inl ⟨rfl, hr⟩), Or.inl (by omega)⟩) (fun r y q => by
        rcases q with ⟨z1, z2⟩ | ⟨z1, z2⟩ | ⟨z1, z2⟩
        · exact ⟨42, z2, by decide, fun T => by unfold opx; rw [z1, if_neg (by decide), if_neg (by decide), if_pos rfl]⟩
        · exact ⟨47, z2, by decide, fun T => by unfold opx; rw [z1, if_neg (by decide), if_neg (by decide), if_neg (by decide), if_pos rfl]⟩
        · exact ⟨37, z2, by decide, fun T => by unfold opx; rw [z1, if_neg (by decide), if_neg (by decide), if_neg (by decide), if_neg (by decide), if_pos rfl]⟩) ha h2 h3 (Or.inr (Or.inl ⟨rfl, hk'⟩)) p1 hS i1 i2 (bs_dp h _) (by show 3 * n + 2 ≤ xdp σ - 1; omega) hl
      refine ⟨xsetdp τ (xdp σ), ?_, bs_dp t2 _, rfl⟩
      rw [qNode_write_0, f0, xob_some, h2, show xisO xE1 σ 37 50 = true from rfl, cnd_t, show xfld xE1 σ 37 50 0 = some 35 from rfl, xob_some, if_pos (show xin 35 38 by decide), show xag xE1 σ 41 (35 : Int).toNat = 10 from rfl, if_neg (show ¬ (10 : Int) = 7 by decide), if_neg (show ¬ (10 : Int) = 8 by decide), if_neg (show ¬ (10 : Int) = 9 by decide), if_pos rfl, beq_ff (show xdp σ ≠ 0 by omega), cnd_f, t1, Option.bind_some, qNode_write_99, qNode_write_187]
    · rcases h12 with ⟨k1, k2⟩ | ⟨k1, k2⟩
      · have e0 : pxx f (nwx sn F) (f 0 i) i l = tx f (nwx sn F) i l := by
          show brk (aro (f 0 i) (f 0 i) false) _ l = _
          rw [aro_a k1, if_neg (by omega), brk_0]
        rw [← e0] at hl ⊢
        obtain ⟨τ, t1, t2, t3⟩ := C_conds (σ := xsetdp σ (xdp σ - 1)) (d := 3 * n) (K := f 0 i) (wk := 22) (q := 20) w (fun y j ⟨_, lo', hi', _, _, _, q⟩ j1 j2 => ih lo' hi' y j q j1 j2) (fun y j ⟨_, lo', hi', _, _, _, q⟩ => by have := (rl_nd q).2.2.1; omega) (fun r y z => by
          have hr : f 0 r = f 0 i := z
          exact ⟨fun p s => by rw [hr], by rw [aro_a k1, if_neg (by omega)], by rw [hr]; exact Or.inr (Or.inr (Or.inr (Or.inr (Or.inr (Or.inl ⟨rfl, k1⟩))))), Or.inr (by omega)⟩) (by decide) (fun σ => rfl) (fun r y z T => by
          have hr : f 0 r = f 0 i := z
          unfold opx
          rw [hr, k1, if_neg (by decide), if_neg (by decide), if_neg (by decide), if_neg (by decide), if_neg (by decide), if_neg (by decide), if_neg (by decide), if_neg (by decide), if_pos rfl]) ha k2 h3 (Or.inr (Or.inr (Or.inr (Or.inr (Or.inr (Or.inl ⟨rfl, k1⟩)))))) p1 hS i1 i2 (bs_dp h _) (by show 3 * n + 2 ≤ xdp σ - 1; omega) hl
        refine ⟨xsetdp τ (xdp σ), ?_, bs_dp t2 _, rfl⟩
        rw [qNode_write_0, f0, xob_some, k2, show xisO xE1 σ 22 50 = true from rfl, cnd_t, show xfld xE1 σ 22 50 0 = some 20 from rfl, xob_some, if_pos (show xin 20 38 by decide), show xag xE1 σ 41 (20 : Int).toNat = 14 from rfl, if_neg (show ¬ (14 : Int) = 7 by decide), if_neg (show ¬ (14 : Int) = 8 by decide), if_neg (show ¬ (14 : Int) = 9 by decide), if_neg (show ¬ (14 : Int) = 10 by decide), if_neg (show ¬ (14 : Int) = 11 by decide), if_neg (show ¬ (14 : Int) = 12 by decide), if_neg (show ¬ (14 : Int) = 13 by decide), if_pos rfl, beq_ff (show xdp σ ≠ 0 by omega), cnd_f, t1, Option.bind_some, qNode_write_130, qNode_write_187]
      · have e0 : pxx f (nwx sn F) (f 0 i) i l = tx f (nwx sn F) i l := by
          show brk (aro (f 0 i) (f 0 i) false) _ l = _
          rw [aro_o k1, brk_0]
        rw [← e0] at hl ⊢
        obtain ⟨τ, t1, t2, t3⟩ := C_conds (σ := xsetdp σ (xdp σ - 1)) (d := 3 * n) (K := f 0 i) (wk := 21) (q := 19) w (fun y j ⟨_, lo', hi', _, _, _, q⟩ j1 j2 => ih lo' hi' y j q j1 j2) (fun y j ⟨_, lo', hi', _, _, _, q⟩ => by have := (rl_nd q).2.2.1; omega) (fun r y z => by
          have hr : f 0 r = f 0 i := z
          exact ⟨fun p s => by rw [hr], aro_o k1, by rw [hr]; exact Or.inr (Or.inr (Or.inr (Or.inr (Or.inl ⟨rfl, k1⟩)))), Or.inr (by omega)⟩) (by decide) (fun σ => rfl) (fun r y z T => by
          have hr : f 0 r = f 0 i := z
          unfold opx
          rw [hr, k1, if_neg (by decide), if_neg (by decide), if_neg (by decide), if_neg (by decide), if_neg (by decide), if_neg (by decide), if_neg (by decide), if_neg (by decide), if_neg (by decide)]) ha k2 h3 (Or.inr (Or.inr (Or.inr (Or.inr (Or.inl ⟨rfl, k1⟩))))) p1 hS i1 i2 (bs_dp h _) (by show 3 * n + 2 ≤ xdp σ - 1; omega) hl
        refine ⟨xsetdp τ (xdp σ), ?_, bs_dp t2 _, rfl⟩
        rw [qNode_write_0, f0, xob_some, k2, show xisO xE1 σ 21 50 = true from rfl, cnd_t, show xfld xE1 σ 21 50 0 = some 19 from rfl, xob_some, if_pos (show xin 19 38 by decide), show xag xE1 σ 41 (19 : Int).toNat = 13 from rfl, if_neg (show ¬ (13 : Int) = 7 by decide), if_neg (show ¬ (13 : Int) = 8 by decide), if_neg (show ¬ (13 : Int) = 9 by decide), if_neg (show ¬ (13 : Int) = 10 by decide), if_neg (show ¬ (13 : Int) = 11 by decide), if_neg (show ¬ (13 : Int) = 12 by decide), if_pos rfl, beq_ff (show xdp σ ≠ 0 by omega), cnd_f, t1, Option.bind_some, qNode_write_130, qNode_write_187]
end WRN

/-! an atom -/
section RAT
variable {B : Nat → Int} {n C : Nat} {sk sn : Nat → Int} {F M S c0 : Nat} {cs : Nat → Nat} {o : Int} {j c k : Nat} {f : Nat → Nat → Int} {σ τ υ : xS}
set_option maxHeartbeats 2000000 in
theorem A_list {KR kk : Int} (hk : (tW B n j 9734 ∧ kk = 8 ∧ KR = 19) ∨ (tW B n j 9528 ∧ kk = 9 ∧ KR = 20)) (hr : rst σ.1 B n C o j) (hl : ltc σ.1 σ.2.1 sk sn F M cs) (R : o < 10 → RD B n C sk sn F M c0 cs 0 4 9 (fun z => z ≤ 10) iReader_readEx [(2, 297)] (o + 1)) (hd : 20 * (11 - o) + 5 ≤ (xdp σ : Int)) (hc : c + (C - j) < 3300) (h0 : c0 ≤ c) (f : Nat → Nat → Int) : ∃ v τ, X iReader_readList 0 [(2, 297), (2, KR), (9, 0), (9, 0), (9, 0)] [] σ = some ((2, v), τ) ∧ RO B n C sk sn F (F + M) c0 3 1 (fun z => z ≤ 10) σ τ v o j c f := by
  have ho := hr.2.2.1.2
  have n0 := nn_ge (σ := σ)
  have ht : t_c B n j ≠ 1 := by rcases hk with h | h <;> (rw [h.1.1]; decide)
  have hk1 : (tW B n j 9734 ∧ kk = 8) ∨ (tW B n j 9528 ∧ kk = 9) := hk.elim (fun h => Or.inl ⟨h.1, h.2.1⟩) (fun h => Or.inr ⟨h.1, h.2.1⟩)
  have hk2 : (kk = 8 ∧ KR = 19) ∨ (kk = 9 ∧ KR = 20) := hk.elim (fun h => Or.inl h.2) (fun h => Or.inr h.2)
  obtain ⟨o1, o2⟩ := C_opens hr ht
  by_cases h10 : o = 10
  · obtain ⟨τ, a1, a2, a3⟩ := o2 h10
    exact ⟨0, τ, by rw [qReader_readList_0, a1, Option.bind_some, qReader_readList_4, if_pos rfl], RO_bad hr a2 a3 fun g K hK => (go_atom_l (by omega) (by omega) hk1).2.1 h10⟩
  · obtain ⟨τ, a1, a2, a3⟩ := o1 (by omega)
    obtain ⟨p1, p2⟩ := C_pass a2 (w := 40) (by decide)
    have hj := tc_lt hr ht
    by_cases h40 : t_c B n (j + 1) = 40
    · obtain ⟨τ1, b1, b2, b3⟩ := p1 h40
      have hj2 := tc_lt a2 (by rw [h40]; decide)
      have pk1 := pk_1 (tc_n (B := B) (n := n) (j := j) ht)
      have pk2 := pk_1 (tc_n (B := B) (n := n) (j := j + 1) (by rw [h40]; decide))
      obtain ⟨v, τ2, k1, k2⟩ := RD_call (R (by omega)) b2 (hg_ltc (hg_rf b3) (hg_ltc (hg_rf a3) hl)) (by rw [hg_xdp (hg_rf b3), hg_xdp (hg_rf a3)]; omega) (show c + (C - (j + 1 + 1)) < 3300 by omega) h0 f
      generalize hτ2 : xsetdp τ2 (xdp τ1) = τ2' at k1
      have gK : ∀ g K, ((List.length K : Nat) : Int) + 10 * (11 - o) + 1 ≤ 490 → GO B n sk sn F (F + M) c0 (-1, o, j, c, f, g, (3, 0, -1, -1, 0) :: K) (-1, o + 1, j + 1 + 1, c, f, g, (0, 0, -1, -1, 0) :: (3, 1, -1, -1, kk) :: K) := fun g K hK => (go_atom_l (by omega) (by omega) hk1).1 h10 h40
      have hgB := hg_tr (hg_rf a3) (hg_rf b3)
      have n3 := hg_nn hgB
      rcases k1 with ⟨k', a, j', c', f', rfl, m1, m2, ⟨m3, m4, m5, m6⟩, m7, m8, ⟨m9, m13⟩, m10, m11, m12⟩ | ⟨rfl, k', q, m1, m2, ⟨m3, m4, m5⟩, m6⟩
      · have hd1 : hg τ2' (xs (nnd τ2' KR) (nn τ2') 6 (a : Int)) 1 := hg_s (hg_nd KR) (Nat.le_refl _) 6 _
        have n1 := hg_nn m1
        have n2 := hg_nn hd1
        obtain ⟨l1, l2, l3⟩ := rl_nd (m11 _ (Nat.le_refl _))
        obtain ⟨q1, q2⟩ := nnd_o (k := KR) l3
        have em : ∀ x, x ≠ nn τ2' → (xs (nnd τ2' KR) (nn τ2') 6 (a : Int)).1 x = τ2'.1 x := fun x hx => by rw [xs_ne hx, nnd_m hx]
        have cI : LI B n C sk sn F (F + M) c0 KR kk σ (xs (nnd τ2' KR) (nn τ2') 6 (a : Int)) o j j' c f 0 a (nn τ2') := by
          refine ⟨0 + 0 + (k' + 1), c', a, c' - 1, c' - c, f', f', -1, -1, [], ⟨hg_tr hgB (hg_tr m1 hd1), rst_cg m2 (fun x hx => em x (by omega)), by omega, by omega, m4, by omega, by
            show 6 + wl f' (lwd sn F) (c' - 1) + 0 + _ ≤ _
            omega⟩, ⟨m7, ⟨m8, m13⟩, Or.inl ⟨by decide, rfl, rfl⟩, fun g K hK => GO_tr (gK g K hK) (m12 _ _ (by rw [List.length_cons]; omega))⟩, ⟨by omega, by omega, nnd_nd (k := KR), ?_, ?_, ?_⟩, ⟨by omega, by omega, by omega, q1, ?_, rfl⟩, ⟨Nat.le_refl _, by show 0 + 1 ≤ _; omega, by omega, by omega⟩, fun N hN => ⟨⟨⟨by omega, by omega⟩, m9, nn τ1, nn τ2', by omega, by omega, by omega, fun _ => rfl, ?_⟩, ?_, rfl⟩⟩
          · rw [xs_at, xup_ne (by decide), nnd_v, if_pos rfl]
          · rw [xs_at, xup_eq]
          · rw [xs_at, xup_ne (by decide), nnd_v]; rfl
          · rw [em a (by omega)]; exact m10
          · exact rl_hg m8 (by omega) (by omega) hd1 (fun _ _ _ => rfl) (m11 N hN)
          · rw [em a (by omega)]; exact m10
        obtain ⟨v, υ, r1, r2⟩ := list_loop hk2 (by omega) (R (by omega)) hl hd hc h0 (C - j' + 1) _ j' 0 a (nn τ2') (by omega) cI
        refine ⟨v, υ, ?_, r2⟩
        rw [qReader_readList_0, a1, Option.bind_some, qReader_readList_4, if_neg (show ¬ (1 : Int) = 0 by decide), b1, Option.bind_some, qReader_readList_13, if_neg (show ¬ (1 : Int) = 0 by decide), k2, qReader_readList_22, hτ2, of_run, nnx]
        exact r1 _
      · have hd1 : hg τ2' (xs (nnd τ2' KR) (nn τ2') 6 (0 : Int)) 1 := hg_s (hg_nd KR) (Nat.le_refl _) 6 _
        refine ⟨0, xs (nnd τ2' KR) (nn τ2') 6 (0 : Int), ?_, Or.inr ⟨rfl, 0 + 0 + (k' + 1), q, hg_tr hgB (hg_tr m1 hd1), rft_cg m2 ?_, ⟨by omega, by omega, by omega⟩, fun g K hK => BAD_tr (gK g K hK) (m6 _ _ (by rw [List.length_cons]; omega))⟩⟩
        · rw [qReader_readList_0, a1, Option.bind_some, qReader_readList_4, if_neg (show ¬ (1 : Int) = 0 by decide), b1, Option.bind_some, qReader_readList_13, if_neg (show ¬ (1 : Int) = 0 by decide), k2, qReader_readList_22, hτ2, of_run, nnx, qReader_readList_32]
          by_cases hi3 : (0 : Int) < (xs (nnd τ2' KR) (nn τ2') 6 (0 : Int)).1 297 1
          · rw [if_pos hi3, if_pos rfl, if_pos rfl, qReader_readList_88]
          · rw [if_neg hi3, if_pos rfl, qReader_readList_88]
        · have := nn_ge (σ := τ2')
          rw [xs_ne (by omega), nnd_m (by omega)]
    · obtain ⟨τ1, b1, b2, b3⟩ := p2 h40
      have hj2 : j + 1 ≤ C := a2.2.1.1
      exact ⟨0, τ1, by rw [qReader_readList_0, a1, Option.bind_some, qReader_readList_4, if_neg (show ¬ (1 : Int) = 0 by decide), b1, Option.bind_some, qReader_readList_13, if_pos rfl], Or.inr ⟨rfl, 0 + 0, j + 1, hg_tr (hg_rf a3) (hg_rf b2), b3, ⟨by omega, by omega, by omega⟩, fun g K hK => (go_atom_l (by omega) (by omega) hk1).2.2 h10 h40⟩⟩
set_option maxHeartbeats 2000000 in
theorem R_atom (hnw : ∀ i, i < M → sk (F + i) = 0 → ∀ q, q < 32 → sn (F + i) ≠ kcd q) (Rx : o < 10 → RD B n C sk sn F M c0 cs 0 4 9 (fun z => z ≤ 10) iReader_readEx [(2, 297)] (o + 1)) (Ra : o < 10 → RD B n C sk sn F M c0 cs 3 1 6 (fun z => z ≤ 10) iReader_readAtom [(2, 297), (9, 0)] (o + 1)) : RD B n C sk sn F M c0 cs 3 1 6 (fun z => z ≤ 10) iReader_readAtom [(2, 297), (9, 0)] o := by
  intro σ j c f hr hl hd hc h0
  have ho := hr.2.2.1.2
  by_cases t3 : t_c B n j = 3
  · exact A_dig hr t3 hc h0 f
  by_cases t40 : t_c B n j = 40
  · obtain ⟨o1, o2⟩ := C_opens hr (by rw [t40]; decide)
    have hj := tc_lt hr (by rw [t40]; decide)
    by_cases h10 : o = 10
    · obtain ⟨τ, a1, a2, a3⟩ := o2 h10
      exact ⟨0, τ, by rw [qReader_readAtom_0, tc_at hr, if_neg t3, if_pos t40, a1, Option.bind_some, qReader_readAtom_42, if_pos rfl], RO_bad hr a2 a3 fun g K hK => (go_atom_p (by omega) (by omega) t40).2 h10⟩
    · obtain ⟨τ, a1, a2, a3⟩ := o1 (by omega)
      obtain ⟨v, τ2, k1, k2⟩ := RD_call (Rx (by omega)) a2 (hg_ltc (hg_rf a3) hl) (by rw [hg_xdp (hg_rf a3)]; omega) (show c + (C - (j + 1)) < 3300 by omega) h0 f
      obtain ⟨u, τ', u1, u2⟩ := RO_par (md := 3) (h := 1) (q1 := 2) (w := 41) (TP := fun v τ => X iReader_readToParen 0 [(2, 297), (2, v)] [] τ) k1 a3 ho hj (by have := pk_1 (tc_n (B := B) (n := n) (j := j) (by rw [t40]; decide)); omega) (by decide) (by decide) T0p T1p (fun g K hK => (go_atom_p hK (by omega) t40).1 h10) (fun j c f g K hK => go_paren hK (by omega)) (by decide)
      exact ⟨u, τ', by rw [qReader_readAtom_0, tc_at hr, if_neg t3, if_pos t40, a1, Option.bind_some, qReader_readAtom_42, if_neg (show ¬ (1 : Int) = 0 by decide), k2, qReader_readAtom_50, u1, Option.bind_some, qReader_readAtom_53], u2⟩
  by_cases t45 : t_c B n j = 45
  · obtain ⟨o1, o2⟩ := C_opens hr (by rw [t45]; decide)
    have hj := tc_lt hr (by rw [t45]; decide)
    by_cases h10 : o = 10
    · obtain ⟨τ, a1, a2, a3⟩ := o2 h10
      exact ⟨0, τ, by rw [qReader_readAtom_0, tc_at hr, if_neg t3, if_neg t40, if_pos t45, a1, Option.bind_some, qReader_readAtom_71, if_pos rfl], RO_bad hr a2 a3 fun g K hK => (go_atom_m (by omega) (by omega) t45).2 h10⟩
    · obtain ⟨τ, a1, a2, a3⟩ := o1 (by omega)
      obtain ⟨v, τ2, k1, k2⟩ := RD_call (Ra (by omega)) a2 (hg_ltc (hg_rf a3) hl) (by rw [hg_xdp (hg_rf a3)]; omega) (show c + (C - (j + 1)) < 3300 by omega) h0 f
      obtain ⟨u, τ', u1, u2⟩ := RO_un (KR := 38) (kk := 7) (q1 := 3) k1 a3 ho hc h0 (by decide) (Or.inl rfl) hj (by have := pk_1 (tc_n (B := B) (n := n) (j := j) (by rw [t45]; decide)); show 1 + _ ≤ _; omega) (fun f m t N lo hi s i a r hs f0 m0 m6 f1 hP hrl => ⟨hs, Or.inr (Or.inr (Or.inr (Or.inl ⟨f0, m0, a, m6, by rw [f1, Int.toNat_natCast]; exact hP, by rw [f1, Int.toNat_natCast]; exact hrl⟩)))⟩) (fun g K hK => (go_atom_m hK (by omega) t45).1 h10) (fun j c f g K hK hc h0 => go_minus hK (by omega) hc h0) (by decide)
      exact ⟨u, τ', by rw [qReader_readAtom_0, tc_at hr, if_neg t3, if_neg t40, if_pos t45, a1, Option.bind_some, qReader_readAtom_71, if_neg (show ¬ (1 : Int) = 0 by decide), k2, qReader_readAtom_82, of_run, nnx, u1, Option.bind_some, qReader_readAtom_88], u2⟩
  obtain ⟨e1, e2⟩ := wd_min hr
  obtain ⟨e3, e4⟩ := wd_max hr
  have ld : ∀ {KR kk : Int}, ((tW B n j 9734 ∧ kk = 8 ∧ KR = 19) ∨ (tW B n j 9528 ∧ kk = 9 ∧ KR = 20)) → ∃ v τ, X iReader_readList 0 [(2, 297), (2, KR), (9, 0), (9, 0), (9, 0)] [] (xsetdp σ (xdp σ - 1)) = some ((2, v), τ) ∧ RO B n C sk sn F (F + M) c0 3 1 (fun z => z ≤ 10) σ (xsetdp τ (xdp σ)) v o j c f := fun hk => by
    obtain ⟨v, τ, u1, u2⟩ := A_list (σ := xsetdp σ (xdp σ - 1)) hk hr hl Rx (by show 20 * (11 - o) + 5 ≤ ((xdp σ - 1 : Nat) : Int); omega) hc h0 f
    exact ⟨v, τ, u1, RO_dp u2⟩
  by_cases w1 : tW B n j 9734
  · obtain ⟨v, τ, u1, u2⟩ := ld (KR := 19) (kk := 8) (Or.inl ⟨w1, rfl, rfl⟩)
    exact ⟨v, _, by rw [qReader_readAtom_0, tc_at hr, if_neg t3, if_neg t40, if_neg t45, e1, cnd_t, if_pos (e2.mpr w1), beq_ff (by omega), cnd_f, e2.mpr w1, u1, Option.bind_some, qReader_readAtom_121], u2⟩
  by_cases w2 : tW B n j 9528
  · obtain ⟨v, τ, u1, u2⟩ := ld (KR := 20) (kk := 9) (Or.inr ⟨w2, rfl, rfl⟩)
    exact ⟨v, _, by rw [qReader_readAtom_0, tc_at hr, if_neg t3, if_neg t40, if_neg t45, e1, cnd_t, if_neg (fun z => w1 (e2.mp z)), e3, cnd_t, if_pos (e4.mpr w2), beq_ff (by omega), cnd_f, e4.mpr w2, u1, Option.bind_some, qReader_readAtom_121], u2⟩
  by_cases t2 : t_c B n j = 2
  · obtain ⟨v, τ, u1, u2⟩ := A_word hr hl hnw t2 w1 w2 hc h0 f
    exact ⟨v, τ, by rw [qReader_readAtom_0, tc_at hr, if_neg t3, if_neg t40, if_neg t45, e1, cnd_t, if_neg (fun z => w1 (e2.mp z)), e3, cnd_t, if_neg (fun z => w2 (e4.mp z)), if_pos t2, u1, Option.bind_some, qReader_readAtom_134], u2⟩
  · obtain ⟨f1, f2, f3, f4⟩ := rst_f hr
    exact ⟨0, _, by rw [qReader_readAtom_0, tc_at hr, if_neg t3, if_neg t40, if_neg t45, e1, cnd_t, if_neg (fun z => w1 (e2.mp z)), e3, cnd_t, if_neg (fun z => w2 (e4.mp z)), if_neg t2, if_pos hr.2.2.2, if_pos f2, f1], RO_bad hr f3 f4 fun g K hK => go_atom_x (by omega) t3 w1 w2 (fun z => absurd z t2) t40 t45⟩
end RAT

/-! "if", an EX; all of the recursion -/
section REX
variable {B : Nat → Int} {n C : Nat} {sk sn : Nat → Int} {F M S c0 : Nat} {cs : Nat → Nat} {o : Int} {j c k : Nat} {f : Nat → Nat → Int} {σ τ υ : xS}
set_option maxHeartbeats 8000000 in
theorem A_if (hr : rst σ.1 B n C o j) (hl : ltc σ.1 σ.2.1 sk sn F M cs) (hw : tW B n j 249) (Rc : o < 10 → RD B n C sk sn F M c0 cs 4 6 11 (fun z => 11 ≤ z) iReader_readCond [(2, 297), (9, 0), (9, 0), (9, 0)] (o + 1)) (Rx : o < 10 → RD B n C sk sn F M c0 cs 0 4 9 (fun z => z ≤ 10) iReader_readEx [(2, 297)] (o + 1)) (hd : 20 * (11 - o) + 8 ≤ (xdp σ : Int)) (hc : c + (C - j) < 3300) (h0 : c0 ≤ c) (f : Nat → Nat → Int) : ∃ v τ, X iReader_readIf 0 [(2, 297), (9, 0), (9, 0), (9, 0)] [] σ = some ((2, v), τ) ∧ RO B n C sk sn F (F + M) c0 0 4 (fun z => z ≤ 10) σ τ v o j c f := by
  have ho := hr.2.2.1.2
  have n0 := nn_ge (σ := σ)
  have eo : o + 1 - 1 = o := by omega
  have ht1 : t_c B n j ≠ 1 := by rw [hw.1]; decide
  obtain ⟨o1, o2⟩ := C_opens hr ht1
  have hj := tc_lt hr ht1
  by_cases h10 : o = 10
  · obtain ⟨τ, a1, a2, a3⟩ := o2 h10
    exact ⟨0, τ, by rw [qReader_readIf_0, a1, Option.bind_some, qReader_readIf_4, if_pos rfl], RO_bad hr a2 a3 fun g K hK => (go_ex_i hw (by omega) (by omega)).2 h10⟩
  obtain ⟨τ0, a1, a2, a3⟩ := o1 (by omega)
  obtain ⟨v1, τA, k1, k1'⟩ := RD_call (Rc (by omega)) a2 (hg_ltc (hg_rf a3) hl) (by rw [hg_xdp (hg_rf a3)]; omega) (show c + (C - (j + 1)) < 3300 by omega) h0 f
  generalize hτA : xsetdp τA (xdp τ0) = τA' at k1
  have gA : ∀ g K, ((List.length K : Nat) : Int) + 10 * (11 - o) + 4 ≤ 490 → GO B n sk sn F (F + M) c0 (-1, o, j, c, f, g, (0, 0, -1, -1, 0) :: K) (-1, o + 1, j + 1, c, f, g, (4, 0, -1, -1, 0) :: (0, 1, -1, -1, 0) :: K) := fun g K hK => (go_ex_i hw (by omega) (by omega)).1 h10
  rcases k1 with ⟨kA, a, jA, cA, fA, rfl, A1, A2, ⟨A3, A4, A5, A6⟩, A7, A8, ⟨A9, A13⟩, A10, A11, A12⟩ | ⟨rfl, kA, q, A1, A2, ⟨A3, A4, A5⟩, A6⟩
  rotate_left
  · refine ⟨0, τA', ?_, Or.inr ⟨rfl, 0 + kA, q, hg_tr (hg_rf a3) A1, A2, ⟨by omega, by omega, by omega⟩, fun g K hK => BAD_tr (gA g K hK) (A6 _ _ (by rw [List.length_cons]; omega))⟩⟩
    rw [qReader_readIf_0, a1, Option.bind_some, qReader_readIf_4, if_neg (show ¬ (1 : Int) = 0 by decide), k1', hτA, qReader_readIf_13, C_passWord_x A2, Option.bind_some, qReader_readIf_21, if_pos rfl, C_passWord_x A2, Option.bind_some, qReader_readIf_40, if_pos rfl, if_pos rfl]
  obtain ⟨la1, la2, la3⟩ := rl_nd (A11 _ (Nat.le_refl _))
  have ha0 : ¬ ((a : Nat) : Int) = 0 := by have := la3.1; omega
  have gA2 : ∀ g K, ((List.length K : Nat) : Int) + 10 * (11 - o) + 4 ≤ 490 → GO B n sk sn F (F + M) c0 (-1, o, j, c, f, g, (0, 0, -1, -1, 0) :: K) (-1, o + 1, jA, cA, fA, ((cA - 1 : Nat) : Int), (0, 1, -1, -1, 0) :: K) := fun g K hK => GO_tr (gA g K hK) (A12 _ _ (by rw [List.length_cons]; omega))
  have hgA := hg_tr (hg_rf a3) A1
  have jAC := A2.2.1.1
  have pA := C_passWord A2 (q := 15) (by decide)
  by_cases wt : tW B n jA 399641
  rotate_left
  · obtain ⟨τx, (x1 : X iReader_passWord 0 [(2, 297), (2, 17)] [] τA' = some ((0, 0), τx)), x2, x3⟩ := pA.2 (show ¬ tW B n jA (kcd 15) from fun z => wt z)
    refine ⟨0, τx, ?_, Or.inr ⟨rfl, 0 + kA + 0, jA, hg_tr hgA (hg_rf x2), x3, ⟨by omega, by omega, by omega⟩, fun g K hK => BAD_tr (gA2 g K hK) ((go_ex_t (by omega)).2 wt)⟩⟩
    rw [qReader_readIf_0, a1, Option.bind_some, qReader_readIf_4, if_neg (show ¬ (1 : Int) = 0 by decide), k1', hτA, qReader_readIf_13, x1, Option.bind_some, qReader_readIf_21, if_pos rfl, C_passWord_x x3, Option.bind_some, qReader_readIf_40, if_pos rfl, if_neg ha0, if_pos rfl]
  obtain ⟨τ1, (b1 : X iReader_passWord 0 [(2, 297), (2, 17)] [] τA' = some ((0, 1), τ1)), b2, b3⟩ := pA.1 (show tW B n jA (kcd 15) from wt)
  have hjA := tc_lt A2 (by rw [wt.1]; decide)
  have hg1 := hg_tr hgA (hg_rf b3)
  obtain ⟨v2, τB, k2, k2'⟩ := RD_call (Rx (by omega)) b2 (hg_ltc hg1 hl) (by rw [hg_xdp hg1]; omega) (show cA + (C - (jA + 1)) < 3300 by omega) (show c0 ≤ cA by omega) fA
  generalize hτB : xsetdp τB (xdp τ1) = τB' at k2
  have gB : ∀ g K, ((List.length K : Nat) : Int) + 10 * (11 - o) + 4 ≤ 490 → GO B n sk sn F (F + M) c0 (-1, o, j, c, f, g, (0, 0, -1, -1, 0) :: K) (-1, o + 1, jA + 1, cA, fA, ((cA - 1 : Nat) : Int), (0, 0, -1, -1, 0) :: (0, 2, ((cA - 1 : Nat) : Int), -1, 0) :: K) := fun g K hK => GO_tr (gA2 g K hK) ((go_ex_t (by omega)).1 wt)
  rcases k2 with ⟨kB, b, jB, cB, fB, rfl, B1, B2, ⟨B3, B4, B5, B6⟩, B7, B8, ⟨B9, B13⟩, B10, B11, B12⟩ | ⟨rfl, kB, q, B1, B2, ⟨B3, B4, B5⟩, B6⟩
  rotate_left
  · refine ⟨0, τB', ?_, Or.inr ⟨rfl, 0 + kA + 0 + kB, q, hg_tr hg1 B1, B2, ⟨by omega, by omega, by omega⟩, fun g K hK => BAD_tr (gB g K hK) (B6 _ _ (by rw [List.length_cons]; omega))⟩⟩
    rw [qReader_readIf_0, a1, Option.bind_some, qReader_readIf_4, if_neg (show ¬ (1 : Int) = 0 by decide), k1', hτA, qReader_readIf_13, b1, Option.bind_some, qReader_readIf_21, if_neg (show ¬ (1 : Int) = 0 by decide), k2', hτB, qReader_readIf_28, C_passWord_x B2, Option.bind_some, qReader_readIf_40, if_pos rfl, if_neg ha0, if_pos rfl]
  obtain ⟨lb1, lb2, lb3⟩ := rl_nd (B11 _ (Nat.le_refl _))
  have n1 := hg_nn hg1
  have hb0 : ¬ ((b : Nat) : Int) = 0 := by omega
  have gB2 : ∀ g K, ((List.length K : Nat) : Int) + 10 * (11 - o) + 4 ≤ 490 → GO B n sk sn F (F + M) c0 (-1, o, j, c, f, g, (0, 0, -1, -1, 0) :: K) (-1, o + 1, jB, cB, fB, ((cB - 1 : Nat) : Int), (0, 2, ((cA - 1 : Nat) : Int), -1, 0) :: K) := fun g K hK => GO_tr (gB g K hK) (B12 _ _ (by rw [List.length_cons]; omega))
  have hgB := hg_tr hg1 B1
  have jBC := B2.2.1.1
  have pB := C_passWord B2 (q := 16) (by decide)
  by_cases we : tW B n jB 107681
  rotate_left
  · obtain ⟨τx, (x1 : X iReader_passWord 0 [(2, 297), (2, 18)] [] τB' = some ((0, 0), τx)), x2, x3⟩ := pB.2 (show ¬ tW B n jB (kcd 16) from fun z => we z)
    refine ⟨0, τx, ?_, Or.inr ⟨rfl, 0 + kA + 0 + kB + 0, jB, hg_tr hgB (hg_rf x2), x3, ⟨by omega, by omega, by omega⟩, fun g K hK => BAD_tr (gB2 g K hK) ((go_ex_e (by omega)).2 we)⟩⟩
    rw [qReader_readIf_0, a1, Option.bind_some, qReader_readIf_4, if_neg (show ¬ (1 : Int) = 0 by decide), k1', hτA, qReader_readIf_13, b1, Option.bind_some, qReader_readIf_21, if_neg (show ¬ (1 : Int) = 0 by decide), k2', hτB, qReader_readIf_28, x1, Option.bind_some, qReader_readIf_40, if_pos rfl, if_neg ha0, if_neg hb0]
  obtain ⟨τ2, (d1 : X iReader_passWord 0 [(2, 297), (2, 18)] [] τB' = some ((0, 1), τ2)), d2, d3⟩ := pB.1 (show tW B n jB (kcd 16) from we)
  have hjB := tc_lt B2 (by rw [we.1]; decide)
  have hg2 := hg_tr hgB (hg_rf d3)
  obtain ⟨v3, τC, k3, k3'⟩ := RD_call (Rx (by omega)) d2 (hg_ltc hg2 hl) (by rw [hg_xdp hg2]; omega) (show cB + (C - (jB + 1)) < 3300 by omega) (show c0 ≤ cB by omega) fB
  generalize hτC : xsetdp τC (xdp τ2) = τC' at k3
  have gC : ∀ g K, ((List.length K : Nat) : Int) + 10 * (11 - o) + 4 ≤ 490 → GO B n sk sn F (F + M) c0 (-1, o, j, c, f, g, (0, 0, -1, -1, 0) :: K) (-1, o + 1, jB + 1, cB, fB, ((cB - 1 : Nat) : Int), (0, 0, -1, -1, 0) :: (0, 3, ((cA - 1 : Nat) : Int), ((cB - 1 : Nat) : Int), 0) :: K) := fun g K hK => GO_tr (gB2 g K hK) ((go_ex_e (by omega)).1 we)
  rcases k3 with ⟨kC, d, jC, cC, fC, rfl, C1, C2, ⟨C3, C4, C5, C6⟩, C7, C8, ⟨C9, C13⟩, C10, C11, C12⟩ | ⟨rfl, kC, q, C1, C2, ⟨C3, C4, C5⟩, C6⟩
  rotate_left
  · refine ⟨0, τC', ?_, Or.inr ⟨rfl, 0 + kA + 0 + kB + 0 + kC, q, hg_tr hg2 C1, C2, ⟨by omega, by omega, by omega⟩, fun g K hK => BAD_tr (gC g K hK) (C6 _ _ (by rw [List.length_cons]; omega))⟩⟩
    rw [qReader_readIf_0, a1, Option.bind_some, qReader_readIf_4, if_neg (show ¬ (1 : Int) = 0 by decide), k1', hτA, qReader_readIf_13, b1, Option.bind_some, qReader_readIf_21, if_neg (show ¬ (1 : Int) = 0 by decide), k2', hτB, qReader_readIf_28, d1, Option.bind_some, qReader_readIf_40, if_neg (show ¬ (1 : Int) = 0 by decide), k3', hτC, qReader_readIf_47, if_neg ha0, if_neg hb0, if_pos rfl]
  obtain ⟨ld1, ld2, ld3⟩ := rl_nd (C11 _ (Nat.le_refl _))
  have n2 := hg_nn hg2
  have hd0 : ¬ ((d : Nat) : Int) = 0 := by omega
  have hgC := hg_tr hg2 C1
  have jCC := C2.2.1.1
  have oA := hg_tr (hg_rf b3) (hg_tr B1 (hg_tr (hg_rf d3) C1))
  have oB := hg_tr (hg_rf d3) C1
  have nA := hg_nn hgA
  have nB := hg_nn hgB
  have nC := hg_nn hgC
  have n3 := hg_nn (hg_rf a3)
  have la3' := hg_ndk oA la3
  have lb3' := hg_ndk oB lb3
  have hg4 := hg_s (hg_s hgC (show nn σ ≤ b by omega) 7 (d : Int)) (show nn σ ≤ a by omega) 7 (b : Int)
  generalize hτ4 : xs (xs τC' b 7 (d : Int)) a 7 (b : Int) = τ4 at hg4
  have e42 : τ4.2 = τC'.2 := by rw [← hτ4]; rfl
  have n5 : nn τ4 = nn τC' := by rw [nn_eq, nn_eq, e42]
  have hr4 : rst τ4.1 B n C (o + 1) jC := rst_cg C2 fun x hx => by rw [← hτ4, xs_ne (by omega), xs_ne (by omega)]
  have hr5 : rst (xs (nnd τ4 16) (nn τ4) 6 (a : Int)).1 B n C (o + 1) jC := rst_cg hr4 fun x hx => by rw [xs_ne (by omega), nnd_m (by omega)]
  obtain ⟨υ, z1, z2, z3⟩ := C_closes hr5 (by omega) ((nn τ4 : Nat) : Int)
  rw [eo] at z2
  have hd1 : hg τ4 υ (1 + 0) := hg_tr (hg_s (hg_nd 16) (Nat.le_refl _) 6 (a : Int)) (hg_rf z3)
  have n6 := hg_nn hd1
  have em4 : ∀ x, x < nn τC' → x ≠ 297 → ∀ q, (x = a → q ≠ 7) → (x = b → q ≠ 7) → υ.1 x q = τC'.1 x q := fun x hx hx2 q h1 h2 => by
    rw [hd1.2.2.2.1 x hx2 (by omega), ← hτ4]
    by_cases e : x = a
    · rw [e, xs_at, xup_ne (h1 e), xs_ne (by omega)]
    · rw [xs_ne e]
      by_cases e' : x = b
      · rw [e', xs_at, xup_ne (h2 e')]
      · rw [xs_ne e']
  have es : ∀ q, υ.1 (nn τ4) q = if q = 6 then (a : Int) else (nnd τ4 16).1 (nn τ4) q := fun q => by rw [z3.2.1 _ (by omega), xs_at, xup_at]
  have ha7 : υ.1 a 7 = (b : Int) := by
    rw [hd1.2.2.2.1 a (by omega) (by omega), ← hτ4, xs_at, xup_eq]
  have hb7 : υ.1 b 7 = (d : Int) := by
    rw [hd1.2.2.2.1 b (by omega) (by omega), ← hτ4, xs_ne (by omega), xs_at, xup_eq]
  have hd7 : υ.1 d 7 = 0 := by rw [em4 d (by omega) (by omega) 7 (fun e => by omega) (fun e => by omega)]; exact C10
  have hnam3 : ∀ x w, nam τC'.1 τC'.2.1 x w → nam υ.1 υ.2.1 x w := fun x w hx => by
    refine hg_nam hd1 ?_
    have h1 : nam (xs τC' b 7 (d : Int)).1 (xs τC' b 7 (d : Int)).2.1 x w := nam_xs lb3'.1 hx 7 _
    have h2 := nam_xs (σ := xs τC' b 7 (d : Int)) (a := a) la3'.1 h1 7 (b : Int)
    rw [hτ4] at h2
    rw [e42]
    exact h2
  have hty3 : ∀ x, nd τC'.2.1 x → nd υ.2.1 x := fun x hx => (hg_ndk hd1 (by rw [e42]; exact hx)).1
  obtain ⟨w0, w1', w2', w3', w4', w5'⟩ := nwr_at (f := fC) (c := cC) (k := 10) (a := ((cA - 1 : Nat) : Int)) (b := ((cB - 1 : Nat) : Int)) (d := ((cC - 1 : Nat) : Int)) (v := 0)
  have hs : nn σ ≤ nn τ4 ∧ nn τ4 < nn υ ∧ nd υ.2.1 (nn τ4) := ⟨by omega, by omega, by rw [z3.1]; exact nnd_nd (k := 16)⟩
  have hf1 : ∀ q r, r < cA → nwr fC cC 10 ((cA - 1 : Nat) : Int) ((cB - 1 : Nat) : Int) ((cC - 1 : Nat) : Int) 0 q r = fA q r := fun q r hr => by rw [nwr_lo (by omega), C7 q r (by omega), B7 q r hr]
  have hf2 : ∀ q r, r < cB → nwr fC cC 10 ((cA - 1 : Nat) : Int) ((cB - 1 : Nat) : Int) ((cC - 1 : Nat) : Int) 0 q r = fB q r := fun q r hr => by rw [nwr_lo (by omega), C7 q r hr]
  have hf3 : ∀ q r, r < cC → nwr fC cC 10 ((cA - 1 : Nat) : Int) ((cB - 1 : Nat) : Int) ((cC - 1 : Nat) : Int) 0 q r = fC q r := fun q r hr => nwr_lo (by omega)
  have wfs' : wfs (nwr fC cC 10 ((cA - 1 : Nat) : Int) ((cB - 1 : Nat) : Int) ((cC - 1 : Nat) : Int) 0) sk F (F + M) c (cC + 1) := by
    refine wfs_snoc (wfs_app (wfs_app (wfs_cg (fun q r _ hr => hf1 q r hr) A8) (wfs_cg (fun q r _ hr => hf2 q r hr) B8) (by omega)) (wfs_cg (fun q r _ hr => hf3 q r hr) C8) (by omega)) ?_
    unfold wfr
    rw [w0, w1', w2', w3', w5']
    refine ⟨by omega, fun q => by omega, fun q => by omega, fun _ => by omega, fun _ => by omega, fun q => by omega, fun q => by omega⟩
  have hW : wl (nwr fC cC 10 ((cA - 1 : Nat) : Int) ((cB - 1 : Nat) : Int) ((cC - 1 : Nat) : Int) 0) (lwd sn F) (cC + 1 - 1) = 15 + wl fA (lwd sn F) (cA - 1) + wl fB (lwd sn F) (cB - 1) + wl fC (lwd sn F) (cC - 1) := by
    show wl (nwr fC cC 10 ((cA - 1 : Nat) : Int) ((cB - 1 : Nat) : Int) ((cC - 1 : Nat) : Int) 0) (lwd sn F) cC = _
    rw [wl_f wfs' (show c ≤ cC by omega) (Nat.lt_succ_self cC) w0, w1', w2', w3', Int.toNat_natCast, Int.toNat_natCast, Int.toNat_natCast, wl_cg A8 (show c ≤ cA - 1 by omega) (by omega) (fun q r hr _ => hf1 q r (by omega)), wl_cg B8 (show cA ≤ cB - 1 by omega) (by omega) (fun q r hr _ => hf2 q r (by omega)), wl_cg C8 (show cB ≤ cC - 1 by omega) (by omega) (fun q r hr _ => hf3 q r (by omega))]
  have pkA := pk_w hw 1 (by decide) (by decide)
  have pkB := pk_w wt 3 (by decide) (by decide)
  have pkC := pk_w we 3 (by decide) (by decide)
  refine ⟨((nn τ4 : Nat) : Int), υ, ?_, Or.inl ⟨_, nn τ4, jC, cC + 1, nwr fC cC 10 ((cA - 1 : Nat) : Int) ((cB - 1 : Nat) : Int) ((cC - 1 : Nat) : Int) 0, rfl, hg_tr hg4 hd1, z2, ⟨by omega, by omega, by omega, by omega, by omega⟩, fun q r hr => by rw [hf1 q r (by omega), A7 q r hr], wfs', ⟨?_, w4'⟩, by rw [es 7, if_neg (by decide), nnd_v]; rfl, fun N hN => ?_, fun g K hK => ?_⟩⟩
  · have hb4 : nd τC'.2.1 b := lb3'.1
    have ha4 : nd (xs τC' b 7 (d : Int)).2.1 a := la3'.1
    rw [qReader_readIf_0, a1, Option.bind_some, qReader_readIf_4, if_neg (show ¬ (1 : Int) = 0 by decide), k1', hτA, qReader_readIf_13, b1, Option.bind_some, qReader_readIf_21, if_neg (show ¬ (1 : Int) = 0 by decide), k2', hτB, qReader_readIf_28, d1, Option.bind_some, qReader_readIf_40, if_neg (show ¬ (1 : Int) = 0 by decide), k3', hτC, qReader_readIf_47, if_neg ha0, if_neg hb0, if_neg hd0, nd_o hb4, cnd_t, nd_wr hb4, xob_some, nd_o ha4, cnd_t, nd_wr ha4, xob_some, hτ4, of_run, nnx, z1, Option.bind_some, qReader_readIf_87]
  · show nwr fC cC 10 _ _ _ 0 0 cC ≤ 10
    rw [w0]; decide
  · obtain ⟨N, rfl⟩ : ∃ N', N = N' + 1 := ⟨N - 1, by omega⟩
    have oAe := hg_ndk oA (a := a) la3
    refine ⟨hs, Or.inr (Or.inr (Or.inr (Or.inr (Or.inr (Or.inr (Or.inl ⟨w0, by rw [es 0, if_neg (by decide), nnd_v, if_pos rfl], a, b, d, by rw [es 6, if_pos rfl], ha7, hb7, hd7, ?_, ?_, ?_⟩))))))⟩
    · rw [show cC + 1 - 1 = cC from rfl, w1', Int.toNat_natCast]
      refine ⟨by rw [hf1 0 _ (by omega)]; exact A9, nn τ0, nn τA', by omega, by omega, by omega, ?_⟩
      exact rl_cg A8 (fun x hx => hty3 x (hg_ndk oA hx).1) (fun _ _ _ => ⟨rfl, rfl⟩) (fun x w hx => hnam3 x w (hg_nam oA hx)) N (nn τ0) (nn τA') a (cA - 1) (by omega) (by omega) (fun x q y1 y2 y3 y4 => by rw [em4 x (by omega) (by omega) q (fun e => (y4 e).2) (fun e => by omega), (hg_ndk oA y3).2]) (fun i _ hi => ⟨fun q _ _ => hf1 q i (by omega), fun _ => hf1 4 i (by omega)⟩) (A11 N (by omega))
    · rw [show cC + 1 - 1 = cC from rfl, w2', Int.toNat_natCast]
      refine ⟨by rw [hf2 0 _ (by omega)]; exact B9, nn τ1, nn τB', by omega, by omega, by omega, ?_⟩
      exact rl_cg B8 (fun x hx => hty3 x (hg_ndk oB hx).1) (fun _ _ _ => ⟨rfl, rfl⟩) (fun x w hx => hnam3 x w (hg_nam oB hx)) N (nn τ1) (nn τB') b (cB - 1) (by omega) (by omega) (fun x q y1 y2 y3 y4 => by rw [em4 x (by omega) (by omega) q (fun e => by omega) (fun e => (y4 e).2), (hg_ndk oB y3).2]) (fun i _ hi => ⟨fun q _ _ => hf2 q i (by omega), fun _ => hf2 4 i (by omega)⟩) (B11 N (by omega))
    · rw [show cC + 1 - 1 = cC from rfl, w3', Int.toNat_natCast]
      refine ⟨by rw [hf3 0 _ (by omega)]; exact C9, nn τ2, nn τC', by omega, by omega, by omega, ?_⟩
      exact rl_cg C8 hty3 (fun _ _ _ => ⟨rfl, rfl⟩) hnam3 N (nn τ2) (nn τC') d (cC - 1) (by omega) (by omega) (fun x q y1 y2 y3 y4 => em4 x (by omega) (by omega) q (fun e => by omega) (fun e => by omega)) (fun i _ hi => ⟨fun q _ _ => hf3 q i (by omega), fun _ => hf3 4 i (by omega)⟩) (C11 N (by omega))
  · have := go_ex_n (B := B) (n := n) (sk := sk) (sn := sn) (F := F) (S := F + M) (c0 := c0) (o := o + 1) (j := jC) (f := fC) (g := ((cC - 1 : Nat) : Int)) (x := ((cA - 1 : Nat) : Int)) (y := ((cB - 1 : Nat) : Int)) (z := 0) (show K.length < 499 by omega) (show cC < 3300 by omega) (show c0 ≤ cC by omega) (by omega)
    rw [eo] at this
    exact GO_tr (gC g K hK) (GO_tr (C12 _ _ (by rw [List.length_cons]; omega)) this)
theorem R_ex (Rs : RD B n C sk sn F M c0 cs 1 3 8 (fun z => z ≤ 10) iReader_readSum [(2, 297), (9, 0), (9, 0), (9, 0), (9, 0)] o) (Rc : o < 10 → RD B n C sk sn F M c0 cs 4 6 11 (fun z => 11 ≤ z) iReader_readCond [(2, 297), (9, 0), (9, 0), (9, 0)] (o + 1)) (Rx : o < 10 → RD B n C sk sn F M c0 cs 0 4 9 (fun z => z ≤ 10) iReader_readEx [(2, 297)] (o + 1)) : RD B n C sk sn F M c0 cs 0 4 9 (fun z => z ≤ 10) iReader_readEx [(2, 297)] o := by
  intro σ j c f hr hl hd hc h0
  have ho := hr.2.2.1.2
  obtain ⟨e1, e2⟩ := wd_if hr
  by_cases hw : tW B n j 249
  · obtain ⟨v, τ, u1, u2⟩ := A_if (σ := xsetdp σ (xdp σ - 1)) hr hl hw Rc Rx (by show 20 * (11 - o) + 8 ≤ ((xdp σ - 1 : Nat) : Int); omega) hc h0 f
    exact ⟨v, _, by rw [qReader_readEx_0, e1, cnd_t, if_pos (e2.mpr hw), beq_ff (by omega), cnd_f, u1, Option.bind_some, qReader_readEx_14, qReader_readEx_21], RO_dp u2⟩
  · obtain ⟨v, τ, k1, k2⟩ := RD_call Rs hr hl (by omega) hc h0 f
    refine ⟨v, _, by rw [qReader_readEx_0, e1, cnd_t, if_neg (fun z => hw (e2.mp z)), k2, qReader_readEx_21], ?_⟩
    rcases k1 with ⟨k', a, j', c', f', rfl, m1, m2, m3, m7, m8, m9, m10, m11, m12⟩ | ⟨rfl, k', q, m1, m2, m3, m6⟩
    · exact Or.inl ⟨k', a, j', c', f', rfl, m1, m2, m3, m7, m8, m9, m10, m11, fun g K hK => GO_tr (go_ex_s hw (by omega)) (GO_tr (m12 _ _ (by rw [List.length_cons]; omega)) (go_ex_d (by omega)))⟩
    · exact Or.inr ⟨rfl, k', q, m1, m2, m3, fun g K hK => BAD_tr (go_ex_s hw (by omega)) (m6 _ _ (by rw [List.length_cons]; omega))⟩
/-- all of it, so many openings left -/
theorem R_all (hnw : ∀ i, i < M → sk (F + i) = 0 → ∀ q, q < 32 → sn (F + i) ≠ kcd q) : ∀ (d : Nat) (o : Int), o = 10 - d → RD B n C sk sn F M c0 cs 3 1 6 (fun z => z ≤ 10) iReader_readAtom [(2, 297), (9, 0)] o ∧ RD B n C sk sn F M c0 cs 0 4 9 (fun z => z ≤ 10) iReader_readEx [(2, 297)] o ∧ RD B n C sk sn F M c0 cs 6 4 9 (fun z => 11 ≤ z) iReader_readTest [(2, 297), (9, 0), (9, 0), (9, 0)] o ∧ RD B n C sk sn F M c0 cs 4 6 11 (fun z => 11 ≤ z) iReader_readCond [(2, 297), (9, 0), (9, 0), (9, 0)] o
  | 0, o, h => by
    have h1 : ¬ o < 10 := by omega
    have A := R_atom (B := B) (n := n) (C := C) (c0 := c0) (cs := cs) (o := o) hnw (fun z => absurd z h1) (fun z => absurd z h1)
    have Sm := R_Sum (R_Prod A)
    have T := R_test Sm (fun z => absurd z h1) (fun z => absurd z h1)
    exact ⟨A, R_ex Sm (fun z => absurd z h1) (fun z => absurd z h1), T, R_Cond (R_All2 T)⟩
  | d + 1, o, h => by
    obtain ⟨i1, i2, i3, i4⟩ := R_all hnw d (o + 1) (by omega)
    have A := R_atom (o := o) hnw (fun _ => i2) (fun _ => i1)
    have Sm := R_Sum (R_Prod A)
    have T := R_test Sm (fun _ => i4) (fun _ => i3)
    exact ⟨A, R_ex Sm (fun _ => i4) (fun _ => i2), T, R_Cond (R_All2 T)⟩
/-- an EX that stands in nothing -/
theorem R_top (hnw : ∀ i, i < M → sk (F + i) = 0 → ∀ q, q < 32 → sn (F + i) ≠ kcd q) : RD B n C sk sn F M c0 cs 0 4 9 (fun z => z ≤ 10) iReader_readEx [(2, 297)] 0 := (R_all hnw 10 0 (by decide)).2.1
end REX

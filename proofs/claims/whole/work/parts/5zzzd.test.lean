/-! a test -/
section RTS
variable {B : Nat → Int} {n C : Nat} {sk sn : Nat → Int} {F M S c0 : Nat} {cs : Nat → Nat} {o : Int} {j c k : Nat} {f : Nat → Nat → Int} {σ τ υ : xS}
theorem nam_xs {a : Nat} (ha : nd σ.2.1 a) {x w : Int} (hx : nam σ.1 σ.2.1 x w) (q : Nat) (v : Int) : nam (xs σ a q v).1 σ.2.1 x w := by
  obtain ⟨cc, l, u1, ⟨u2, u3, u4, z, u5, u6, u7, u8⟩, u9, u10⟩ := hx
  have hne : ∀ (y kk nx : Nat), xnth σ.2.1 (y - 392) = some (kk, nx) → kk ≠ 7 → y ≠ a := fun y kk nx h1 h2 e => by
    have : some (kk, nx) = some (7, 8) := h1.symm.trans (by rw [e]; exact ha.2)
    injection this with h; injection h with h _; exact h2 h
  exact ⟨cc, l, u1, ⟨u2, u3, by rw [xs_ne (hne cc _ _ u3 (by decide))]; exact u4, z, by rw [xs_ne (hne cc _ _ u3 (by decide))]; exact u5, u6, u7, fun i hi => by rw [xs_ne (hne z _ _ u7 (by decide))]; exact u8 i hi⟩, u9, u10⟩
theorem q69 (hr : rst σ.1 B n C o j) {t0 : Int} (ha0 : ¬ t0 = 0) (hw : t_c B n j = 60 ∨ t_c B n j = 62 ∨ t_c B n j = 61) : X iReader_readTest 69 [(2, 297), (9, 0), (9, 0), (9, 0)] [(2, t0)] σ = (X iReader_step 0 [(2, 297)] [] σ).bind fun q1 => X iReader_readTest 115 [(2, 297), (2, t0), (0, t_c B n j), (9, 0)] [] q1.2 := by
  rw [qReader_readTest_69, if_neg ha0, tc_at hr]
  by_cases h1 : t_c B n j = 60
  · rw [if_pos h1]
  by_cases h2 : t_c B n j = 62
  · rw [if_neg h1, if_pos h2]
  · rw [if_neg h1, if_neg h2, if_pos (by omega)]
set_option maxHeartbeats 4000000 in
theorem R_test (Rs : RD B n C sk sn F M c0 cs 1 3 8 (fun z => z ≤ 10) iReader_readSum [(2, 297), (9, 0), (9, 0), (9, 0), (9, 0)] o) (Rc : o < 10 → RD B n C sk sn F M c0 cs 4 6 11 (fun z => 11 ≤ z) iReader_readCond [(2, 297), (9, 0), (9, 0), (9, 0)] (o + 1)) (Rt : o < 10 → RD B n C sk sn F M c0 cs 6 4 9 (fun z => 11 ≤ z) iReader_readTest [(2, 297), (9, 0), (9, 0), (9, 0)] (o + 1)) : RD B n C sk sn F M c0 cs 6 4 9 (fun z => 11 ≤ z) iReader_readTest [(2, 297), (9, 0), (9, 0), (9, 0)] o := by
  intro σ j c f hr hl hd hc h0
  have ho := hr.2.2.1.2
  have n0 := nn_ge (σ := σ)
  obtain ⟨e1, e2⟩ := wd_not hr
  by_cases w1 : tW B n j 10631
  · have ht1 : t_c B n j ≠ 1 := by rw [w1.1]; decide
    obtain ⟨o1, o2⟩ := C_opens hr ht1
    have hj := tc_lt hr ht1
    by_cases h10 : o = 10
    · obtain ⟨τ, a1, a2, a3⟩ := o2 h10
      exact ⟨0, τ, by rw [qReader_readTest_0, e1, cnd_t, if_pos (e2.mpr w1), a1, Option.bind_some, qReader_readTest_14, if_pos rfl], RO_bad hr a2 a3 fun g K hK => (go_test_n (by omega) (by omega) w1).2 h10⟩
    · obtain ⟨τ, a1, a2, a3⟩ := o1 (by omega)
      obtain ⟨v, τ2, k1, k2⟩ := RD_call (Rt (by omega)) a2 (hg_ltc (hg_rf a3) hl) (by rw [hg_xdp (hg_rf a3)]; omega) (show c + (C - (j + 1)) < 3300 by omega) h0 f
      obtain ⟨u, τ', u1, u2⟩ := RO_un (KR := 23) (kk := 14) (q1 := 1) k1 a3 ho hc h0 (by decide) (Or.inr rfl) hj (by have := pk_w w1 2 (by decide) (by decide); show 4 + _ ≤ _; omega) (fun f m t N lo hi s i a r hs f0 m0 m6 f1 hP hrl => ⟨hs, Or.inr (Or.inr (Or.inr (Or.inr (Or.inl ⟨f0, m0, a, m6, by rw [f1, Int.toNat_natCast]; exact hP, by rw [f1, Int.toNat_natCast]; exact hrl⟩))))⟩) (fun g K hK => (go_test_n hK (by omega) w1).1 h10) (fun j c f g K hK hc h0 => go_test_1 hK (by omega) hc h0) (by decide)
      exact ⟨u, τ', by rw [qReader_readTest_0, e1, cnd_t, if_pos (e2.mpr w1), a1, Option.bind_some, qReader_readTest_14, if_neg (show ¬ (1 : Int) = 0 by decide), k2, qReader_readTest_25, of_run, nnx, u1, Option.bind_some, qReader_readTest_31], u2⟩
  by_cases t91 : t_c B n j = 91
  · obtain ⟨o1, o2⟩ := C_opens hr (by rw [t91]; decide)
    have hj := tc_lt hr (by rw [t91]; decide)
    by_cases h10 : o = 10
    · obtain ⟨τ, a1, a2, a3⟩ := o2 h10
      exact ⟨0, τ, by rw [qReader_readTest_0, e1, cnd_t, if_neg (fun z => w1 (e2.mp z)), tc_at hr, if_pos t91, a1, Option.bind_some, qReader_readTest_49, if_pos rfl], RO_bad hr a2 a3 fun g K hK => (go_test_b (by omega) (by omega) t91).2 h10⟩
    · obtain ⟨τ, a1, a2, a3⟩ := o1 (by omega)
      obtain ⟨v, τ2, k1, k2⟩ := RD_call (Rc (by omega)) a2 (hg_ltc (hg_rf a3) hl) (by rw [hg_xdp (hg_rf a3)]; omega) (show c + (C - (j + 1)) < 3300 by omega) h0 f
      obtain ⟨u, τ', u1, u2⟩ := RO_par (md := 6) (h := 4) (q1 := 2) (w := 93) (TP := fun v τ => X iReader_readToBracket 0 [(2, 297), (2, v)] [] τ) k1 a3 ho hj (by have := pk_1 (tc_n (B := B) (n := n) (j := j) (by rw [t91]; decide)); omega) (by decide) (by decide) T0b T1b (fun g K hK => (go_test_b hK (by omega) t91).1 h10) (fun j c f g K hK => go_test_2 hK (by omega)) (by decide)
      exact ⟨u, τ', by rw [qReader_readTest_0, e1, cnd_t, if_neg (fun z => w1 (e2.mp z)), tc_at hr, if_pos t91, a1, Option.bind_some, qReader_readTest_49, if_neg (show ¬ (1 : Int) = 0 by decide), k2, qReader_readTest_57, u1, Option.bind_some, qReader_readTest_60], u2⟩
  obtain ⟨v, τ1, k1, k2⟩ := RD_call Rs hr hl (by omega) hc h0 f
  generalize hτ1 : xsetdp τ1 (xdp σ) = τ1' at k1
  have gS : ∀ g K, ((List.length K : Nat) : Int) + 10 * (11 - o) + 4 ≤ 490 → GO B n sk sn F (F + M) c0 (-1, o, j, c, f, g, (6, 0, -1, -1, 0) :: K) (-1, o, j, c, f, g, (1, 0, -1, -1, 0) :: (6, 3, -1, -1, 0) :: K) := fun g K hK => go_test_s (by omega) w1 t91
  rcases k1 with ⟨k, a, j', c', f', rfl, m1, m2, ⟨m3, m4, m5, m6⟩, m7, m8, ⟨m9, m13⟩, m10, m11, m12⟩ | ⟨rfl, k', q, m1, m2, m3, m6⟩
  · obtain ⟨l1, l2, l3⟩ := rl_nd (m11 _ (Nat.le_refl _))
    have ha0 : ¬ ((a : Nat) : Int) = 0 := by omega
    have mC := m2.2.1.1
    have gA : ∀ g K, ((List.length K : Nat) : Int) + 10 * (11 - o) + 4 ≤ 490 → GO B n sk sn F (F + M) c0 (-1, o, j, c, f, g, (6, 0, -1, -1, 0) :: K) (-1, o, j', c', f', ((c' - 1 : Nat) : Int), (6, 3, -1, -1, 0) :: K) := fun g K hK => GO_tr (gS g K hK) (m12 _ _ (by rw [List.length_cons]; omega))
    have hw3 : (t_c B n j' = 60 ∨ t_c B n j' = 62 ∨ t_c B n j' = 61) ∨ (t_c B n j' ≠ 60 ∧ t_c B n j' ≠ 62 ∧ t_c B n j' ≠ 61) := by omega
    rcases hw3 with hw | hw
    · obtain ⟨kk, hkk⟩ : ∃ kk : Int, (t_c B n j' = 60 ∧ kk = 11) ∨ (t_c B n j' = 62 ∧ kk = 12) ∨ (t_c B n j' = 61 ∧ kk = 13) := by
        rcases hw with h | h | h
        · exact ⟨11, Or.inl ⟨h, rfl⟩⟩
        · exact ⟨12, Or.inr (Or.inl ⟨h, rfl⟩)⟩
        · exact ⟨13, Or.inr (Or.inr ⟨h, rfl⟩)⟩
      have ht1 : t_c B n j' ≠ 1 := by omega
      have hlt := tc_lt m2 ht1
      obtain ⟨τ2, b1, b2, b3⟩ := C_step m2 ht1
      obtain ⟨v, τ3, k3, k4⟩ := RD_call Rs b2 (hg_ltc (hg_rf b3) (hg_ltc m1 hl)) (by rw [hg_xdp (hg_rf b3), hg_xdp m1]; omega) (show c' + (C - (j' + 1)) < 3300 by omega) (show c0 ≤ c' by omega) f'
      generalize hτ3 : xsetdp τ3 (xdp τ2) = τ3' at k3
      have gB : ∀ g K, ((List.length K : Nat) : Int) + 10 * (11 - o) + 4 ≤ 490 → GO B n sk sn F (F + M) c0 (-1, o, j, c, f, g, (6, 0, -1, -1, 0) :: K) (-1, o, j' + 1, c', f', ((c' - 1 : Nat) : Int), (1, 0, -1, -1, 0) :: (6, 4, ((c' - 1 : Nat) : Int), -1, kk) :: K) := fun g K hK => GO_tr (gA g K hK) ((go_test_3 (by omega)).1 hkk)
      rcases k3 with ⟨k', b, j2, c2, f2, rfl, s1, s2, ⟨s3, s4, s5, s6⟩, s7, s8, ⟨s9, s13⟩, s10, s11, s12⟩ | ⟨rfl, k', q, s1, s2, ⟨s3, s4, s5⟩, s6⟩
      · obtain ⟨x1, x2, x3⟩ := rl_nd (s11 _ (Nat.le_refl _))
        have hold := hg_tr (hg_rf b3) s1
        have hgs := hg_tr m1 hold
        have n1 := hg_nn m1
        have n2 := hg_nn (hg_rf b3)
        have n3 := hg_nn s1
        have n4 := hg_nn hgs
        have l3' := hg_ndk hold l3
        have jC := s2.2.1.1
        have hg4 := hg_s (hg_s hgs (show nn σ ≤ b by omega) 5 (t_c B n j')) (show nn σ ≤ a by omega) 7 (b : Int)
        generalize hτ4 : xs (xs τ3' b 5 (t_c B n j')) a 7 (b : Int) = τ4 at hg4
        have e42 : τ4.2 = τ3'.2 := by rw [← hτ4]; rfl
        have n5 : nn τ4 = nn τ3' := by rw [nn_eq, nn_eq, e42]
        have hd1 : hg τ4 (xs (nnd τ4 39) (nn τ4) 6 (a : Int)) 1 := hg_s (hg_nd 39) (Nat.le_refl _) 6 _
        have n6 := hg_nn hd1
        generalize hυ : xs (nnd τ4 39) (nn τ4) 6 (a : Int) = υ at hd1 n6
        have em4 : ∀ x, x < nn τ3' → x ≠ 297 → ∀ q, (x = a → q ≠ 7) → (x = b → q ≠ 5) → υ.1 x q = τ3'.1 x q := fun x hx hx2 q h1 h2 => by
          rw [hd1.2.2.2.1 x hx2 (by omega), ← hτ4]
          by_cases e : x = a
          · rw [e, xs_at, xup_ne (h1 e), xs_ne (by omega)]
          · rw [xs_ne e]
            by_cases e' : x = b
            · rw [e', xs_at, xup_ne (h2 e')]
            · rw [xs_ne e']
        have es : ∀ q, υ.1 (nn τ4) q = if q = 6 then (a : Int) else (nnd τ4 39).1 (nn τ4) q := fun q => by rw [← hυ, xs_at, xup_at]
        have hb5 : υ.1 b 5 = t_c B n j' := by
          rw [hd1.2.2.2.1 b (by omega) (by omega), ← hτ4, xs_ne (by omega), xs_at, xup_eq]
        have ha7 : υ.1 a 7 = (b : Int) := by
          rw [hd1.2.2.2.1 a (by omega) (by omega), ← hτ4, xs_at, xup_eq]
        have hb7 : υ.1 b 7 = 0 := by rw [em4 b (by omega) (by omega) 7 (fun e => by omega) (fun _ => by decide)]; exact s10
        have hnam3 : ∀ x w, nam τ3'.1 τ3'.2.1 x w → nam υ.1 υ.2.1 x w := fun x w hx => by
          refine hg_nam hd1 ?_
          have h1 : nam (xs τ3' b 5 (t_c B n j')).1 (xs τ3' b 5 (t_c B n j')).2.1 x w := nam_xs x3 hx 5 _
          have h2 := nam_xs (σ := xs τ3' b 5 (t_c B n j')) (a := a) l3'.1 h1 7 (b : Int)
          rw [hτ4] at h2
          rw [e42]
          exact h2
        have hty3 : ∀ x, nd τ3'.2.1 x → nd υ.2.1 x := fun x hx => (hg_ndk hd1 (by rw [e42]; exact hx)).1
        have hrB : rst υ.1 B n C o j2 := rst_cg s2 fun x hx => by
          funext q
          by_cases h297 : x = 297
          · rw [h297, ← hυ, xs_ne (by omega), nnd_m (by omega), ← hτ4, xs_ne (by omega), xs_ne (by omega)]
          · exact em4 x (by omega) h297 q (fun e => by omega) (fun e => by omega)
        obtain ⟨w0, w1', w2', w3', w4', w5'⟩ := nwr_at (f := f2) (c := c2) (k := kk) (a := ((c' - 1 : Nat) : Int)) (b := ((c2 - 1 : Nat) : Int)) (d := 0) (v := 0)
        have hs : nn σ ≤ nn τ4 ∧ nn τ4 < nn υ ∧ nd υ.2.1 (nn τ4) := ⟨by omega, by omega, by rw [← hυ]; exact nnd_nd (k := 39)⟩
        have hf1 : ∀ q r, r < c' → nwr f2 c2 kk ((c' - 1 : Nat) : Int) ((c2 - 1 : Nat) : Int) 0 0 q r = f' q r := fun q r hr => by rw [nwr_lo (by omega), s7 q r hr]
        have hf2 : ∀ q r, r < c2 → nwr f2 c2 kk ((c' - 1 : Nat) : Int) ((c2 - 1 : Nat) : Int) 0 0 q r = f2 q r := fun q r hr => nwr_lo (by omega)
        have wfs' : wfs (nwr f2 c2 kk ((c' - 1 : Nat) : Int) ((c2 - 1 : Nat) : Int) 0 0) sk F (F + M) c (c2 + 1) := by
          refine wfs_snoc (wfs_app (wfs_cg (fun q r _ hr => hf1 q r hr) m8) (wfs_cg (fun q r _ hr => hf2 q r hr) s8) (by omega)) ?_
          unfold wfr
          rw [w0, w1', w2', w3', w5']
          refine ⟨by omega, fun q => by omega, fun q => by omega, fun _ => by omega, fun _ => by omega, fun q => by omega, fun q => by omega⟩
        have hW : wl (nwr f2 c2 kk ((c' - 1 : Nat) : Int) ((c2 - 1 : Nat) : Int) 0 0) (lwd sn F) (c2 + 1 - 1) = own kk + wl f' (lwd sn F) (c' - 1) + wl f2 (lwd sn F) (c2 - 1) := by
          show wl (nwr f2 c2 kk ((c' - 1 : Nat) : Int) ((c2 - 1 : Nat) : Int) 0 0) (lwd sn F) c2 = _
          rw [wl_b wfs' (show c ≤ c2 by omega) (Nat.lt_succ_self c2) (by rw [w0]; omega), w0, w1', w2', Int.toNat_natCast, Int.toNat_natCast, wl_cg m8 (show c ≤ c' - 1 by omega) (by omega) (fun q r hr _ => hf1 q r (by omega)), wl_cg s8 (show c' ≤ c2 - 1 by omega) (by omega) (fun q r hr _ => hf2 q r (by omega))]
        have hown : own kk = 3 := by
          unfold own
          rw [if_neg (by omega), if_neg (by omega)]
        have pk1 := pk_1 (tc_n (B := B) (n := n) (j := j') ht1)
        refine ⟨((nn τ4 : Nat) : Int), υ, ?_, Or.inl ⟨k + (0 + k') + 1, nn τ4, j2, c2 + 1, nwr f2 c2 kk ((c' - 1 : Nat) : Int) ((c2 - 1 : Nat) : Int) 0 0, rfl, hg_tr hg4 hd1, hrB, ⟨by omega, by omega, by omega, by omega, by omega⟩, fun q r hr => by rw [hf1 q r (by omega), m7 q r hr], wfs', ⟨?_, w4'⟩, by rw [es 7, if_neg (by decide), nnd_v]; rfl, fun N hN => ?_, fun g K hK => ?_⟩⟩
        · have hp2 : nd (xsetdp τ3 (xdp τ2)).2.1 a := by rw [hτ3]; exact l3'.1
          have hb2 : nd (xsetdp τ3 (xdp τ2)).2.1 b := by rw [hτ3]; exact x3
          have hap := C_append (σ := xsetdp τ3 (xdp τ2)) (w := t_c B n j') hp2 hb2 (xna3_c hr.1.1)
          rw [qReader_readTest_0, e1, cnd_t, if_neg (fun z => w1 (e2.mp z)), tc_at hr, if_neg t91, k2, hτ1, q69 m2 ha0 hw, b1, Option.bind_some, qReader_readTest_115, k4, qReader_readTest_121, hap, Option.bind_some, hτ3, hτ4, qReader_readTest_124, if_neg (by omega), of_run, nnx, hυ]
        · show 11 ≤ nwr f2 c2 kk _ _ 0 0 0 c2
          rw [w0]; omega
        · obtain ⟨N, rfl⟩ : ∃ N', N = N' + 1 := ⟨N - 1, by omega⟩
          refine ⟨hs, Or.inr (Or.inr (Or.inr (Or.inr (Or.inr (Or.inr (Or.inr (Or.inl ⟨by rw [es 0, if_neg (by decide), nnd_v, if_pos rfl], a, b, by rw [es 6, if_pos rfl], ha7, hb7, ?_, ?_, ?_⟩)))))))⟩
          · rw [show c2 + 1 - 1 = c2 from rfl, w0, hb5]
            omega
          · rw [show c2 + 1 - 1 = c2 from rfl, w1', Int.toNat_natCast]
            refine ⟨by rw [hf1 0 _ (by omega)]; exact m9, nn σ, nn τ1', Nat.le_refl _, by omega, by omega, ?_⟩
            exact rl_cg m8 (fun x hx => hty3 x (hg_ndk hold hx).1) (fun _ _ _ => ⟨rfl, rfl⟩) (fun x w hx => hnam3 x w (hg_nam hold hx)) N (nn σ) (nn τ1') a (c' - 1) (by omega) (by omega) (fun x q y1 y2 y3 y4 => by rw [em4 x (by omega) (by omega) q (fun e => (y4 e).2) (fun e => by omega), (hg_ndk hold y3).2]) (fun i _ hi => ⟨fun q _ _ => hf1 q i (by omega), fun _ => hf1 4 i (by omega)⟩) (m11 N (by omega))
          · rw [show c2 + 1 - 1 = c2 from rfl, w2', Int.toNat_natCast]
            refine ⟨by rw [hf2 0 _ (by omega)]; exact s9, nn τ2, nn τ3', by omega, by omega, by omega, ?_⟩
            exact rl_cg s8 hty3 (fun _ _ _ => ⟨rfl, rfl⟩) hnam3 N (nn τ2) (nn τ3') b (c2 - 1) (by omega) (by omega) (fun x q y1 y2 y3 y4 => em4 x (by omega) (by omega) q (fun e => by omega) (fun e => (y4 e).1)) (fun i _ hi => ⟨fun q _ _ => hf2 q i (by omega), fun _ => hf2 4 i (by omega)⟩) (s11 N (by omega))
        · exact GO_tr (gB g K hK) (GO_tr (s12 _ _ (by rw [List.length_cons]; omega)) (go_test_4 (by omega) (by omega) (by omega)))
      · refine ⟨0, τ3', ?_, Or.inr ⟨rfl, k + (0 + k'), q, hg_tr m1 (hg_tr (hg_rf b3) s1), s2, ⟨by omega, by omega, by omega⟩, fun g K hK => BAD_tr (gB g K hK) (s6 _ _ (by rw [List.length_cons]; omega))⟩⟩
        rw [qReader_readTest_0, e1, cnd_t, if_neg (fun z => w1 (e2.mp z)), tc_at hr, if_neg t91, k2, hτ1, q69 m2 ha0 hw, b1, Option.bind_some, qReader_readTest_115, k4, qReader_readTest_121, C_append_0, Option.bind_some, qReader_readTest_124, if_pos rfl, hτ3]
    · obtain ⟨f1, f2, f3, f4⟩ := rst_f m2
      refine ⟨0, _, ?_, Or.inr ⟨rfl, k + 0, j', hg_tr m1 (hg_rf f3), f4, ⟨by omega, by omega, by omega⟩, fun g K hK => BAD_tr (gA g K hK) ((go_test_3 (k := 0) (by omega)).2 hw.1 hw.2.1 hw.2.2)⟩⟩
      rw [qReader_readTest_0, e1, cnd_t, if_neg (fun z => w1 (e2.mp z)), tc_at hr, if_neg t91, k2, hτ1, qReader_readTest_69, if_neg ha0, tc_at m2, if_neg hw.1, if_neg hw.2.1, if_neg hw.2.2, if_pos m2.2.2.2, if_pos f2, f1]
  · refine ⟨0, τ1', ?_, Or.inr ⟨rfl, k', q, m1, m2, m3, fun g K hK => BAD_tr (gS g K hK) (m6 _ _ (by rw [List.length_cons]; omega))⟩⟩
    rw [qReader_readTest_0, e1, cnd_t, if_neg (fun z => w1 (e2.mp z)), tc_at hr, if_neg t91, k2, hτ1, qReader_readTest_69, if_pos rfl, if_neg (rft_n m2)]
end RTS

/-! the four chains -/
section RCH
variable {B : Nat → Int} {n C : Nat} {sk sn : Nat → Int} {F M c0 : Nat} {cs : Nat → Nat} {o : Int}
set_option maxHeartbeats 2000000 in
theorem R_Prod (R : RD B n C sk sn F M c0 cs 3 1 6 (fun z => z ≤ 10) iReader_readAtom [(2, 297), (9, 0)] o) : RD B n C sk sn F M c0 cs 2 2 7 (fun z => z ≤ 10) iReader_readProd [(2, 297), (9, 0), (9, 0), (9, 0), (9, 0)] o := by
  refine chain_head (KR := 37) (J := (fun j k w => (t_c B n j = 42 ∧ k = 4 ∧ w = 42) ∨ (t_c B n j = 47 ∧ k = 5 ∧ w = 47) ∨ (t_c B n j = 37 ∧ k = 6 ∧ w = 37))) (kd := (fun z => z)) (zn := (fun _ k => k)) (ok := okP) (LP := (fun p s i σ r => ∀ vw4, X iReader_readProd 28 [(2, 297), (2, p), (2, s), (0, i), vw4] [] σ = r)) (P := (fun z => z ≤ 10)) (md2 := 3) (h2 := 1) (hp := 6) (by decide) ?hJ ?ok1 ?ok2 ?ok3 ?okr ?gz ?gp ?gd ?gb ?H0 ?H1 ?H2 ?H3 (by decide)
  case hJ =>
    exact fun j k w q => by
      rcases q with ⟨t1, rfl, rfl⟩ | ⟨t1, rfl, rfl⟩ | ⟨t1, rfl, rfl⟩ <;> exact ⟨by show (_ : Int) ≤ 10; decide, by omega, by rw [t1]; decide, by have := pk_1 (tc_n (B := B) (n := n) (j := j) (by rw [t1]; decide)); show 3 + _ ≤ _; omega⟩
  case ok1 =>
    exact fun m f r c j k w q h1 h2 => q.elim (fun z => Or.inl ⟨h1.trans z.2.1, h2.trans z.2.2⟩) (fun q => Or.inr (q.elim (fun z => Or.inl ⟨h1.trans z.2.1, h2.trans z.2.2⟩) (fun z => Or.inr ⟨h1.trans z.2.1, h2.trans z.2.2⟩)))
  case ok2 =>
    exact fun m m' f f' r c h1 h2 q => by unfold okP at q ⊢; rw [h1, h2]; exact q
  case ok3 =>
    exact fun m f r c q => by unfold okP at q; omega
  case okr =>
    exact fun f m t N lo hi s i c r c' L hs hk s0 s6 hc hch => by
      obtain ⟨j0, k0, w0, hk, h0⟩ := hk
      have hk : f 0 i = 4 ∨ f 0 i = 5 ∨ f 0 i = 6 := by rcases hk with ⟨t1, rfl, rfl⟩ | ⟨t1, rfl, rfl⟩ | ⟨t1, rfl, rfl⟩ <;> omega
      exact ⟨hs, Or.inr (Or.inr (Or.inr (Or.inr (Or.inr (Or.inr (Or.inr (Or.inr (Or.inr ((Or.inl ⟨hk, s0, c, r, c', L, s6, hc, hch⟩))))))))))⟩
  case gz =>
    exact fun j k w z q => rfl
  case gp =>
    exact fun o j c f g x y z K x' c' f' k w hK hj q => go_prod_p hK hj (q.elim (fun z => Or.inl ⟨z.1, z.2.1⟩) (fun q => Or.inr (q.elim (fun z => Or.inl ⟨z.1, z.2.1⟩) (fun z => Or.inr ⟨z.1, z.2.1⟩))))
  case gd =>
    exact fun o j c f g x y z K x' c' f' hK hj q => go_prod_d hK hj (fun z => q _ _ (Or.inl ⟨z, rfl, rfl⟩)) (fun z => q _ _ (Or.inr (Or.inl ⟨z, rfl, rfl⟩))) (fun z => q _ _ (Or.inr (Or.inr ⟨z, rfl, rfl⟩)))
  case gb =>
    exact fun o j c f g x y z K hK => go_prod_b hK
  case H0 =>
    exact fun s i σ vw4 => by
      rw [qReader_readProd_28]
      by_cases hi : (i : Int) < σ.1 297 1
      · rw [if_pos hi, if_pos rfl, if_pos rfl]
      · rw [if_neg hi, if_pos rfl]
  case H1 =>
    exact fun p s i σ j hp hs hr hj vw4 => by
      have hp0 : ¬ ((p : Nat) : Int) = 0 := by omega
      rw [qReader_readProd_28, tc_at hr]
      by_cases hi : (i : Int) < σ.1 297 1
      · rw [if_pos hi, if_neg hp0, if_neg (fun z => hj _ _ (Or.inl ⟨z, rfl, rfl⟩)), if_neg (fun z => hj _ _ (Or.inr (Or.inl ⟨z, rfl, rfl⟩))), if_neg (fun z => hj _ _ (Or.inr (Or.inr (⟨z, rfl, rfl⟩)))), if_neg hp0]
      · rw [if_neg hi, if_neg hp0]
  case H2 =>
    intro p s i σ j k w c f hp hr hJ hi hl hd hc h0
    have hp0 : ¬ ((p : Nat) : Int) = 0 := by have := hp.1; omega
    have h400 := hr.1.1.2.2.1
    have hi2 : (i : Int) < σ.1 297 1 := by rw [hr.1.1.2.1]; omega
    rcases hJ with ⟨t1, rfl, rfl⟩ | ⟨t1, rfl, rfl⟩ | ⟨t1, rfl, rfl⟩
    · obtain ⟨τ1, a1, a2, a3⟩ := C_step hr (by rw [t1]; decide)
      have l1 := hg_ltc (hg_rf a3) hl
      obtain ⟨v, τ2, k1, k2⟩ := RD_call R a2 l1 (by rw [hg_xdp (hg_rf a3)]; exact hd) hc h0 f
      refine ⟨τ1, v, xsetdp τ2 (xdp τ1), a3, a2, k1, fun e r hL vw4 => ?_, fun b e hb r hL vw4 => ?_⟩
      · subst e
        rw [qReader_readProd_28, (tc_at hr).trans t1, if_pos hi2, if_neg hp0, if_pos (show (42 : Int) = 42 from rfl), a1, Option.bind_some, qReader_readProd_57, k2, qReader_readProd_64, C_append_0, Option.bind_some, qReader_readProd_67, xw_t (by omega)]
        exact hL _
      · subst e
        have hp2 : nd (xsetdp τ2 (xdp τ1)).2.1 p := by
          rcases k1 with ⟨_, _, _, _, _, _, m1, _⟩ | ⟨_, _, _, m1, _⟩
          · exact (hg_ndk m1 (hg_ndk (hg_rf a3) hp).1).1
          · exact (hg_ndk m1 (hg_ndk (hg_rf a3) hp).1).1
        have ha := C_append (σ := xsetdp τ2 (xdp τ1)) (w := 42) hp2 hb rfl
        rw [qReader_readProd_28, (tc_at hr).trans t1, if_pos hi2, if_neg hp0, if_pos (show (42 : Int) = 42 from rfl), a1, Option.bind_some, qReader_readProd_57, k2, qReader_readProd_64, ha, Option.bind_some, qReader_readProd_67, xw_t (by omega)]
        exact hL _
    · obtain ⟨τ1, a1, a2, a3⟩ := C_step hr (by rw [t1]; decide)
      have l1 := hg_ltc (hg_rf a3) hl
      obtain ⟨v, τ2, k1, k2⟩ := RD_call R a2 l1 (by rw [hg_xdp (hg_rf a3)]; exact hd) hc h0 f
      refine ⟨τ1, v, xsetdp τ2 (xdp τ1), a3, a2, k1, fun e r hL vw4 => ?_, fun b e hb r hL vw4 => ?_⟩
      · subst e
        rw [qReader_readProd_28, (tc_at hr).trans t1, if_pos hi2, if_neg hp0, if_neg (show ¬ (47 : Int) = 42 by decide), if_pos (show (47 : Int) = 47 from rfl), a1, Option.bind_some, qReader_readProd_57, k2, qReader_readProd_64, C_append_0, Option.bind_some, qReader_readProd_67, xw_t (by omega)]
        exact hL _
      · subst e
        have hp2 : nd (xsetdp τ2 (xdp τ1)).2.1 p := by
          rcases k1 with ⟨_, _, _, _, _, _, m1, _⟩ | ⟨_, _, _, m1, _⟩
          · exact (hg_ndk m1 (hg_ndk (hg_rf a3) hp).1).1
          · exact (hg_ndk m1 (hg_ndk (hg_rf a3) hp).1).1
        have ha := C_append (σ := xsetdp τ2 (xdp τ1)) (w := 47) hp2 hb rfl
        rw [qReader_readProd_28, (tc_at hr).trans t1, if_pos hi2, if_neg hp0, if_neg (show ¬ (47 : Int) = 42 by decide), if_pos (show (47 : Int) = 47 from rfl), a1, Option.bind_some, qReader_readProd_57, k2, qReader_readProd_64, ha, Option.bind_some, qReader_readProd_67, xw_t (by omega)]
        exact hL _
    · obtain ⟨τ1, a1, a2, a3⟩ := C_step hr (by rw [t1]; decide)
      have l1 := hg_ltc (hg_rf a3) hl
      obtain ⟨v, τ2, k1, k2⟩ := RD_call R a2 l1 (by rw [hg_xdp (hg_rf a3)]; exact hd) hc h0 f
      refine ⟨τ1, v, xsetdp τ2 (xdp τ1), a3, a2, k1, fun e r hL vw4 => ?_, fun b e hb r hL vw4 => ?_⟩
      · subst e
        rw [qReader_readProd_28, (tc_at hr).trans t1, if_pos hi2, if_neg hp0, if_neg (show ¬ (37 : Int) = 42 by decide), if_neg (show ¬ (37 : Int) = 47 by decide), if_pos (show (37 : Int) = 37 from rfl), a1, Option.bind_some, qReader_readProd_57, k2, qReader_readProd_64, C_append_0, Option.bind_some, qReader_readProd_67, xw_t (by omega)]
        exact hL _
      · subst e
        have hp2 : nd (xsetdp τ2 (xdp τ1)).2.1 p := by
          rcases k1 with ⟨_, _, _, _, _, _, m1, _⟩ | ⟨_, _, _, m1, _⟩
          · exact (hg_ndk m1 (hg_ndk (hg_rf a3) hp).1).1
          · exact (hg_ndk m1 (hg_ndk (hg_rf a3) hp).1).1
        have ha := C_append (σ := xsetdp τ2 (xdp τ1)) (w := 37) hp2 hb rfl
        rw [qReader_readProd_28, (tc_at hr).trans t1, if_pos hi2, if_neg hp0, if_neg (show ¬ (37 : Int) = 42 by decide), if_neg (show ¬ (37 : Int) = 47 by decide), if_pos (show (37 : Int) = 37 from rfl), a1, Option.bind_some, qReader_readProd_57, k2, qReader_readProd_64, ha, Option.bind_some, qReader_readProd_67, xw_t (by omega)]
        exact hL _
  case H3 =>
    intro σ j c f hr hl hd hc h0
    obtain ⟨v, τ, k1, k2⟩ := RD_call R hr hl hd hc h0 f
    refine ⟨v, xsetdp τ (xdp σ), k1, fun e => ?_, fun a e ha j' hr' => ⟨fun hj => ?_, fun hj r hL => ?_⟩⟩
    · subst e
      rw [qReader_readProd_0, k2, qReader_readProd_4, if_pos rfl]
    · subst e
      have ha0 : ¬ ((a : Nat) : Int) = 0 := by have := ha.1; omega
      rw [qReader_readProd_0, k2, qReader_readProd_4, if_neg ha0, tc_at hr', if_neg (fun z => hj _ _ (Or.inl ⟨z, rfl, rfl⟩)), if_neg (fun z => hj _ _ (Or.inr (Or.inl ⟨z, rfl, rfl⟩))), if_neg (fun z => hj _ _ (Or.inr (Or.inr (⟨z, rfl, rfl⟩))))]
    · subst e
      have ha0 : ¬ ((a : Nat) : Int) = 0 := by have := ha.1; omega
      obtain ⟨_, _, hj⟩ := hj
      rcases hj with ⟨t1, _, _⟩ | ⟨t1, _, _⟩ | ⟨t1, _, _⟩
      · rw [qReader_readProd_0, k2, qReader_readProd_4, if_neg ha0, (tc_at hr').trans t1, if_pos (show (42 : Int) = 42 from rfl), of_run]
        exact hL _
      · rw [qReader_readProd_0, k2, qReader_readProd_4, if_neg ha0, (tc_at hr').trans t1, if_neg (show ¬ (47 : Int) = 42 by decide), if_pos (show (47 : Int) = 47 from rfl), of_run]
        exact hL _
      · rw [qReader_readProd_0, k2, qReader_readProd_4, if_neg ha0, (tc_at hr').trans t1, if_neg (show ¬ (37 : Int) = 42 by decide), if_neg (show ¬ (37 : Int) = 47 by decide), if_pos (show (37 : Int) = 37 from rfl), of_run]
        exact hL _
set_option maxHeartbeats 2000000 in
theorem R_Sum (R : RD B n C sk sn F M c0 cs 2 2 7 (fun z => z ≤ 10) iReader_readProd [(2, 297), (9, 0), (9, 0), (9, 0), (9, 0)] o) : RD B n C sk sn F M c0 cs 1 3 8 (fun z => z ≤ 10) iReader_readSum [(2, 297), (9, 0), (9, 0), (9, 0), (9, 0)] o := by
  refine chain_head (KR := 36) (J := (fun j k w => (t_c B n j = 43 ∧ k = 2 ∧ w = 43) ∨ (t_c B n j = 45 ∧ k = 3 ∧ w = 45))) (kd := (fun z => z)) (zn := (fun _ k => k)) (ok := okS) (LP := (fun p s i σ r => ∀ vw4, X iReader_readSum 39 [(2, 297), (2, p), (2, s), (0, i), vw4] [] σ = r)) (P := (fun z => z ≤ 10)) (md2 := 2) (h2 := 2) (hp := 7) (by decide) ?hJ ?ok1 ?ok2 ?ok3 ?okr ?gz ?gp ?gd ?gb ?H0 ?H1 ?H2 ?H3 (by decide)
  case hJ =>
    exact fun j k w q => by
      rcases q with ⟨t1, rfl, rfl⟩ | ⟨t1, rfl, rfl⟩ <;> exact ⟨by show (_ : Int) ≤ 10; decide, by omega, by rw [t1]; decide, by have := pk_1 (tc_n (B := B) (n := n) (j := j) (by rw [t1]; decide)); show 3 + _ ≤ _; omega⟩
  case ok1 =>
    exact fun m f r c j k w q h1 h2 => q.elim (fun z => Or.inl ⟨h1.trans z.2.1, h2.trans z.2.2⟩) (fun z => Or.inr ⟨h1.trans z.2.1, h2.trans z.2.2⟩)
  case ok2 =>
    exact fun m m' f f' r c h1 h2 q => by unfold okS at q ⊢; rw [h1, h2]; exact q
  case ok3 =>
    exact fun m f r c q => by unfold okS at q; omega
  case okr =>
    exact fun f m t N lo hi s i c r c' L hs hk s0 s6 hc hch => by
      obtain ⟨j0, k0, w0, hk, h0⟩ := hk
      have hk : f 0 i = 2 ∨ f 0 i = 3 := by rcases hk with ⟨t1, rfl, rfl⟩ | ⟨t1, rfl, rfl⟩ <;> omega
      exact ⟨hs, Or.inr (Or.inr (Or.inr (Or.inr (Or.inr (Or.inr (Or.inr (Or.inr ((Or.inl ⟨hk, s0, c, r, c', L, s6, hc, hch⟩)))))))))⟩
  case gz =>
    exact fun j k w z q => rfl
  case gp =>
    exact fun o j c f g x y z K x' c' f' k w hK hj q => go_sum_p hK hj (q.elim (fun z => Or.inl ⟨z.1, z.2.1⟩) (fun z => Or.inr ⟨z.1, z.2.1⟩))
  case gd =>
    exact fun o j c f g x y z K x' c' f' hK hj q => go_sum_d hK hj (fun z => q _ _ (Or.inl ⟨z, rfl, rfl⟩)) (fun z => q _ _ (Or.inr ⟨z, rfl, rfl⟩))
  case gb =>
    exact fun o j c f g x y z K hK => go_sum_b hK
  case H0 =>
    exact fun s i σ vw4 => by
      rw [qReader_readSum_39]
      by_cases hi : (i : Int) < σ.1 297 1
      · rw [if_pos hi, if_pos rfl, if_pos rfl]
      · rw [if_neg hi, if_pos rfl]
  case H1 =>
    exact fun p s i σ j hp hs hr hj vw4 => by
      have hp0 : ¬ ((p : Nat) : Int) = 0 := by omega
      rw [qReader_readSum_39, tc_at hr]
      by_cases hi : (i : Int) < σ.1 297 1
      · rw [if_pos hi, if_neg hp0, if_neg (fun z => hj _ _ (Or.inl ⟨z, rfl, rfl⟩)), if_neg (fun z => hj _ _ (Or.inr (⟨z, rfl, rfl⟩))), if_neg hp0]
      · rw [if_neg hi, if_neg hp0]
  case H2 =>
    intro p s i σ j k w c f hp hr hJ hi hl hd hc h0
    have hp0 : ¬ ((p : Nat) : Int) = 0 := by have := hp.1; omega
    have h400 := hr.1.1.2.2.1
    have hi2 : (i : Int) < σ.1 297 1 := by rw [hr.1.1.2.1]; omega
    rcases hJ with ⟨t1, rfl, rfl⟩ | ⟨t1, rfl, rfl⟩
    · obtain ⟨τ1, a1, a2, a3⟩ := C_step hr (by rw [t1]; decide)
      have l1 := hg_ltc (hg_rf a3) hl
      obtain ⟨v, τ2, k1, k2⟩ := RD_call R a2 l1 (by rw [hg_xdp (hg_rf a3)]; exact hd) hc h0 f
      refine ⟨τ1, v, xsetdp τ2 (xdp τ1), a3, a2, k1, fun e r hL vw4 => ?_, fun b e hb r hL vw4 => ?_⟩
      · subst e
        rw [qReader_readSum_39, (tc_at hr).trans t1, if_pos hi2, if_neg hp0, if_pos (show (43 : Int) = 43 from rfl), a1, Option.bind_some, qReader_readSum_79, k2, qReader_readSum_86, C_append_0, Option.bind_some, qReader_readSum_89, xw_t (by omega)]
        exact hL _
      · subst e
        have hp2 : nd (xsetdp τ2 (xdp τ1)).2.1 p := by
          rcases k1 with ⟨_, _, _, _, _, _, m1, _⟩ | ⟨_, _, _, m1, _⟩
          · exact (hg_ndk m1 (hg_ndk (hg_rf a3) hp).1).1
          · exact (hg_ndk m1 (hg_ndk (hg_rf a3) hp).1).1
        have ha := C_append (σ := xsetdp τ2 (xdp τ1)) (w := 43) hp2 hb rfl
        rw [qReader_readSum_39, (tc_at hr).trans t1, if_pos hi2, if_neg hp0, if_pos (show (43 : Int) = 43 from rfl), a1, Option.bind_some, qReader_readSum_79, k2, qReader_readSum_86, ha, Option.bind_some, qReader_readSum_89, xw_t (by omega)]
        exact hL _
    · obtain ⟨τ1, a1, a2, a3⟩ := C_step hr (by rw [t1]; decide)
      have l1 := hg_ltc (hg_rf a3) hl
      obtain ⟨v, τ2, k1, k2⟩ := RD_call R a2 l1 (by rw [hg_xdp (hg_rf a3)]; exact hd) hc h0 f
      refine ⟨τ1, v, xsetdp τ2 (xdp τ1), a3, a2, k1, fun e r hL vw4 => ?_, fun b e hb r hL vw4 => ?_⟩
      · subst e
        rw [qReader_readSum_39, (tc_at hr).trans t1, if_pos hi2, if_neg hp0, if_neg (show ¬ (45 : Int) = 43 by decide), if_pos (show (45 : Int) = 45 from rfl), a1, Option.bind_some, qReader_readSum_79, k2, qReader_readSum_86, C_append_0, Option.bind_some, qReader_readSum_89, xw_t (by omega)]
        exact hL _
      · subst e
        have hp2 : nd (xsetdp τ2 (xdp τ1)).2.1 p := by
          rcases k1 with ⟨_, _, _, _, _, _, m1, _⟩ | ⟨_, _, _, m1, _⟩
          · exact (hg_ndk m1 (hg_ndk (hg_rf a3) hp).1).1
          · exact (hg_ndk m1 (hg_ndk (hg_rf a3) hp).1).1
        have ha := C_append (σ := xsetdp τ2 (xdp τ1)) (w := 45) hp2 hb rfl
        rw [qReader_readSum_39, (tc_at hr).trans t1, if_pos hi2, if_neg hp0, if_neg (show ¬ (45 : Int) = 43 by decide), if_pos (show (45 : Int) = 45 from rfl), a1, Option.bind_some, qReader_readSum_79, k2, qReader_readSum_86, ha, Option.bind_some, qReader_readSum_89, xw_t (by omega)]
        exact hL _
  case H3 =>
    intro σ j c f hr hl hd hc h0
    obtain ⟨v, τ, k1, k2⟩ := RD_call R hr hl hd hc h0 f
    refine ⟨v, xsetdp τ (xdp σ), k1, fun e => ?_, fun a e ha j' hr' => ⟨fun hj => ?_, fun hj r hL => ?_⟩⟩
    · subst e
      rw [qReader_readSum_0, k2, qReader_readSum_4, if_pos rfl]
    · subst e
      have ha0 : ¬ ((a : Nat) : Int) = 0 := by have := ha.1; omega
      rw [qReader_readSum_0, k2, qReader_readSum_4, if_neg ha0, tc_at hr', if_neg (fun z => hj _ _ (Or.inl ⟨z, rfl, rfl⟩)), if_neg (fun z => hj _ _ (Or.inr (⟨z, rfl, rfl⟩)))]
    · subst e
      have ha0 : ¬ ((a : Nat) : Int) = 0 := by have := ha.1; omega
      obtain ⟨_, _, hj⟩ := hj
      rcases hj with ⟨t1, _, _⟩ | ⟨t1, _, _⟩
      · rw [qReader_readSum_0, k2, qReader_readSum_4, if_neg ha0, (tc_at hr').trans t1, if_pos (show (43 : Int) = 43 from rfl), of_run]
        exact hL _
      · rw [qReader_readSum_0, k2, qReader_readSum_4, if_neg ha0, (tc_at hr').trans t1, if_neg (show ¬ (45 : Int) = 43 by decide), if_pos (show (45 : Int) = 45 from rfl), of_run]
        exact hL _
set_option maxHeartbeats 2000000 in
theorem R_All2 (R : RD B n C sk sn F M c0 cs 6 4 9 (fun z => 11 ≤ z) iReader_readTest [(2, 297), (9, 0), (9, 0), (9, 0)] o) : RD B n C sk sn F M c0 cs 5 5 10 (fun z => 11 ≤ z) iReader_readAll2 [(2, 297), (9, 0), (9, 0), (9, 0)] o := by
  refine chain_head (KR := 22) (J := (fun j k w => tW B n j 1111 ∧ k = 15 ∧ w = 32)) (kd := (fun _ => 15)) (zn := (fun z _ => z)) (ok := (fun _ f => okK f 15)) (LP := (fun p s i σ r => X iReader_readAll2 31 [(2, 297), (2, p), (2, s), (0, i)] [] σ = r)) (P := (fun z => 11 ≤ z)) (md2 := 6) (h2 := 4) (hp := 9) (by decide) ?hJ ?ok1 ?ok2 ?ok3 ?okr ?gz ?gp ?gd ?gb ?H0 ?H1 ?H2 ?H3 (by decide)
  case hJ =>
    exact fun j k w q => ⟨by show 11 ≤ k; omega, by omega, by rw [q.1.1]; decide, by have := pk_w q.1 2 (by decide) (by decide); rw [q.2.1]; show 6 + _ ≤ _; omega⟩
  case ok1 =>
    exact fun m f r c j k w q h1 h2 => h1.trans q.2.1
  case ok2 =>
    exact fun m m' f f' r c h1 h2 q => h1.trans q
  case ok3 =>
    exact fun m f r c q => by have q : f 0 r = 15 := q; omega
  case okr =>
    exact fun f m t N lo hi s i c r c' L hs hk s0 s6 hc hch => by
      obtain ⟨_, _, _, ⟨_, rfl, _⟩, h0⟩ := hk
      refine ⟨hs, Or.inr (Or.inr (Or.inr (Or.inr (Or.inr (Or.inr (Or.inr (Or.inr (Or.inr (Or.inr ⟨Or.inl ⟨h0, s0⟩, c, r, c', L, s6, hc, ?_⟩)))))))))⟩
      rw [h0]
      exact hch
  case gz =>
    exact fun j k w z q => q.2.1.symm
  case gp =>
    exact fun o j c f g x y z K x' c' f' k w hK hj q => go_all_p hK hj q.1
  case gd =>
    exact fun o j c f g x y z K x' c' f' hK hj q => go_all_d hK hj (fun z => q _ _ ⟨z, rfl, rfl⟩)
  case gb =>
    exact fun o j c f g x y z K hK => go_all_b hK
  case H0 =>
    exact fun s i σ => by
      rw [qReader_readAll2_31]
      by_cases hi : (i : Int) < σ.1 297 1
      · rw [if_pos hi, if_pos rfl, if_pos rfl]
      · rw [if_neg hi, if_pos rfl]
  case H1 =>
    exact fun p s i σ j hp hs hr hj => by
      have hp0 : ¬ ((p : Nat) : Int) = 0 := by omega
      obtain ⟨e1, e2⟩ := wd_and hr
      show X _ _ _ _ _ = _
      rw [qReader_readAll2_31]
      by_cases hi : (i : Int) < σ.1 297 1
      · rw [if_pos hi, if_neg hp0, e1, cnd_t, if_neg (fun z => hj _ _ ⟨e2.mp z, rfl, rfl⟩), if_neg hp0]
      · rw [if_neg hi, if_neg hp0]
  case H2 =>
    intro p s i σ j k w c f hp hr hJ hi hl hd hc h0
    have hp0 : ¬ ((p : Nat) : Int) = 0 := by have := hp.1; omega
    have h400 := hr.1.1.2.2.1
    have hi2 : (i : Int) < σ.1 297 1 := by rw [hr.1.1.2.1]; omega
    obtain ⟨t1, rfl, rfl⟩ := hJ
    obtain ⟨e1, e2⟩ := wd_and hr
    obtain ⟨τ1, a1, a2, a3⟩ := C_step hr (by rw [t1.1]; decide)
    have l1 := hg_ltc (hg_rf a3) hl
    obtain ⟨v, τ2, k1, k2⟩ := RD_call R a2 l1 (by rw [hg_xdp (hg_rf a3)]; exact hd) hc h0 f
    refine ⟨τ1, v, xsetdp τ2 (xdp τ1), a3, a2, k1, fun e r hL => ?_, fun b e hb r hL => ?_⟩
    · subst e
      show X _ _ _ _ _ = _
      rw [qReader_readAll2_31, if_pos hi2, if_neg hp0, e1, cnd_t, if_pos (e2.mpr t1), a1, Option.bind_some, qReader_readAll2_57, k2, qReader_readAll2_64, C_append_0, Option.bind_some, qReader_readAll2_67, xw_t (by omega)]
      exact hL
    · subst e
      have hp2 : nd (xsetdp τ2 (xdp τ1)).2.1 p := by
        rcases k1 with ⟨_, _, _, _, _, _, m1, _⟩ | ⟨_, _, _, m1, _⟩
        · exact (hg_ndk m1 (hg_ndk (hg_rf a3) hp).1).1
        · exact (hg_ndk m1 (hg_ndk (hg_rf a3) hp).1).1
      have ha := C_append (σ := xsetdp τ2 (xdp τ1)) (w := 32) hp2 hb rfl
      show X _ _ _ _ _ = _
      rw [qReader_readAll2_31, if_pos hi2, if_neg hp0, e1, cnd_t, if_pos (e2.mpr t1), a1, Option.bind_some, qReader_readAll2_57, k2, qReader_readAll2_64, ha, Option.bind_some, qReader_readAll2_67, xw_t (by omega)]
      exact hL
  case H3 =>
    intro σ j c f hr hl hd hc h0
    obtain ⟨v, τ, k1, k2⟩ := RD_call R hr hl hd hc h0 f
    refine ⟨v, xsetdp τ (xdp σ), k1, fun e => ?_, fun a e ha j' hr' => ⟨fun hj => ?_, fun hj r hL => ?_⟩⟩
    · subst e
      rw [qReader_readAll2_0, k2, qReader_readAll2_4, if_pos rfl]
    · subst e
      have ha0 : ¬ ((a : Nat) : Int) = 0 := by have := ha.1; omega
      obtain ⟨e1, e2⟩ := wd_and hr'
      rw [qReader_readAll2_0, k2, qReader_readAll2_4, if_neg ha0, e1, cnd_t, if_neg (fun z => hj _ _ ⟨e2.mp z, rfl, rfl⟩)]
    · subst e
      have ha0 : ¬ ((a : Nat) : Int) = 0 := by have := ha.1; omega
      obtain ⟨e1, e2⟩ := wd_and hr'
      obtain ⟨_, _, t1, _⟩ := hj
      rw [qReader_readAll2_0, k2, qReader_readAll2_4, if_neg ha0, e1, cnd_t, if_pos (e2.mpr t1), of_run]
      exact hL
set_option maxHeartbeats 2000000 in
theorem R_Cond (R : RD B n C sk sn F M c0 cs 5 5 10 (fun z => 11 ≤ z) iReader_readAll2 [(2, 297), (9, 0), (9, 0), (9, 0)] o) : RD B n C sk sn F M c0 cs 4 6 11 (fun z => 11 ≤ z) iReader_readCond [(2, 297), (9, 0), (9, 0), (9, 0)] o := by
  refine chain_head (KR := 21) (J := (fun j k w => tW B n j 423 ∧ k = 16 ∧ w = 32)) (kd := (fun _ => 16)) (zn := (fun z _ => z)) (ok := (fun _ f => okK f 16)) (LP := (fun p s i σ r => X iReader_readCond 31 [(2, 297), (2, p), (2, s), (0, i)] [] σ = r)) (P := (fun z => 11 ≤ z)) (md2 := 5) (h2 := 5) (hp := 10) (by decide) ?hJ ?ok1 ?ok2 ?ok3 ?okr ?gz ?gp ?gd ?gb ?H0 ?H1 ?H2 ?H3 (by decide)
  case hJ =>
    exact fun j k w q => ⟨by show 11 ≤ k; omega, by omega, by rw [q.1.1]; decide, by have := pk_w q.1 1 (by decide) (by decide); rw [q.2.1]; show 5 + _ ≤ _; omega⟩
  case ok1 =>
    exact fun m f r c j k w q h1 h2 => h1.trans q.2.1
  case ok2 =>
    exact fun m m' f f' r c h1 h2 q => h1.trans q
  case ok3 =>
    exact fun m f r c q => by have q : f 0 r = 16 := q; omega
  case okr =>
    exact fun f m t N lo hi s i c r c' L hs hk s0 s6 hc hch => by
      obtain ⟨_, _, _, ⟨_, rfl, _⟩, h0⟩ := hk
      refine ⟨hs, Or.inr (Or.inr (Or.inr (Or.inr (Or.inr (Or.inr (Or.inr (Or.inr (Or.inr (Or.inr ⟨Or.inr ⟨h0, s0⟩, c, r, c', L, s6, hc, ?_⟩)))))))))⟩
      rw [h0]
      exact hch
  case gz =>
    exact fun j k w z q => q.2.1.symm
  case gp =>
    exact fun o j c f g x y z K x' c' f' k w hK hj q => go_cond_p hK hj q.1
  case gd =>
    exact fun o j c f g x y z K x' c' f' hK hj q => go_cond_d hK hj (fun z => q _ _ ⟨z, rfl, rfl⟩)
  case gb =>
    exact fun o j c f g x y z K hK => go_cond_b hK
  case H0 =>
    exact fun s i σ => by
      rw [qReader_readCond_31]
      by_cases hi : (i : Int) < σ.1 297 1
      · rw [if_pos hi, if_pos rfl, if_pos rfl]
      · rw [if_neg hi, if_pos rfl]
  case H1 =>
    exact fun p s i σ j hp hs hr hj => by
      have hp0 : ¬ ((p : Nat) : Int) = 0 := by omega
      obtain ⟨e1, e2⟩ := wd_or hr
      show X _ _ _ _ _ = _
      rw [qReader_readCond_31]
      by_cases hi : (i : Int) < σ.1 297 1
      · rw [if_pos hi, if_neg hp0, e1, cnd_t, if_neg (fun z => hj _ _ ⟨e2.mp z, rfl, rfl⟩), if_neg hp0]
      · rw [if_neg hi, if_neg hp0]
  case H2 =>
    intro p s i σ j k w c f hp hr hJ hi hl hd hc h0
    have hp0 : ¬ ((p : Nat) : Int) = 0 := by have := hp.1; omega
    have h400 := hr.1.1.2.2.1
    have hi2 : (i : Int) < σ.1 297 1 := by rw [hr.1.1.2.1]; omega
    obtain ⟨t1, rfl, rfl⟩ := hJ
    obtain ⟨e1, e2⟩ := wd_or hr
    obtain ⟨τ1, a1, a2, a3⟩ := C_step hr (by rw [t1.1]; decide)
    have l1 := hg_ltc (hg_rf a3) hl
    obtain ⟨v, τ2, k1, k2⟩ := RD_call R a2 l1 (by rw [hg_xdp (hg_rf a3)]; exact hd) hc h0 f
    refine ⟨τ1, v, xsetdp τ2 (xdp τ1), a3, a2, k1, fun e r hL => ?_, fun b e hb r hL => ?_⟩
    · subst e
      show X _ _ _ _ _ = _
      rw [qReader_readCond_31, if_pos hi2, if_neg hp0, e1, cnd_t, if_pos (e2.mpr t1), a1, Option.bind_some, qReader_readCond_57, k2, qReader_readCond_64, C_append_0, Option.bind_some, qReader_readCond_67, xw_t (by omega)]
      exact hL
    · subst e
      have hp2 : nd (xsetdp τ2 (xdp τ1)).2.1 p := by
        rcases k1 with ⟨_, _, _, _, _, _, m1, _⟩ | ⟨_, _, _, m1, _⟩
        · exact (hg_ndk m1 (hg_ndk (hg_rf a3) hp).1).1
        · exact (hg_ndk m1 (hg_ndk (hg_rf a3) hp).1).1
      have ha := C_append (σ := xsetdp τ2 (xdp τ1)) (w := 32) hp2 hb rfl
      show X _ _ _ _ _ = _
      rw [qReader_readCond_31, if_pos hi2, if_neg hp0, e1, cnd_t, if_pos (e2.mpr t1), a1, Option.bind_some, qReader_readCond_57, k2, qReader_readCond_64, ha, Option.bind_some, qReader_readCond_67, xw_t (by omega)]
      exact hL
  case H3 =>
    intro σ j c f hr hl hd hc h0
    obtain ⟨v, τ, k1, k2⟩ := RD_call R hr hl hd hc h0 f
    refine ⟨v, xsetdp τ (xdp σ), k1, fun e => ?_, fun a e ha j' hr' => ⟨fun hj => ?_, fun hj r hL => ?_⟩⟩
    · subst e
      rw [qReader_readCond_0, k2, qReader_readCond_4, if_pos rfl]
    · subst e
      have ha0 : ¬ ((a : Nat) : Int) = 0 := by have := ha.1; omega
      obtain ⟨e1, e2⟩ := wd_or hr'
      rw [qReader_readCond_0, k2, qReader_readCond_4, if_neg ha0, e1, cnd_t, if_neg (fun z => hj _ _ ⟨e2.mp z, rfl, rfl⟩)]
    · subst e
      have ha0 : ¬ ((a : Nat) : Int) = 0 := by have := ha.1; omega
      obtain ⟨e1, e2⟩ := wd_or hr'
      obtain ⟨_, _, t1, _⟩ := hj
      rw [qReader_readCond_0, k2, qReader_readCond_4, if_neg ha0, e1, cnd_t, if_pos (e2.mpr t1), of_run]
      exact hL
end RCH

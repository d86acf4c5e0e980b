/-! atoms of one token -/
section ATM
variable {B : Nat → Int} {n C : Nat} {sk sn : Nat → Int} {F M S c0 : Nat} {cs : Nat → Nat} {o : Int} {j c k : Nat} {f : Nat → Nat → Int} {σ τ υ : xS}
theorem pw9 : ∀ k, k ≤ 9 → pw 10 k ≤ 1000000000 := by decide
theorem t_n_bd (h : t_c B n j = 3) : 0 ≤ t_n B n j ∧ t_n B n j ≤ 999999999 := by
  have hn : t_s B n j < n := by
    by_cases q : t_s B n j < n
    · exact q
    · have : t_c B n j = 1 := by
        show (if t_s B n j < n then _ else (1 : Int)) = 1
        rw [if_neg q]
      rw [this] at h
      exact absurd h (by decide)
  have e := t_c_of hn
  rw [h] at e
  obtain ⟨g1, g2, g3, g4⟩ := t_s_le (B := B) (n := n) j
  have hq : kq (B (t_s B n j)) = 3 ∧ ¬ 9 < t_e B n j - t_s B n j := by
    by_cases q : kq (B (t_s B n j)) = 3 ∧ 9 < t_e B n j - t_s B n j
    · rw [if_pos q] at e; exact absurd e (by decide)
    · rw [if_neg q] at e
      exact ⟨e.symm, fun z => q ⟨e.symm, z⟩⟩
  have hd := (t_dig hn (kq_3.mp hq.1)).2
  have hb := dgv_le (B := B) (s := t_s B n j) (t_e B n j - t_s B n j) fun i hi => hd _ (by omega) (by omega)
  have h1 := hb.2 (by omega)
  have h2 := pw9 (t_e B n j - t_s B n j) (by omega)
  exact ⟨hb.1.1, by show dgv _ _ _ ≤ _; omega⟩
theorem nnx : xnew xE1 σ = nn σ := rfl
theorem kd_s : ∀ q, q < 22 → xfld xE1 σ ((2 + q : Nat) : Int) 50 2 = some (-1)
  | 0, _ => rfl
  | 1, _ => rfl
  | 2, _ => rfl
  | 3, _ => rfl
  | 4, _ => rfl
  | 5, _ => rfl
  | 6, _ => rfl
  | 7, _ => rfl
  | 8, _ => rfl
  | 9, _ => rfl
  | 10, _ => rfl
  | 11, _ => rfl
  | 12, _ => rfl
  | 13, _ => rfl
  | 14, _ => rfl
  | 15, _ => rfl
  | 16, _ => rfl
  | 17, _ => rfl
  | 18, _ => rfl
  | 19, _ => rfl
  | 20, _ => rfl
  | 21, _ => rfl
  | q + 22, h => by omega
theorem A_dig (hr : rst σ.1 B n C o j) (ht : t_c B n j = 3) (hc : c + (C - j) < 3300) (h0 : c0 ≤ c) (f : Nat → Nat → Int) : ∃ v τ, X iReader_readAtom 0 [(2, 297), (9, 0)] [] σ = some ((2, v), τ) ∧ RO B n C sk sn F S c0 3 1 (fun z => z ≤ 10) σ τ v o j c f := by
  have n1 := nn_ge (σ := σ)
  have hr1 : rst (nnd σ 34).1 B n C o j := rst_cg hr fun x hx => nnd_m (by omega)
  obtain ⟨τ, p1, p2, p3⟩ := (C_passNumber hr1).1 ht
  have hn : nd τ.2.1 (nn σ) := by rw [p3.1]; exact nnd_nd (k := 34)
  have hgA := hg_s (hg_tr (hg_nd (σ := σ) 34) (hg_rf p3)) (Nat.le_refl _) 1 (t_n B n j)
  have e5 : τ.1 (nn σ) = (nnd σ 34).1 (nn σ) := p3.2.1 _ (by omega)
  have n2 := hg_nn hgA
  obtain ⟨w0, w1, w2, w3, w4, w5⟩ := nwr_at (f := f) (c := c) (k := 0) (a := 0) (b := 0) (d := 0) (v := t_n B n j)
  have hb := t_n_bd ht
  refine ⟨_, xs τ (nn σ) 1 (t_n B n j), ?_, RO_leaf (K1 := 0) (a1 := 0) (b1 := 0) (d1 := 0) (v1 := t_n B n j) hgA (rst_cg p2 fun x hx => xs_ne (by omega)) ?_ (by decide) ?_ (by rw [wl_0 w0, w5]; exact d10_tok ht) (fun N => ⟨⟨Nat.le_refl _, by omega, hn⟩, Or.inl ⟨w0, ?_, ?_⟩⟩) fun g K hK => go_atom_d hK (by omega) h0 ht⟩
  · rw [qReader_readAtom_0, (tc_at hr).trans ht, if_pos (show (3 : Int) = 3 from rfl), nn_run, p1, Option.bind_some, qReader_readAtom_24, nnx, nd_o hn, cnd_t, nd_wr hn, xob_some]
  · rw [xs_at, xup_ne (by decide), e5, nnd_v]; rfl
  · unfold wfr
    rw [w0, w1, w2, w3, w5]
    refine ⟨by omega, fun _ => hb, fun q => absurd q (by decide), fun q => absurd q (by decide), fun q => absurd q (by decide), fun q => absurd q (by decide), fun q => absurd q (by decide)⟩
  · rw [xs_at, xup_ne (by decide), e5, nnd_v]; rfl
  · rw [xs_at, xup_eq, w5]
theorem wtail (hr : rst σ.1 B n C o j) (ht : t_c B n j = 2) (k v1 t0 : Int) (h : v1 = 0 ∨ ∃ b : Nat, v1 = (b : Int) ∧ nd σ.2.1 b) : ∃ τ, (if v1 = 0 then ((X iReader_step 0 [(2, 297)] [] (nnd σ k)).bind fun q4 => X iReader_readWord 99 [(2, 297), (2, v1), (0, t0), (2, ((nn σ : Nat) : Int))] [] q4.2)
            else xob (xfld xE1 (nnd σ k) v1 7 1) none fun w5 => bif xisO xE1 (nnd σ k) ((nn σ : Nat) : Int) 7 then (xob (xwr xE1 (nnd σ k) ((nn σ : Nat) : Int) 1 w5) none fun s6 => xob (xfld xE1 s6 v1 7 4) none fun w7 => bif xisO xE1 s6 ((nn σ : Nat) : Int) 7 then (xob (xwr xE1 s6 ((nn σ : Nat) : Int) 4 w7) none fun s8 => (X iReader_step 0 [(2, 297)] [] s8).bind fun q9 => X iReader_readWord 99 [(2, 297), (2, v1), (0, t0), (2, ((nn σ : Nat) : Int))] [] q9.2)
              else none)
            else none) = some ((2, ((nn σ : Nat) : Int)), τ) ∧ hg σ τ 1 ∧ rst τ.1 B n C o (j + 1) ∧ nd τ.2.1 (nn σ) ∧ (τ.1 (nn σ) 0 = k ∧ τ.1 (nn σ) 7 = 0) ∧ ∀ b : Nat, v1 = (b : Int) → nd σ.2.1 b → τ.1 (nn σ) 1 = σ.1 b 1 ∧ τ.1 (nn σ) 4 = σ.1 b 4 := by
  have n1 := nn_ge (σ := σ)
  have hn : nd (nnd σ k).2.1 (nn σ) := nnd_nd
  have hr1 : rst (nnd σ k).1 B n C o j := rst_cg hr fun x hx => nnd_m (by omega)
  have ht1 : t_c B n j ≠ 1 := by rw [ht]; decide
  rcases h with rfl | ⟨b, rfl, hb⟩
  · obtain ⟨τ, a1, a2, a3⟩ := C_step hr1 ht1
    refine ⟨τ, by rw [if_pos rfl, a1, Option.bind_some, qReader_readWord_99], hg_tr (hg_nd k) (hg_rf a3), a2, by rw [a3.1]; exact hn, ⟨?_, ?_⟩, fun b e hb => absurd e (by have := hb.1; omega)⟩
    · rw [a3.2.1 _ (by omega), nnd_v, if_pos rfl]
    · rw [a3.2.1 _ (by omega), nnd_v]; rfl
  · obtain ⟨b1, b2⟩ := nnd_o (k := k) hb
    have hn8 : nd (xs (nnd σ k) (nn σ) 1 ((nnd σ k).1 b 1)).2.1 (nn σ) := hn
    have hb8 : nd (xs (nnd σ k) (nn σ) 1 ((nnd σ k).1 b 1)).2.1 b := b1
    have hr8 : rst (xs (xs (nnd σ k) (nn σ) 1 ((nnd σ k).1 b 1)) (nn σ) 4 ((xs (nnd σ k) (nn σ) 1 ((nnd σ k).1 b 1)).1 b 4)).1 B n C o j := rst_cg hr1 fun x hx => by rw [xs_ne (by omega), xs_ne (by omega)]
    obtain ⟨τ, a1, a2, a3⟩ := C_step hr8 ht1
    have hb0 : ¬ ((b : Nat) : Int) = 0 := by have := hb.1; omega
    have eb : (nnd σ k).1 b = σ.1 b := nnd_m (by omega)
    have e4 : (xs (nnd σ k) (nn σ) 1 ((nnd σ k).1 b 1)).1 b = σ.1 b := by rw [xs_ne (by omega), eb]
    refine ⟨τ, by rw [if_neg hb0, nd_f b1, xob_some, nd_o hn, cnd_t, nd_wr hn, xob_some, nd_f hb8, xob_some, nd_o hn8, cnd_t, nd_wr hn8, xob_some, a1, Option.bind_some, qReader_readWord_99], hg_tr (hg_s (hg_s (hg_nd k) (Nat.le_refl _) 1 _) (Nat.le_refl _) 4 _) (hg_rf a3), a2, by rw [a3.1]; exact hn, ⟨?_, ?_⟩, fun b' e hb' => ?_⟩
    · rw [a3.2.1 _ (by omega), xs_at, xup_ne (by decide), xs_at, xup_ne (by decide), nnd_v, if_pos rfl]
    · rw [a3.2.1 _ (by omega), xs_at, xup_ne (by decide), xs_at, xup_ne (by decide), nnd_v]; rfl
    · have e : b' = b := by omega
      rw [e, a3.2.1 _ (by omega), xs_at, xup_ne (show 1 ≠ 4 by decide), xs_at, xup_eq, xup_eq]
      exact ⟨by rw [eb], by rw [e4]⟩
set_option maxHeartbeats 2000000 in
theorem A_word (hr : rst σ.1 B n C o j) (hl : ltc σ.1 σ.2.1 sk sn F M cs) (hnw : ∀ i, i < M → sk (F + i) = 0 → ∀ q, q < 32 → sn (F + i) ≠ kcd q) (ht : t_c B n j = 2) (hm1 : ¬ tW B n j 9734) (hm2 : ¬ tW B n j 9528) (hc : c + (C - j) < 3300) (h0 : c0 ≤ c) (f : Nat → Nat → Int) : ∃ v τ, X iReader_readWord 0 [(2, 297), (9, 0), (9, 0), (9, 0)] [] σ = some ((2, v), τ) ∧ RO B n C sk sn F (F + M) c0 3 1 (fun z => z ≤ 10) σ τ v o j c f := by
  have n1 := nn_ge (σ := σ)
  have hj := tc_lt hr (by rw [ht]; decide)
  have e9 : (xal xE1 σ 7 8).1 297 9 = t_k B n j := by
    show cond (Nat.beq 297 (xnew xE1 σ)) 0 (σ.1 297 9) = _
    rw [beq_ff (by rw [nnx]; omega)]
    exact hr.2.1.2.2.2
  have ek : σ.1 297 9 = t_k B n j := hr.2.1.2.2.2
  have eL := C_letHere hr hl ht
  obtain ⟨f1, f2, f3, f4⟩ := rst_f hr
  have h40 : t_c B n j ≠ 40 := by rw [ht]; decide
  have h45 : t_c B n j ≠ 45 := by rw [ht]; decide
  have h3 : t_c B n j ≠ 3 := by rw [ht]; decide
  have hlk := lfi_wlk (sk := sk) (sn := sn) (F := F) (w := t_w B n j) M 0
  have bad : wdx sk sn F (F + M) (t_w B n j) < 0 → RO B n C sk sn F (F + M) c0 3 1 (fun z => z ≤ 10) σ (xs σ 297 14 (t_s B n j : Int)) 0 o j c f := fun hw => RO_bad hr f3 f4 fun g K hK => go_atom_x (by have := hr.2.2.1.2; omega) h3 hm1 hm2 (fun _ => hw) h40 h45
  have leaf : ∀ (τ : xS) (W : Int), wdx sk sn F (F + M) (t_w B n j) = W → 0 ≤ W → lwd sn F W = l27 (t_w B n j) → 0 ≤ t_w B n j → hg σ τ 1 → rst τ.1 B n C o (j + 1) → nd τ.2.1 (nn σ) → τ.1 (nn σ) 7 = 0 → ((W < 10 ∧ τ.1 (nn σ) 0 = 24 + W) ∨ (10 ≤ W ∧ τ.1 (nn σ) 0 = 35 ∧ τ.1 (nn σ) 1 = (lkc sk F (W - 10).toNat : Int) ∧ F + (W - 10).toNat < F + M ∧ sk (F + (W - 10).toNat) = 0 ∧ nam τ.1 τ.2.1 (τ.1 (nn σ) 4) (sn (F + (W - 10).toNat)))) → RO B n C sk sn F (F + M) c0 3 1 (fun z => z ≤ 10) σ τ (nn σ : Nat) o j c f := by
    intro τ W hW hW0 hlw h0w a1 a2 a3 a4 a5
    obtain ⟨w0, w1, w2, w3, w4, w5⟩ := nwr_at (f := f) (c := c) (k := 1) (a := W) (b := 0) (d := 0) (v := 0)
    have n2 := hg_nn a1
    refine RO_leaf (K1 := 1) (a1 := W) (b1 := 0) (d1 := 0) (v1 := 0) a1 a2 a4 (by decide) ?_ (by rw [wl_1 w0, w1, hlw]; exact l27_tok ht h0w) (fun N => ⟨⟨Nat.le_refl _, by omega, a3⟩, ?_⟩) fun g K hK => ?_
    · unfold wfr
      rw [w0, w1, w2, w3, w5]
      refine ⟨by omega, fun q => absurd q (by decide), fun _ => ⟨hW0, fun h10 => ?_⟩, fun q => absurd q (by decide), fun q => absurd q (by decide), fun q => absurd q (by decide), fun q => absurd q (by decide)⟩
      rcases a5 with a5 | a5
      · omega
      · exact ⟨a5.2.2.2.1, a5.2.2.2.2.1⟩
    · rw [w0, w1]
      rcases a5 with ⟨b1, b2⟩ | b
      · exact Or.inr (Or.inl ⟨rfl, hW0, b1, b2⟩)
      · exact Or.inr (Or.inr (Or.inl ⟨rfl, b⟩))
    · have := go_atom_w (c0 := c0) (o := o) (f := f) (g := g) (x := -1) (y := -1) (z := 0) (sk := sk) (sn := sn) (F := F) (S := F + M) hK (show c < 3300 by omega) h0 ht hm1 hm2 (by rw [hW]; exact hW0)
      rw [hW] at this
      exact this
  rcases t_k_cases (B := B) (n := n) (j := j) with ⟨h1, h2⟩ | ⟨q, hq, h1, h2⟩
  · have hw : wdx sk sn F (F + M) (t_w B n j) = wlk sk sn F (t_w B n j) M (F + 0) := by
      unfold wdx
      rw [if_neg (show ¬ t_w B n j = 330936265 from fun e => h2 22 (by decide) ⟨ht, e⟩), if_neg (show ¬ t_w B n j = 923 from fun e => h2 23 (by decide) ⟨ht, e⟩), if_neg (show ¬ t_w B n j = 242924 from fun e => h2 24 (by decide) ⟨ht, e⟩), if_neg (show ¬ t_w B n j = 12532058 from fun e => h2 25 (by decide) ⟨ht, e⟩), if_neg (show ¬ t_w B n j = 4075480 from fun e => h2 26 (by decide) ⟨ht, e⟩), if_neg (show ¬ t_w B n j = 385418 from fun e => h2 27 (by decide) ⟨ht, e⟩), if_neg (show ¬ t_w B n j = 223456 from fun e => h2 28 (by decide) ⟨ht, e⟩), if_neg (show ¬ t_w B n j = 80155 from fun e => h2 29 (by decide) ⟨ht, e⟩), if_neg (show ¬ t_w B n j = 191706742 from fun e => h2 30 (by decide) ⟨ht, e⟩), if_neg (show ¬ t_w B n j = 2968 from fun e => h2 31 (by decide) ⟨ht, e⟩), Nat.add_sub_cancel_left]
      rfl
    rw [hlk] at hw
    cases hf : lfi sk sn F (t_w B n j) M 0 with
    | none =>
      rw [hf] at hw
      refine ⟨0, _, ?_, bad (by rw [hw]; decide)⟩
      rw [qReader_readWord_0, eL, Option.bind_some, qReader_readWord_4, ek, h1, if_pos rfl, hf, if_pos (show lno cs none = 0 from rfl), qReader_readWord_40, if_pos rfl, if_pos hr.2.2.2, if_pos f2, f1]
    | some i =>
      rw [hf] at hw
      have hw : wdx sk sn F (F + M) (t_w B n j) = ((10 + i : Nat) : Int) := hw
      obtain ⟨_, i2, s1, s2⟩ := lfi_some hf
      obtain ⟨d1, d2, d3, d4, d5⟩ := hl.2 i (by omega)
      obtain ⟨d6, d7⟩ := d5 s1
      have hb0 : ¬ lno cs (some i) = 0 := by show ¬ ((cs i : Nat) : Int) = 0; have := d1.1; omega
      obtain ⟨τ, k1, k2, k3, k4, ⟨k5, k6⟩, k7⟩ := wtail hr ht 35 (lno cs (some i)) 1 (Or.inr ⟨cs i, rfl, d1⟩)
      obtain ⟨k8, k9⟩ := k7 (cs i) rfl d1
      refine ⟨_, τ, ?_, leaf τ ((10 + i : Nat) : Int) hw (by omega) (by unfold lwd; rw [if_neg (by omega), show (((10 + i : Nat) : Int) - 10).toNat = i by omega, s2]) (by rw [← s2]; exact nam_pos d7) k2 k3 k4 k6 (Or.inr ⟨by omega, k5, ?_⟩)⟩
      · rw [qReader_readWord_0, eL, Option.bind_some, qReader_readWord_4, ek, h1, if_pos rfl, hf, if_neg hb0, qReader_readWord_40, if_neg (show ¬ (1 : Int) = 0 by decide), e9, h1, if_pos rfl, nn_run, nnx]
        exact k1
      · have e : (((10 + i : Nat) : Int) - 10).toNat = i := by omega
        rw [e, k8, k9]
        exact ⟨d6, by omega, s1, hg_nam k2 d7⟩
  · have ht2 : t_w B n j = kcd q := h2.2
    have hq0 : ¬ t_k B n j = 0 := by rw [h1]; omega
    have hno : lfi sk sn F (t_w B n j) M 0 = none := by
      cases hf : lfi sk sn F (t_w B n j) M 0 with
      | none => rfl
      | some i =>
        obtain ⟨_, i2, s1, s2⟩ := lfi_some hf
        exact absurd (s2.trans ht2) (hnw i (by omega) s1 q hq)
    rw [hno] at hlk
    by_cases hq2 : q < 22
    · have hw : wdx sk sn F (F + M) (t_w B n j) = -1 := by
        have ne : ∀ A, A < 10 → t_w B n j ≠ kcd (22 + A) := fun A hA e => by
          have := kcd_inj q hq (22 + A) (by omega) (ht2.symm.trans e)
          omega
        unfold wdx
        rw [if_neg (show ¬ t_w B n j = 330936265 from ne 0 (by decide)), if_neg (show ¬ t_w B n j = 923 from ne 1 (by decide)), if_neg (show ¬ t_w B n j = 242924 from ne 2 (by decide)), if_neg (show ¬ t_w B n j = 12532058 from ne 3 (by decide)), if_neg (show ¬ t_w B n j = 4075480 from ne 4 (by decide)), if_neg (show ¬ t_w B n j = 385418 from ne 5 (by decide)), if_neg (show ¬ t_w B n j = 223456 from ne 6 (by decide)), if_neg (show ¬ t_w B n j = 80155 from ne 7 (by decide)), if_neg (show ¬ t_w B n j = 191706742 from ne 8 (by decide)), if_neg (show ¬ t_w B n j = 2968 from ne 9 (by decide)), Nat.add_sub_cancel_left]
        exact hlk
      refine ⟨0, _, ?_, bad (by rw [hw]; decide)⟩
      rw [qReader_readWord_0, eL, Option.bind_some, qReader_readWord_4, ek, if_neg hq0, h1, kd_s q hq2, xob_some, if_pos rfl, qReader_readWord_40, if_pos rfl, if_pos hr.2.2.2, if_pos f2, f1]
    · obtain ⟨A, rfl⟩ : ∃ A, q = 22 + A := ⟨q - 22, by omega⟩
      have hA : A < 10 := by omega
      have e24 : ((2 + (22 + A) : Nat) : Int) = ((24 + A : Nat) : Int) := by omega
      rw [e24] at h1
      have hw : wdx sk sn F (F + M) (t_w B n j) = (A : Int) := by
        rw [ht2]
        match A, hA with
        | 0, _ => rfl
        | 1, _ => rfl
        | 2, _ => rfl
        | 3, _ => rfl
        | 4, _ => rfl
        | 5, _ => rfl
        | 6, _ => rfl
        | 7, _ => rfl
        | 8, _ => rfl
        | 9, _ => rfl
        | A + 10, h => omega
      have kw := (kd_w (σ := σ) hA).2.2.1
      obtain ⟨τ, k1, k2, k3, k4, ⟨k5, k6⟩, k7⟩ := wtail hr ht ((24 + A : Nat) : Int) 0 1 (Or.inl rfl)
      refine ⟨_, τ, ?_, leaf τ (A : Int) hw (by omega) (by unfold lwd; rw [if_pos (by omega), Int.toNat_natCast, ht2]) (by rw [ht2]; exact kcd_pos _ hq) k2 k3 k4 k6 (Or.inl ⟨by omega, by rw [k5]; omega⟩)⟩
      rw [qReader_readWord_0, eL, Option.bind_some, hno, qReader_readWord_4, ek, if_neg hq0, h1, kw, xob_some, if_neg (by omega), qReader_readWord_40, if_neg (show ¬ (1 : Int) = 0 by decide), e9, h1, if_neg (by omega), nn_run, nnx]
      exact k1
end ATM

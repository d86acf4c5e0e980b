/-! leaves, what wraps one part, brackets -/
section WRP
variable {B : Nat → Int} {n C : Nat} {sk sn : Nat → Int} {F M S c0 : Nat} {cs : Nat → Nat} {o : Int} {j c k : Nat} {f : Nat → Nat → Int} {σ τ υ : xS}
theorem rf_nn (h : rf σ τ) : nn τ = nn σ := by rw [nn_eq, nn_eq, h.1]
theorem rl_hg {f' : Nat → Nat → Int} {N lo hi a i lo0 hi0 : Nat} (w : wfs f sk F S lo0 hi0) (h1 : lo0 ≤ i) (h2 : i < hi0) (hh : hg σ τ k) (hf : ∀ q r, r ≤ i → f' q r = f q r) (h : rl f σ.1 σ.2.1 sk sn F S N lo hi a i) : rl f' τ.1 τ.2.1 sk sn F S N lo hi a i :=
  rl_cg w (fun x hx => (hg_ndk hh hx).1) (fun _ _ _ => ⟨rfl, rfl⟩) (fun x w hx => hg_nam hh hx) N lo hi a i h1 h2 (fun x q _ _ x3 _ => by rw [(hg_ndk hh x3).2]) (fun j' _ hj' => ⟨fun q _ _ => hf q j' hj', fun _ => hf 4 j' hj'⟩) h
theorem RO_leaf {K1 a1 b1 d1 v1 : Int} {P : Int → Prop} (h1 : hg σ τ 1) (h2 : rst τ.1 B n C o (j + 1)) (h7 : τ.1 (nn σ) 7 = 0) (hP : P K1) (hw : wfr (nwr f c K1 a1 b1 d1 v1) sk F S c c) (hwt : wl (nwr f c K1 a1 b1 d1 v1) (lwd sn F) c + 3 * ptk B n j ≤ 3 * ptk B n (j + 1)) (hr : ∀ N, rl (nwr f c K1 a1 b1 d1 v1) τ.1 τ.2.1 sk sn F S (N + 1) (nn σ) (nn τ) (nn σ) c) (hg' : ∀ g K, List.length K < 499 → GO B n sk sn F S c0 (-1, o, j, c, f, g, (3, 0, -1, -1, 0) :: K) (-1, o, j + 1, c + 1, nwr f c K1 a1 b1 d1 v1, (c : Int), K)) : RO B n C sk sn F S c0 3 1 P σ τ (nn σ : Nat) o j c f := by
  have ho := h2.2.2.1.2
  obtain ⟨w0, w1, w2, w3, w4, w5⟩ := nwr_at (f := f) (c := c) (k := K1) (a := a1) (b := b1) (d := d1) (v := v1)
  refine Or.inl ⟨1, nn σ, j + 1, c + 1, nwr f c K1 a1 b1 d1 v1, rfl, h1, h2, ⟨by omega, by omega, by omega, by omega, hwt⟩, fun q r hr => nwr_lo (by omega), fun i i1 i2 => ?_, ⟨?_, ?_⟩, h7, fun N hN => ?_, fun g K hK => hg' g K (by omega)⟩
  · have e : i = c := by omega
    rw [e]; exact hw
  · show P (nwr f c K1 a1 b1 d1 v1 0 c)
    rw [w0]; exact hP
  · exact w4
  · obtain ⟨N, rfl⟩ : ∃ N', N = N' + 1 := ⟨N - 1, by omega⟩
    exact hr N
/-- one part behind what opens -/
theorem RO_un {md h KR kk q1 : Int} {P : Int → Prop} {σ1 : xS} {v : Int} (hin : RO B n C sk sn F S c0 md h P σ1 τ v (o + 1) (j + 1) c f) (h1 : rf σ σ1) (ho : 0 ≤ o ∧ o ≤ 10) (hc : c + (C - j) < 3300) (h0 : c0 ≤ c) (hP : P kk) (hkk : kk = 7 ∨ kk = 14) (hj : j < C) (hwk : (4 - (if kk = 7 then 3 else 0)) + 3 * ptk B n j ≤ 3 * ptk B n (j + 1))
    (okr : ∀ (f m : Nat → Nat → Int) (t : List (Nat × Nat)) (N lo hi s i a r : Nat), lo ≤ s ∧ s < hi ∧ nd t s → f 0 i = kk → m s 0 = KR → m s 6 = (a : Int) → f 1 i = (r : Int) → P (f 0 r) → (∃ lo' hi', lo ≤ lo' ∧ hi' ≤ hi ∧ ¬ (lo' ≤ s ∧ s < hi') ∧ rl f m t sk sn F S N lo' hi' a r) → rl f m t sk sn F S (N + 1) lo hi s i)
    (g1 : ∀ g K, List.length K < 499 → GO B n sk sn F S c0 (-1, o, j, c, f, g, (md, 0, -1, -1, 0) :: K) (-1, o + 1, j + 1, c, f, g, (md, 0, -1, -1, 0) :: (md, q1, -1, -1, 0) :: K))
    (g2 : ∀ j c f g K, List.length K < 499 → c < 3300 → c0 ≤ c → GO B n sk sn F S c0 (-1, o + 1, j, c, f, g, (md, q1, -1, -1, 0) :: K) (-1, o + 1 - 1, j, c + 1, nwr f c kk g 0 0 0, (c : Int), K))
    (hn : 0 ≤ h) : ∃ w τ', X iReader_closes 0 [(2, 297), (2, ((nn τ : Nat) : Int))] [] (xs (nnd τ KR) (nn τ) 6 v) = some ((2, w), τ') ∧ RO B n C sk sn F S c0 md h P σ τ' w o j c f := by
  have n1 := rf_nn h1
  have eo : o + 1 - 1 = o := by omega
  have hd1 : hg τ (xs (nnd τ KR) (nn τ) 6 v) 1 := hg_s (hg_nd KR) (Nat.le_refl _) 6 _
  have n2 := nn_ge (σ := σ)
  have em : ∀ x, x ≠ nn τ → (xs (nnd τ KR) (nn τ) 6 v).1 x = τ.1 x := fun x hx => by rw [xs_ne hx, nnd_m hx]
  rcases hin with ⟨k, a, j', c', f', rfl, m1, m2, ⟨m3, m4, m5, m6⟩, m7, m8, ⟨m9, m13⟩, m10, m11, m12⟩ | ⟨rfl, k', q, m1, m2, ⟨m3, m4, m5⟩, m6⟩
  · have n3 := hg_nn m1
    have mC := m2.2.1.1
    have hr2 : rst (xs (nnd τ KR) (nn τ) 6 (a : Int)).1 B n C (o + 1) j' := rst_cg m2 (fun x hx => em x (by omega))
    obtain ⟨τ', k1, k2, k3⟩ := C_closes hr2 (by omega) ((nn τ : Nat) : Int)
    rw [eo] at k2
    have hgA := hg_tr hd1 (hg_rf k3)
    have hgσ := hg_tr (hg_rf h1) (hg_tr m1 hgA)
    have n4 := hg_nn hgA
    have e5 : τ'.1 (nn τ) = (xs (nnd τ KR) (nn τ) 6 (a : Int)).1 (nn τ) := k3.2.1 _ (by omega)
    obtain ⟨w0, w1, w2, w3, w4, w5⟩ := nwr_at (f := f') (c := c') (k := kk) (a := ((c' - 1 : Nat) : Int)) (b := 0) (d := 0) (v := 0)
    have hs : nn σ ≤ nn τ ∧ nn τ < nn τ' ∧ nd τ'.2.1 (nn τ) := ⟨by omega, by omega, by rw [k3.1]; exact nnd_nd (k := KR)⟩
    have wfs' : wfs (nwr f' c' kk ((c' - 1 : Nat) : Int) 0 0 0) sk F S c (c' + 1) := by
      refine wfs_snoc (wfs_cg (fun q r _ hr => nwr_lo (by omega)) m8) ?_
      unfold wfr
      rw [w0, w1, w2, w3, w5]
      refine ⟨by omega, fun q => by omega, fun q => by omega, fun _ => by omega, fun _ => by omega, fun q => by omega, fun q => by omega⟩
    have hW : wl (nwr f' c' kk ((c' - 1 : Nat) : Int) 0 0 0) (lwd sn F) (c' + 1 - 1) = (4 - (if kk = 7 then 3 else 0)) + wl f' (lwd sn F) (c' - 1) := by
      show wl (nwr f' c' kk ((c' - 1 : Nat) : Int) 0 0 0) (lwd sn F) c' = _
      rw [wl_u wfs' (show c ≤ c' by omega) (Nat.lt_succ_self c') (by rw [w0]; exact hkk), w0, w1, Int.toNat_natCast, wl_cg m8 (show c ≤ c' - 1 by omega) (by omega) (fun q r hr _ => nwr_lo (by omega))]
    refine ⟨_, τ', k1, Or.inl ⟨0 + (k + (1 + 0)), nn τ, j', c' + 1, nwr f' c' kk ((c' - 1 : Nat) : Int) 0 0 0, rfl, hgσ, k2, ⟨by omega, by omega, by omega, by omega, by omega⟩, fun q r hr => by rw [nwr_lo (by omega), m7 q r hr], wfs', ⟨by show P (nwr f' c' kk _ _ _ _ 0 c'); rw [w0]; exact hP, w4⟩, ?_, fun N hN => ?_, fun g K hK => ?_⟩⟩
    · rw [e5, xs_at, xup_ne (by decide), nnd_v]; rfl
    · obtain ⟨N, rfl⟩ : ∃ N', N = N' + 1 := ⟨N - 1, by omega⟩
      refine okr _ _ _ N _ _ (nn τ) c' a (c' - 1) hs w0 (by rw [e5, xs_at, xup_ne (by decide), nnd_v, if_pos rfl]) (by rw [e5, xs_at, xup_eq]) w1 (by rw [nwr_lo (by omega)]; exact m9) ⟨nn σ1, nn τ, by omega, by omega, by omega, ?_⟩
      exact rl_hg m8 (by omega) (by omega) hgA (fun q r hr => nwr_lo (by omega)) (m11 N (by omega))
    · have := g2 j' c' f' ((c' - 1 : Nat) : Int) K (by omega) (by omega) (by omega)
      rw [eo] at this
      exact GO_tr (g1 g K (by omega)) (GO_tr (m12 g _ (by rw [List.length_cons]; omega)) this)
  · have hr2 : rft (xs (nnd τ KR) (nn τ) 6 (0 : Int)).1 B n q := rft_cg m2 (em 297 (by have := nn_ge (σ := τ); omega))
    obtain ⟨τ', k1, k2, k3⟩ := C_closes_x hr2 ((nn τ : Nat) : Int)
    exact ⟨0, τ', k1, Or.inr ⟨rfl, 0 + (k' + (1 + 0)), q, hg_tr (hg_rf h1) (hg_tr m1 (hg_tr hd1 (hg_rf k3))), k2, ⟨by omega, by omega, by omega⟩, fun g K hK => BAD_tr (g1 g K (by omega)) (m6 g _ (by rw [List.length_cons]; omega))⟩⟩
/-- between brackets -/
theorem RO_par {md h md' h' q1 w : Int} {P : Int → Prop} {σ1 : xS} {v : Int} {TP : Int → xS → Option (xAV × xS)} (hin : RO B n C sk sn F S c0 md' h' P σ1 τ v (o + 1) (j + 1) c f) (h1 : rf σ σ1) (ho : 0 ≤ o ∧ o ≤ 10) (hj : j < C) (hpk : ptk B n j ≤ ptk B n (j + 1)) (hh : h' ≤ h + 6) (hw : w ≠ 1)
    (T0 : ∀ v τ τ1, X iReader_pass 0 [(2, 297), (0, w)] [] τ = some ((0, 0), τ1) → TP v τ = some ((2, 0), τ1))
    (T1 : ∀ v τ τ1 u τ2, X iReader_pass 0 [(2, 297), (0, w)] [] τ = some ((0, 1), τ1) → X iReader_closes 0 [(2, 297), (2, v)] [] τ1 = some ((2, u), τ2) → TP v τ = some ((2, u), τ2))
    (g1 : ∀ g K, List.length K < 499 → GO B n sk sn F S c0 (-1, o, j, c, f, g, (md, 0, -1, -1, 0) :: K) (-1, o + 1, j + 1, c, f, g, (md', 0, -1, -1, 0) :: (md, q1, -1, -1, 0) :: K))
    (g2 : ∀ j c f g K, List.length K < 499 → (t_c B n j = w → GO B n sk sn F S c0 (-1, o + 1, j, c, f, g, (md, q1, -1, -1, 0) :: K) (-1, o + 1 - 1, j + 1, c, f, g, K)) ∧ (t_c B n j ≠ w → BAD B n sk sn F S c0 (-1, o + 1, j, c, f, g, (md, q1, -1, -1, 0) :: K) j))
    (hn : 0 ≤ h) : ∃ u τ', TP v τ = some ((2, u), τ') ∧ RO B n C sk sn F S c0 md h P σ τ' u o j c f := by
  have n1 := rf_nn h1
  have eo : o + 1 - 1 = o := by omega
  have n2 := nn_ge (σ := σ)
  rcases hin with ⟨k, a, j', c', f', rfl, m1, m2, ⟨m3, m4, m5, m6⟩, m7, m8, ⟨m9, m13⟩, m10, m11, m12⟩ | ⟨rfl, k', q, m1, m2, ⟨m3, m4, m5⟩, m6⟩
  · have mC := m2.2.1.1
    obtain ⟨p1, p2⟩ := C_pass m2 hw
    have gK : ∀ g K, ((List.length K : Nat) : Int) + 10 * (11 - o) + h ≤ 490 → GO B n sk sn F S c0 (-1, o, j, c, f, g, (md, 0, -1, -1, 0) :: K) (-1, o + 1, j', c', f', ((c' - 1 : Nat) : Int), (md, q1, -1, -1, 0) :: K) := fun g K hK => GO_tr (g1 g K (by omega)) (m12 g _ (by rw [List.length_cons]; omega))
    by_cases ht : t_c B n j' = w
    · obtain ⟨τ1, a1, a2, a3⟩ := p1 ht
      obtain ⟨τ2, b1, b2, b3⟩ := C_closes a2 (by omega) (a : Int)
      rw [eo] at b2
      have hgA := hg_tr (hg_rf a3) (hg_rf b3)
      have n4 := hg_nn hgA
      obtain ⟨l1, l2, l3⟩ := rl_nd (m11 _ (Nat.le_refl _))
      have pk2 := pk_1 (tc_n (B := B) (n := n) (j := j') (by rw [ht]; exact hw))
      refine ⟨_, τ2, T1 _ _ _ _ _ a1 b1, Or.inl ⟨0 + (k + (0 + 0)), a, j' + 1, c', f', rfl, hg_tr (hg_rf h1) (hg_tr m1 hgA), b2, ⟨by omega, m4, by omega, by omega, by omega⟩, m7, m8, ⟨m9, m13⟩, by rw [(hg_ndk hgA l3).2]; exact m10, fun N hN => ?_, fun g K hK => ?_⟩⟩
      · have := rl_hg m8 (by omega) (by omega) hgA (fun _ _ _ => rfl) (m11 N hN)
        exact rl_mono N N _ _ _ _ _ _ (Nat.le_refl _) (by omega) (by omega) this
      · have := (g2 j' c' f' ((c' - 1 : Nat) : Int) K (by omega)).1 ht
        rw [eo] at this
        exact GO_tr (gK g K hK) this
    · obtain ⟨τ1, a1, a2, a3⟩ := p2 ht
      exact ⟨0, τ1, T0 _ _ _ a1, Or.inr ⟨rfl, 0 + (k + 0), j', hg_tr (hg_rf h1) (hg_tr m1 (hg_rf a2)), a3, ⟨by omega, by omega, by omega⟩, fun g K hK => BAD_tr (gK g K hK) ((g2 j' c' f' ((c' - 1 : Nat) : Int) K (by omega)).2 ht)⟩⟩
  · exact ⟨0, τ, T0 _ _ _ (C_pass_x m2 w), Or.inr ⟨rfl, 0 + k', q, hg_tr (hg_rf h1) m1, m2, ⟨by omega, by omega, by omega⟩, fun g K hK => BAD_tr (g1 g K (by omega)) (m6 g _ (by rw [List.length_cons]; omega))⟩⟩
/-- a fault at the token itself -/
theorem RO_bad {md h : Int} {P : Int → Prop} (hr : rst σ.1 B n C o j) (h1 : rf σ τ) (h2 : rft τ.1 B n j) (hb : ∀ g K, ((List.length K : Nat) : Int) + 10 * (11 - o) + h ≤ 490 → BAD B n sk sn F S c0 (-1, o, j, c, f, g, (md, 0, -1, -1, 0) :: K) j) : RO B n C sk sn F S c0 md h P σ τ 0 o j c f :=
  Or.inr ⟨rfl, 0, j, hg_rf h1, h2, ⟨Nat.le_refl _, hr.2.1.1, by omega⟩, hb⟩
end WRP

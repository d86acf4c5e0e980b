/-! one statement more -/
section LST
variable {B : Nat → Int} {n C : Nat} {A A' : Nat → Nat → Int} {F M S : Nat} {cs : Nat → Nat} {σ0 σ τ υ υ1 : xS} {j c c0 k q k1 q1 a j' c' cz : Nat} {f f' : Nat → Nat → Int}
theorem rst_c7 {m m' : Nat → Nat → Int} {o : Int} (h : rst m B n C o j) (e : ∀ a, a < 305 → a ≠ 297 → m' a = m a) (e7 : ∀ i, i ≠ 11 → i ≠ 12 → i ≠ 13 → m' 297 i = m 297 i) : rst m' B n C o j := by
  obtain ⟨⟨h1, h2⟩, h3, h4, h5⟩ := h
  refine ⟨⟨?_, h2.1, h2.2.1, fun i hi => ?_⟩, ?_, ?_, ?_⟩
  · unfold rdr
    rw [e7 0 (by decide) (by decide) (by decide), e7 1 (by decide) (by decide) (by decide), e 304 (by decide) (by decide)]
    exact h1
  · unfold tka
    rw [e 299 (by decide) (by decide), e 300 (by decide) (by decide), e 301 (by decide) (by decide), e 302 (by decide) (by decide), e 303 (by decide) (by decide)]
    exact h2.2.2 i hi
  · rw [e7 7 (by decide) (by decide) (by decide), e7 8 (by decide) (by decide) (by decide), e7 9 (by decide) (by decide) (by decide)]; exact h3
  · rw [e7 10 (by decide) (by decide) (by decide)]; exact h4
  · rw [e7 14 (by decide) (by decide) (by decide)]; exact h5
/-- one node more -/
def cse (cs : Nat → Nat) (M a : Nat) : Nat → Nat := fun i => if i = M then a else cs i
theorem nam_chn {v x w : Int} (hd : ∀ y, y < M → nd σ.2.1 (cs y)) (hx : nam σ.1 σ.2.1 x w) : nam (chn σ M cs a v).1 σ.2.1 x w := by
  obtain ⟨cc, l, u1, ⟨u2, u3, u4, z, u5, u6, u7, u8⟩, u9, u10⟩ := hx
  have hne : ∀ (y kk nx : Nat), xnth σ.2.1 (y - 392) = some (kk, nx) → kk ≠ 7 → ∀ p, M = p + 1 → y ≠ cs p := fun y kk nx h1 h2 p hp e => by
    have : some (kk, nx) = some (7, 8) := h1.symm.trans (by rw [e]; exact (hd p (by omega)).2)
    injection this with h; injection h with h _; exact h2 h
  exact ⟨cc, l, u1, ⟨u2, u3, by rw [chn_o (by omega) (hne cc _ _ u3 (by decide))]; exact u4, z, by rw [chn_o (by omega) (hne cc _ _ u3 (by decide))]; exact u5, u6, u7, fun i hi => by rw [chn_o (by omega) (hne z _ _ u7 (by decide))]; exact u8 i hi⟩, u9, u10⟩
set_option maxHeartbeats 2000000 in
theorem lps_step (h : lps B n C σ0 σ A f F M j c cz cs k q) (hM : M ≤ 24) (hr' : rst υ.1 B n C 0 j') (hg : gz σ υ k1 q1) (hb : j < j' ∧ c ≤ c' ∧ c' + j ≤ c + j' ∧ k1 + j ≤ j' + 4 ∧ q1 + 8 * j ≤ 8 * j' + 40) (hf : ∀ q r, r < c → f' q r = f q r) (ha0 : nn σ ≤ a) (hA : ∀ r i, r < 7 → i ≠ F + M → A' r i = A r i) (hN : stN A' f' υ.1 υ.2.1 F (F + M) a (nn υ)) (hA5 : A' 5 (F + M) = (c' : Int)) (hsw : sw A' f' F (F + M) + 3 * ptk B n j ≤ 3 * ptk B n j' + 3) (hpk : ptk B n j' + 1 ≤ ptk B n (j' + 1)) (h7 : υ.1 a 7 = 0) (hNM : A' 0 (F + M) = 0 → ∀ q, q < 32 → A' 6 (F + M) ≠ kcd q) (hr1 : rst υ1.1 B n C 0 (j' + 1)) (hp : rf υ υ1) : ∃ υ2 cs', X iReader_chain 0 [(2, 297), (2, (a : Int))] [] υ1 = some ((9, 0), υ2) ∧ lps B n C σ0 υ2 A' f' F (M + 1) (j' + 1) c' cz cs' (k + k1) (q + q1) := by
  obtain ⟨⟨h1, h2, h3⟩, h4, h5, h6, h8, h9⟩ := h
  have gz1 := gz_tr hg (gz_rf hp)
  have hcs : ∀ x, x < M → nd σ.2.1 (cs x) := fun x hx => (h2.2 x hx).1
  have hlt : ∀ x, x < M → cs x < nn σ := fun x hx => ty_lt (hcs x hx).1 (hcs x hx).2
  have nσ := nn_ge (σ := σ)
  have nυ := gz_nn hg
  have n1 := rf_nn hp
  have nd1 : ∀ x, x < M → nd υ1.2.1 (cs x) := fun x hx => (gz_ndk gz1 (hcs x hx)).1
  have ea : υ1.1 a = υ.1 a := hp.2.1 a (by omega)
  have ha : nd υ1.2.1 a := by rw [hp.1]; exact hN.1
  have haN : a < nn υ := ty_lt hN.1.1 hN.1.2
  have e13 : υ1.1 297 13 = (lkc (A 0) F M : Int) := by rw [gz1.2.2.2.2 13 (by unfold rsm; omega)]; exact h3
  have e12 : υ1.1 297 12 = σ.1 297 12 := gz1.2.2.2.2 12 (by unfold rsm; omega)
  have hA2 : ∀ r i, r < 7 → i < M → A' r (F + i) = A r (F + i) := fun r i hr hi => hA r _ hr (by omega)
  have hl1 : ltc υ1.1 υ1.2.1 (A 0) (A 6) F M cs := gz_ltc gz1 h2
  have hk0 := hN.2.2.1
  have hll : lkc (A 0) F M ≤ M := lkc_le
  have hch := C_chain (σ := υ1) (a := a) hl1 ⟨fun z => by rw [e12]; exact h4.1 z, fun x z => by rw [e12]; exact h4.2 x z⟩ ha hk0 (by rw [ea]; exact hN.2.1) e13 (by omega) (fun x hx e => by have := hlt x hx; omega)
  generalize hv : ((lkc (A 0) F M + (if A' 0 (F + M) = 0 then 1 else 0) : Nat) : Int) = v at hch
  have hd392 : ∀ x, x < M → 392 ≤ cs x := fun x hx => (hcs x hx).1
  obtain ⟨c13, c12, c11a, c11b, co⟩ := chn_7 (σ := υ1) (a := a) (v := v) hd392
  have c2 : (chn υ1 M cs a v).2 = υ1.2 := chn_2
  have c21 : (chn υ1 M cs a v).2.1 = υ1.2.1 := congrArg (fun z => z.1) c2
  have n2 : nn (chn υ1 M cs a v) = nn υ := by rw [nn_eq, c21, ← nn_eq, n1]
  have eM : ∀ i, i = M → cse cs M a i = a := fun i hi => if_pos hi
  have eN : ∀ i, i ≠ M → cse cs M a i = cs i := fun i hi => if_neg hi
  have hnam : ∀ x w, nam σ.1 σ.2.1 x w → nam (chn υ1 M cs a v).1 (chn υ1 M cs a v).2.1 x w := fun x w hx => by rw [c21]; exact nam_chn nd1 (gz_nam gz1 hx)
  have hnam2 : ∀ x w, nam υ.1 υ.2.1 x w → nam (chn υ1 M cs a v).1 (chn υ1 M cs a v).2.1 x w := fun x w hx => by rw [c21]; exact nam_chn nd1 (hg_nam (hg_rf hp) hx)
  have es : ∀ x i, x < nn σ → x ≠ 297 → i ≠ 7 → (chn υ1 M cs a v).1 x i = σ.1 x i := fun x i hx h297 hi => by rw [chn_s h297 hi, gz1.2.2.2.1 x h297 hx]
  have eas : ∀ i, i ≠ 7 → (chn υ1 M cs a v).1 a i = υ.1 a i := fun i hi => by rw [chn_s (by omega) hi, ea]
  have ea7 : (chn υ1 M cs a v).1 a 7 = 0 := by rw [chn_o (by omega) (fun y hy e => by have := hlt y (by omega); omega), ea]; exact h7
  have htw : tws A' f' F (M + 1) ≤ 3 * ptk B n (j' + 1) := by
    have e : ∀ x, x ≤ M → tws A' f' F x = tws A f F x := fun x => by
      induction x with
      | zero => intro _; rfl
      | succ x ih =>
        intro hx
        obtain ⟨o1, o2, ah, o3, o4, o5, o6⟩ := h8 x (by omega)
        have := stN_sw (fun r hr => hA r (F + x) hr (by omega)) (fun y y1 y2 => hA 6 y (by decide) (by omega)) hf o2 o3
        show tws A' f' F x + sw A' f' F (F + x) = tws A f F x + sw A f F (F + x)
        rw [ih (by omega), this]
    have e1 := e M (Nat.le_refl M)
    show tws A' f' F M + sw A' f' F (F + M) ≤ _
    omega
  refine ⟨chn υ1 M cs a v, cse cs M a, hch, ⟨rst_c7 hr1 (fun x hx h297 => chn_o h297 (fun y hy e => by have := hd392 y (by omega); omega)) co, ⟨?_, fun i hi => ?_⟩, ?_⟩, ⟨fun h => absurd h (Nat.succ_ne_zero M), fun x hx => ?_⟩, gy_chn (gy_tr h5 (by have := gz_tr hg (gz_rf hp); exact this)) (fun x hx => ?_) v, by omega, fun i hi => ?_, fun i hi => ?_⟩
  · by_cases hM0 : M = 0
    · rw [c11a hM0, cn_lt (by omega), eM 0 hM0.symm]
    · rw [c11b hM0, gz1.2.2.2.2 11 (by unfold rsm; omega), h2.1, cn_lt (by omega), cn_lt (by omega), eN 0 (fun e => hM0 e.symm)]
  · by_cases hiM : i = M
    · rw [eM i hiM]
      refine ⟨by rw [c21]; exact ha, ?_, ?_, by rw [hiM]; exact hk0, fun hs => ?_⟩
      · rw [ea7, cn_ge (by omega)]
      · rw [eas 0 (by decide), hiM]; exact hN.2.1
      · rw [hiM] at hs
        obtain ⟨x1, x2⟩ := hN.2.2.2.1 hs
        rw [eas 1 (by decide), eas 4 (by decide), hiM]
        rw [Nat.add_sub_cancel_left] at x1
        exact ⟨x1, hnam2 _ _ x2⟩
    · have hi' : i < M := by omega
      obtain ⟨d1, d2, d3, d4, d5⟩ := h2.2 i hi'
      rw [eN i hiM]
      refine ⟨by rw [c21]; exact nd1 i hi', ?_, ?_, ?_, fun hs => ?_⟩
      · by_cases hl : i + 1 = M
        · rw [cn_lt (by omega), eM (i + 1) hl]
          subst hl
          exact chn_next (by have := hd392 i (by omega); omega)
        · rw [cn_lt (by omega), eN (i + 1) hl]
          have hh : ∀ y, M = y + 1 → cs i ≠ cs y := fun y hy e => by
            obtain ⟨_, _, ah, _, o1, _, o2⟩ := h8 i hi'
            have := o2 y (by omega) (by omega)
            omega
          rw [chn_o (by have := hd392 i hi'; omega) hh, gz1.2.2.2.1 _ (by have := hd392 i hi'; omega) (hlt i hi'), d2, cn_lt (by omega)]
      · rw [es _ 0 (hlt i hi') (by have := hd392 i hi'; omega) (by decide), d3, hA2 0 i (by decide) hi']
      · rw [hA2 0 i (by decide) hi']; exact d4
      · rw [hA2 0 i (by decide) hi'] at hs
        rw [es _ 1 (hlt i hi') (by have := hd392 i hi'; omega) (by decide), es _ 4 (hlt i hi') (by have := hd392 i hi'; omega) (by decide), hA2 6 i (by decide) hi', lkc_cg (sk := A 0) (sk' := A' 0) (F := F) (n := i) fun x x1 x2 => hA 0 x (by decide) (by omega)]
        exact ⟨(d5 hs).1, hnam _ _ (d5 hs).2⟩
  · rw [c13, ← hv]
    show _ = ((lkc (A' 0) F M + (if A' 0 (F + M) = 0 then 1 else 0) : Nat) : Int)
    rw [lkc_cg (sk := A 0) (sk' := A' 0) (F := F) (n := M) fun x x1 x2 => hA 0 x (by decide) (by omega)]
  · have : x = M := by omega
    rw [c12, eM x this]
  · exact (h8 x hx).1
  · by_cases hiM : i = M
    · rw [eM i hiM, hiM]
      have g0 := (gy_nn h5).1
      refine ⟨by omega, by rw [hA5]; exact Int.le_refl _, nn υ, ?_, haN, by omega, fun i' h1 h2 => absurd h2 (by omega)⟩
      exact stN_cg (c := c') (fun _ _ _ _ _ => rfl) (by omega) (fun _ _ _ => rfl) (by rw [hA5]; exact Int.le_refl _) (fun x hx => by rw [c21, hp.1]; exact hx) hnam2 (fun x x1 x2 _ => by rw [chn_o (by omega) (fun y hy e => by have := hlt y (by omega); omega), hp.2.1 x (by omega)]) eas hN
    · have hi' : i < M := by omega
      obtain ⟨o1, o2, ah, o3, o4, o5, o6⟩ := h8 i hi'
      rw [eN i hiM]
      refine ⟨o1, by rw [hA2 5 i (by decide) hi']; omega, ah, ?_, o4, by omega, fun i' h1 h2 => ?_⟩
      · exact stN_cg (c := c) (fun r x hr x1 x2 => hA r x hr (by omega)) (by omega) hf o2 (fun x hx => by rw [c21]; exact (gz_ndk gz1 hx).1) hnam (fun x x1 x2 hx => by
          have hx0 := hx.1
          rw [chn_o (by omega) (fun y hy e => by
            by_cases hiy : i = y
            · rw [hiy] at x1; omega
            · have := o6 y (by omega) (by omega)
              omega), gz1.2.2.2.1 x (by omega) (by omega)]) (fun q hq => es _ q (hlt i hi') (by have := hd392 i hi'; omega) hq) o3
      · by_cases hi2 : i' = M
        · rw [eM i' hi2]; omega
        · rw [eN i' hi2]; exact o6 i' h1 (by omega)
  · by_cases hiM : i = M
    · rw [hiM]; exact hNM
    · have hi' : i < M := by omega
      rw [hA2 0 i (by decide) hi', hA2 6 i (by decide) hi']
      exact h9 i hi'
end LST

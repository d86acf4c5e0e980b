/-! texts stand where rows and cells are added behind -/
section TCG
variable {m m' : Nat → Nat → Int} {t t' : List (Nat × Nat)} {A A' f f' : Nat → Nat → Int} {wd wd' : Int → List Nat} {sk sn sn' : Nat → Int} {F S F0 M lo hi c c0 i : Nat}
theorem lsx_f {g g' : Nat → List Nat → List Nat} (hf : ∀ j, lo ≤ j → j < i → f' 4 j = f 4 j) (h : ∀ j, lo ≤ j → j < i → g' j = g j) : ∀ (c : Nat) (j : Int) (l : List Nat), chw f lo i c j → lsx f' g' c j l = lsx f g c j l
  | 0, _, _, _ => rfl
  | c + 1, j, l, hc => by
    show (if j < 0 then l else lsx f' g' c (f' 4 j.toNat) (g' j.toNat (l ++ [44]))) = (if j < 0 then l else lsx f g c (f 4 j.toNat) (g j.toNat (l ++ [44])))
    by_cases hj : j < 0
    · rw [if_pos hj, if_pos hj]
    · rcases hc with hc | ⟨⟨c1, c2⟩, c3⟩
      · exact absurd hc hj
      rw [if_neg hj, if_neg hj, h _ c1 c2, hf _ c1 c2, lsx_f hf h c _ _ c3]
theorem txo_f {g g' : Nat → List Nat → List Nat} (w : wfr f sk F S lo i) (hl : lo ≤ i) (hf : ∀ q j, q ≤ 5 → lo ≤ j → j ≤ i → f' q j = f q j) (h : ∀ x, lo ≤ x → x < i → g' x = g x) (hwd : ∀ x, 0 ≤ x → (10 ≤ x → F + (x - 10).toNat < S ∧ sk (F + (x - 10).toNat) = 0) → wd' x = wd x) (l : List Nat) : txo f' wd' g' i l = txo f wd g i l := by
  obtain ⟨w0, w1, w2, w3, w4, w5, w6⟩ := w
  have e : ∀ q, q ≤ 5 → f' q i = f q i := fun q hq => hf q i hq hl (Nat.le_refl _)
  unfold txo
  rw [e 0 (by decide), e 1 (by decide), e 2 (by decide), e 3 (by decide), e 5 (by decide)]
  by_cases c0 : f 0 i = 0
  · rw [if_pos c0, if_pos c0]
  rw [if_neg c0, if_neg c0]
  by_cases c1 : f 0 i = 1
  · rw [if_pos c1, if_pos c1, hwd _ (w2 c1).1 (w2 c1).2]
  rw [if_neg c1, if_neg c1]
  have a3 := w3 (by omega)
  have e3 := h _ a3.2.1 a3.2.2
  have k3 := hf 0 (f 1 i).toNat (by decide) a3.2.1 (by omega)
  have n3 := hf 4 (f 1 i).toNat (by decide) a3.2.1 (by omega)
  by_cases c7 : f 0 i = 7 ∨ f 0 i = 14
  · rw [if_pos c7, if_pos c7, e3, k3]
  rw [if_neg c7, if_neg c7]
  by_cases c8 : f 0 i = 8 ∨ f 0 i = 9
  · rw [if_pos c8, if_pos c8, e3, n3, lsx_f (fun j j1 j2 => hf 4 j (by decide) j1 (by omega)) h _ _ _ (w6 c8)]
  rw [if_neg c8, if_neg c8]
  have a4 := w4 (by omega)
  have e4 := h _ a4.2.1 a4.2.2
  have k4 := hf 0 (f 2 i).toNat (by decide) a4.2.1 (by omega)
  by_cases c10 : f 0 i = 10
  · have a5 := w5 c10
    rw [if_pos c10, if_pos c10, e3, e4, h _ a5.2.1 a5.2.2]
  · rw [if_neg c10, if_neg c10, e3, e4, k3, k4]
theorem txs_f (w : wfs f sk F S lo hi) (hf : ∀ q j, q ≤ 5 → lo ≤ j → j < hi → f' q j = f q j) (hwd : ∀ x, 0 ≤ x → (10 ≤ x → F + (x - 10).toNat < S ∧ sk (F + (x - 10).toNat) = 0) → wd' x = wd x) : ∀ n i : Nat, lo ≤ i → i < hi → i < n → txs f' wd' n i = txs f wd n i
  | 0, i, _, _, h => absurd h (Nat.not_lt_zero i)
  | n + 1, i, h1, h2, h3 => by
    funext l
    exact txo_f (g := txs f wd n) (g' := txs f' wd' n) (w i h1 h2) h1 (fun q j hq j1 j2 => hf q j hq j1 (by omega)) (fun x x1 x2 => txs_f w hf hwd n x x1 (by omega) (by omega)) hwd l
theorem nwx_f (h : ∀ x, F ≤ x → x < S → sn' x = sn x) (x : Int) (h10 : 10 ≤ x → F + (x - 10).toNat < S ∧ sk (F + (x - 10).toNat) = 0) : nwx sn' F x = nwx sn F x := by
  unfold nwx
  by_cases q : x < 10
  · rw [if_pos q, if_pos q]
  · rw [if_neg q, if_neg q, h _ (Nat.le_add_right _ _) (h10 (by omega)).1]
theorem shx_f (e : ∀ r, r < 7 → A' r i = A r i) (l : List Nat) : shx A' i l = shx A i l := by
  unfold shx
  rw [e 0 (by decide), e 1 (by decide), e 2 (by decide), e 6 (by decide)]
/-- a statement stands -/
theorem st_f (h : stM A f F i) (hFi : F ≤ i) (hA : ∀ r x, r < 7 → F ≤ x → x ≤ i → A' r x = A r x) (hf : ∀ q r, q < 6 → r < c → f' q r = f q r) (hc : A 0 i < 5 → A 5 i ≤ (c : Int)) : stx A' f' F i = stx A f F i ∧ sw A' f' F i = sw A f F i ∧ stM A' f' F i := by
  have e : ∀ r, r < 7 → A' r i = A r i := fun r hr => hA r i hr hFi (Nat.le_refl _)
  obtain ⟨h0, h1, h2, h3, h4⟩ := h
  have es : shw A' i = shw A i := by
    unfold shw
    rw [e 0 (by decide), e 1 (by decide), e 2 (by decide), e 6 (by decide)]
  refine ⟨?_, ?_, ?_⟩
  · funext l
    unfold stx
    rw [shx_f e, e 0 (by decide), e 3 (by decide)]
    by_cases c5 : A 0 i < 5
    · obtain ⟨lo, hi, root, ⟨g1, g0⟩, ⟨g2, g3, g4⟩, g6, g5⟩ := h4 c5
      have hh := hc c5
      have et : tx f' (nwx (A' 6) F) root = tx f (nwx (A 6) F) root := txs_f g5 (fun q j hq _ j2 => hf q j (by omega) (by omega)) (fun x x0 x10 => nwx_f (S := i) (sk := A 0) (fun y y1 y2 => hA 6 y (by decide) y1 (by omega)) x x10) (root + 1) root g2 g3 (Nat.lt_succ_self _)
      rw [if_pos c5, if_pos c5, g1, Int.toNat_natCast, et]
    · rw [if_neg c5, if_neg c5]
  · unfold sw
    rw [es, e 0 (by decide), e 3 (by decide)]
    by_cases c5 : A 0 i < 5
    · obtain ⟨lo, hi, root, ⟨g1, g0⟩, ⟨g2, g3, g4⟩, g6, g5⟩ := h4 c5
      have hh := hc c5
      rw [if_pos c5, if_pos c5, g1, Int.toNat_natCast]
      have e1 : wl f' (lwd (A' 6) F) root = wl f (lwd (A' 6) F) root := wln_cg g5 root (root + 1) (root + 1) g2 g3 (Nat.lt_succ_self _) (Nat.lt_succ_self _) fun j j1 j2 => ⟨fun q hq _ => hf q j (by omega) (by omega), fun _ => hf 4 j (by decide) (by omega)⟩
      rw [e1, wl_lw g5 (fun x x1 x2 => hA 6 x (by decide) x1 (by omega)) root g2 g3]
    · rw [if_neg c5, if_neg c5]
  · refine ⟨by rw [e 0 (by decide)]; exact h0, by rw [e 0 (by decide), e 1 (by decide)]; exact h1, by rw [e 0 (by decide), e 1 (by decide)]; exact h2, by rw [e 0 (by decide), e 1 (by decide), e 2 (by decide)]; exact h3, fun c5 => ?_⟩
    rw [e 0 (by decide)] at c5
    obtain ⟨lo, hi, root, ⟨g1, g0⟩, ⟨g2, g3, g4⟩, g6, g5⟩ := h4 c5
    have hh := hc c5
    refine ⟨lo, hi, root, ⟨by rw [e 3 (by decide)]; exact g1, by rw [e 5 (by decide)]; exact g0⟩, ⟨g2, g3, g4⟩, g6, fun y y1 y2 => ?_⟩
    exact wfr_sk (fun x x1 x2 => hA 0 x (by decide) x1 (by omega)) (wfs_cg (fun q r hq hr => hf q r (by omega) (by omega)) g5 y y1 y2)
theorem txa_f : ∀ M : Nat, (∀ j, j < M → stM A f F (F + j)) → (∀ r x, r < 7 → F ≤ x → x < F + M → A' r x = A r x) → (∀ q r, q < 6 → r < c → f' q r = f q r) → (∀ j, j < M → A 0 (F + j) < 5 → A 5 (F + j) ≤ (c : Int)) → txa A' f' F M = txa A f F M ∧ tws A' f' F M = tws A f F M ∧ ∀ j, j < M → stM A' f' F (F + j)
  | 0, _, _, _, _ => ⟨rfl, rfl, fun j hj => absurd hj (Nat.not_lt_zero j)⟩
  | M + 1, h, hA, hf, hc => by
    obtain ⟨i1, i2, i3⟩ := txa_f M (fun j hj => h j (by omega)) (fun r x hr x1 x2 => hA r x hr x1 (by omega)) hf (fun j hj => hc j (by omega))
    obtain ⟨s1, s2, s3⟩ := st_f (h M (Nat.lt_succ_self M)) (Nat.le_add_right _ _) (fun r x hr x1 x2 => hA r x hr x1 (by omega)) hf (hc M (Nat.lt_succ_self M))
    refine ⟨?_, ?_, fun j hj => ?_⟩
    · show stx A' f' F (F + M) (txa A' f' F M) = stx A f F (F + M) (txa A f F M)
      rw [s1, i1]
    · show tws A' f' F M + sw A' f' F (F + M) = tws A f F M + sw A f F (F + M)
      rw [s2, i2]
    · by_cases q : j < M
      · exact i3 j q
      · have : j = M := by omega
        subst this
        exact s3
/-- of a statement's node and cells what is asked of it alone -/
theorem stM_of {a ah : Nat} (h : stN A f m t F i a ah) : stM A f F i := by
  obtain ⟨h1, h2, h3, h4, h5, h6, h7, h8, h9, h10⟩ := h
  refine ⟨h3, fun q => (h5 q).2, fun q => (h6 q).2, fun q => (h8 q).2, fun c5 => ?_⟩
  obtain ⟨lo, hi, root, n, cl, ch, c, g1, ⟨g2, g3, g4⟩, g5, ⟨g6, g7⟩, g8, g9, g10, g11⟩ := h9 (by omega)
  exact ⟨lo, hi, root, ⟨g4, g3⟩, g5, by omega, g9⟩
theorem nmk_st {a ah : Nat} (h : stN A f m t F i a ah) (h0 : A 0 i = 0) : nmk (A 6 i) := nmk_of (h.2.2.2.1 h0).2
/-- what a text that was read is between calls -/
theorem te_N_of {a ah : Nat} (h : stN A f m t F i a ah) (hA : ∀ q, q < 7 → m (344 + q) = A q) (hf : ∀ q, q < 6 → m (351 + q) = f q) : te_N m t F i a := by
  obtain ⟨h1, h2, h3, h4, h5, h6, h7, h8, h9, h10⟩ := h
  have a0 : m 344 = A 0 := hA 0 (by decide)
  have a1 : m 345 = A 1 := hA 1 (by decide)
  have a2 : m 346 = A 2 := hA 2 (by decide)
  have a3 : m 347 = A 3 := hA 3 (by decide)
  have a4 : m 348 = A 4 := hA 4 (by decide)
  have a5 : m 349 = A 5 := hA 5 (by decide)
  have a6 : m 350 = A 6 := hA 6 (by decide)
  have ef : ∀ c, c ≤ 5 → rws m c = f c := fun c hc => hf c (by omega)
  unfold te_N
  rw [a0, a1, a2, a6]
  refine ⟨h1, h2, h3, h4, h5, h6, h7, h8, fun q => ?_, h10⟩
  obtain ⟨lo, hi, root, n, cl, ch, c, g1, ⟨g2, g3, g4⟩, g5, ⟨g6, g7⟩, g8, g9, g10, g11⟩ := h9 q
  refine ⟨lo, hi, root, n, cl, ch, c, ⟨by rw [a4]; exact g2, by rw [a5]; exact g3, by rw [a3]; exact g4⟩, g5, g6, g8, wfs_fc ef (fun j _ _ => by rw [a0]) g9, by rw [ef 0 (by decide)]; exact g10, ?_⟩
  exact rl_cg g9 (fun _ q => q) (fun j _ _ => by rw [a0, a6]; exact ⟨rfl, rfl⟩) (fun _ _ q => q) n cl ch c root g5.1 g5.2.1 (fun _ _ _ _ _ _ => rfl) (fun j _ _ => ⟨fun c hc _ => by rw [ef c hc], fun _ => by rw [ef 4 (by decide)]⟩) g11
/-- cells that were there stand, statements ahead of F0, rows ahead of c0 -/
def old (m m' : Nat → Nat → Int) (t t' : List (Nat × Nat)) (F0 c0 : Nat) : Prop := (∀ b p, 392 ≤ b → xnth t (b - 392) = some p → m' b = m b) ∧ (∀ k p, xnth t k = some p → xnth t' k = some p) ∧ (∀ q r, q < 7 → r < F0 → m' (344 + q) r = m (344 + q) r) ∧ ∀ q r, q < 6 → r < c0 → m' (351 + q) r = m (351 + q) r
theorem old_nd (h : old m m' t t' F0 c0) {x : Nat} (hx : nd t x) : nd t' x ∧ m' x = m x := ⟨⟨hx.1, h.2.1 _ _ hx.2⟩, h.1 _ _ hx.1 hx.2⟩
theorem old_sto (h : old m m' t t' F0 c0) {x : Nat} {l : List Nat} (hx : sto m t x l) : sto m' t' x l := by
  obtain ⟨h1, h2, h3, v, h4, h5, h6, h7⟩ := hx
  have e1 := h.1 _ _ h1 h2
  have e2 := h.1 _ _ h5 h6
  exact ⟨h1, h.2.1 _ _ h2, by rw [e1]; exact h3, v, by rw [e1]; exact h4, h5, h.2.1 _ _ h6, by rw [e2]; exact h7⟩
theorem old_nam (h : old m m' t t' F0 c0) {x w : Int} (hx : nam m t x w) : nam m' t' x w := by
  obtain ⟨c, l, h1, h2, h3, h4⟩ := hx
  exact ⟨c, l, h1, old_sto h h2, h3, h4⟩
theorem te_X_old (h : old m m' t t' F0 c0) {x : Int} (hi0 : i < F0) (hc : m 349 i ≤ (c0 : Int)) (hx : te_X m t F i x) : te_X m' t' F i x := by
  obtain ⟨lo, hi, root, n, cl, ch, c, ⟨g1, g2, g3⟩, g4, g5, g6, g7, g8, g9⟩ := hx
  have hh : hi ≤ c0 := by omega
  have ea : ∀ q, q < 7 → ∀ r, r < F0 → m' (344 + q) r = m (344 + q) r := fun q hq r hr => h.2.2.1 q r hq hr
  have ef : ∀ q j, q ≤ 5 → j < hi → rws m' q j = rws m q j := fun q j hq hj => h.2.2.2 q j (by omega) (by omega)
  refine ⟨lo, hi, root, n, cl, ch, c, ⟨(ea 4 (by decide) i hi0).trans g1, (ea 5 (by decide) i hi0).trans g2, (ea 3 (by decide) i hi0).trans g3⟩, g4, g5, g6, fun y y1 y2 => ?_, by rw [ef 0 root (by decide) g4.2.1]; exact g8, ?_⟩
  · exact wfr_sk (fun x x1 x2 => ea 0 (by decide) x (by omega)) (wfs_cg ef g7 y y1 y2)
  · exact rl_cg g7 (fun b hb => (old_nd h hb).1) (fun j _ j2 => ⟨ea 0 (by decide) j (by omega), ea 6 (by decide) j (by omega)⟩) (fun x w => old_nam h) n cl ch c root g4.1 g4.2.1 (fun b k _ _ b3 _ => by rw [(old_nd h b3).2]) (fun j _ j2 => ⟨fun c hc _ => ef c j hc (by omega), fun _ => ef 4 j (by decide) (by omega)⟩) g9
theorem te_N_old (h : old m m' t t' F0 c0) {a : Nat} (hFi : F ≤ i) (hi0 : i < F0) (hc : m 344 i < 5 → m 349 i ≤ (c0 : Int)) (hx : te_N m t F i a) : te_N m' t' F i a := by
  obtain ⟨g1, g2, g3, g4, g5, g6, g7, g8, g9, g10⟩ := hx
  have ea : ∀ q, q < 7 → ∀ r, r < F0 → m' (344 + q) r = m (344 + q) r := fun q hq r hr => h.2.2.1 q r hq hr
  have e0 : m' 344 i = m 344 i := ea 0 (by decide) i hi0
  have e1 : m' 345 i = m 345 i := ea 1 (by decide) i hi0
  have e2 : m' 346 i = m 346 i := ea 2 (by decide) i hi0
  have e6 : m' 350 i = m 350 i := ea 6 (by decide) i hi0
  have em := (old_nd h g1).2
  unfold te_N
  rw [em, e0, e1, e2, e6, lkc_cg (sk := m 344) (sk' := m' 344) (F := F) (n := i - F) fun x x1 x2 => ea 0 (by decide) x (by omega)]
  exact ⟨(old_nd h g1).1, g2, g3, fun q => ⟨(g4 q).1, old_nam h (g4 q).2⟩, g5, g6, g7, g8, fun q => te_X_old h hi0 (hc (by omega)) (g9 q), g10⟩
/-- a text between calls: what is written of it too -/
def rwA (m : Nat → Nat → Int) (r : Nat) : Nat → Int := m (344 + r)
def tw_B (m : Nat → Nat → Int) (t : List (Nat × Nat)) (x : Nat) : Prop := ∃ (F M T N : Nat) (cs : Nat → Nat), te_B m t x F M T N cs ∧ (∀ j, j < M → stM (rwA m) (rws m) F (F + j) ∧ (m 344 (F + j) = 0 → nmk (m 350 (F + j))) ∧ (m 344 (F + j) < 5 → m 349 (F + j) ≤ m 305 64)) ∧ (∃ s : Nat, m T 1 = (s : Int) ∧ sto m t s (txa (rwA m) (rws m) F M)) ∧ (∀ c ∈ txa (rwA m) (rws m) F M, c < 128) ∧ tws (rwA m) (rws m) F M ≤ 1200
def tw_J (m : Nat → Nat → Int) (t : List (Nat × Nat)) : Prop := ∀ x, x < (m 305 49).toNat → tw_B m t x
/-- an old text stands -/
theorem tw_B_old (h : old m m' t t' F0 c0) {x : Nat} (hF0 : m 305 57 = (F0 : Int)) (hc0 : m 305 64 = (c0 : Int)) (hx : m' 341 x = m 341 x ∧ m' 342 x = m 342 x ∧ m' 343 x = m 343 x ∧ m' 244 x = m 244 x) (h57 : m 305 57 ≤ m' 305 57) (h64 : m 305 64 ≤ m' 305 64) (hB : tw_B m t x) : tw_B m' t' x := by
  obtain ⟨F, M, T, N, cs, ⟨⟨b1, b2, b3, b4⟩, b5, b6, b7, b8, b9⟩, hs, ⟨s, s1, s2⟩, s3, s4⟩ := hB
  obtain ⟨x1, x2, x3, x4⟩ := hx
  have hFM : F + M ≤ F0 := by omega
  obtain ⟨⟨t1, t2⟩, t3, t4, ⟨t5, t6⟩, t7⟩ := b7
  have eT := h.1 _ _ t1 t2
  have ea : ∀ q, q < 7 → ∀ r, r < F0 → m' (344 + q) r = m (344 + q) r := fun q hq r hr => h.2.2.1 q r hq hr
  have el : lkc (m' 344) F M = lkc (m 344) F M := lkc_cg fun y y1 y2 => ea 0 (by decide) y (by omega)
  obtain ⟨q1, q2, q3⟩ := txa_f (A := rwA m) (A' := rwA m') (f := rws m) (f' := rws m') (F := F) (c := c0) M (fun j hj => (hs j hj).1) (fun r y hr y1 y2 => ea r hr y (by omega)) (fun q r hq hr => h.2.2.2 q r hq hr) (fun j hj j5 => by
    have := (hs j hj).2.2 j5
    rw [hc0] at this
    exact this)
  refine ⟨F, M, T, N, cs, ⟨⟨by rw [x1]; exact b1, by rw [x2]; exact b2, b3, by omega⟩, by rw [x4]; exact b5, by rw [eT, x3]; exact b6, ?_, by rw [eT]; exact b8, fun j hj => ⟨te_N_old h (Nat.le_add_right _ _) (by omega) (fun j5 => by rw [← hc0]; exact (hs j hj).2.2 j5) (b9 j hj).1, by rw [(old_nd h (b9 j hj).1.1).2]; exact (b9 j hj).2⟩⟩, fun j hj => ?_, ⟨s, by rw [eT]; exact s1, by rw [q1]; exact old_sto h s2⟩, by rw [q1]; exact s3, by rw [q2]; exact s4⟩
  · unfold tob
    rw [eT, el]
    exact ⟨⟨t1, h.2.1 _ _ t2⟩, t3, t4, ⟨t5, h.2.1 _ _ t6⟩, t7⟩
  · have e0 : m' 344 (F + j) = m 344 (F + j) := ea 0 (by decide) _ (by omega)
    have e6 : m' 350 (F + j) = m 350 (F + j) := ea 6 (by decide) _ (by omega)
    have e5 : m' 349 (F + j) = m 349 (F + j) := ea 5 (by decide) _ (by omega)
    refine ⟨q3 j hj, by rw [e0, e6]; exact (hs j hj).2.1, fun j5 => ?_⟩
    rw [e5]
    rw [e0] at j5
    have := (hs j hj).2.2 j5
    omega
theorem te_T_of {x : Nat} (h : tw_B m t x) : te_T m t x := by
  obtain ⟨F, M, T, N, cs, h, _⟩ := h
  exact ⟨F, M, T, N, cs, h⟩
/-- it stands under calls that leave terms alone -/
theorem tw_B_st (h : te_st t m m') {x : Nat} (hB : tw_B m t x) : tw_B m' t x := by
  obtain ⟨F, M, T, N, cs, b, hs, ⟨s, s1, s2⟩, s3, s4⟩ := hB
  have h' := h
  obtain ⟨h1, h2, h3, h4, h5, h6⟩ := h
  have eT := h1 T (nlg_of b.2.2.2.1.1.1 b.2.2.2.1.1.2 (by decide))
  obtain ⟨q1, q2, q3⟩ := txa_f (A := rwA m) (A' := rwA m') (f := rws m) (f' := rws m') (F := F) (c := (m 305 64).toNat) M (fun j hj => (hs j hj).1) (fun r y hr y1 y2 => by
    show m' (344 + r) y = m (344 + r) y
    rw [h2 (344 + r) (by omega)]) (fun q r hq hr => by
    show m' (351 + q) r = m (351 + q) r
    rw [h2 (351 + q) (by omega)]) (fun j hj j5 => by
    have : m 349 (F + j) ≤ m 305 64 := (hs j hj).2.2 j5
    show m 349 (F + j) ≤ _
    omega)
  refine ⟨F, M, T, N, cs, te_B_cg h' b, fun j hj => ?_, ⟨s, by rw [eT]; exact s1, by rw [q1]; exact sto_cg h1 s2⟩, by rw [q1]; exact s3, by rw [q2]; exact s4⟩
  rw [h2 344 (by omega), h2 350 (by omega), h2 349 (by omega), h6]
  exact ⟨q3 j hj, (hs j hj).2⟩
theorem tw_J_st (h : te_st t m m') (hJ : tw_J m t) : tw_J m' t := by
  intro x hx
  rw [h.2.2.2.1] at hx
  exact tw_B_st h (hJ x hx)
end TCG

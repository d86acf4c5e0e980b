/-! statements told so far stand; a statement is chained -/
section CHS
variable {B : Nat → Int} {n C : Nat} {A A' : Nat → Nat → Int} {F M S : Nat} {cs : Nat → Nat} {σ0 σ τ υ : xS} {j c c0 k q k' q' a ah i : Nat} {f f' m m' : Nat → Nat → Int} {t t' : List (Nat × Nat)}
theorem wfr_sk {sk sk' : Nat → Int} {lo : Nat} (h : ∀ x, F ≤ x → x < S → sk' x = sk x) (w : wfr f sk F S lo i) : wfr f sk' F S lo i := by
  obtain ⟨w0, w1, w2, w3⟩ := w
  exact ⟨w0, w1, fun q => ⟨(w2 q).1, fun h10 => ⟨((w2 q).2 h10).1, by rw [h _ (by omega) ((w2 q).2 h10).1]; exact ((w2 q).2 h10).2⟩⟩, w3⟩
theorem wln_lw {sk sn sn' : Nat → Int} {lo hi : Nat} (w : wfs f sk F S lo hi) (h : ∀ x, F ≤ x → x < S → sn' x = sn x) : ∀ (x n m : Nat), lo ≤ x → x < hi → x < n → x < m → wln f (lwd sn' F) m x = wln f (lwd sn F) n x := by
  intro x
  induction x using Nat.strongRecOn with
  | ind x ih =>
    intro n m h1 h2 hn hm
    obtain ⟨n, rfl⟩ : ∃ y, n = y + 1 := ⟨n - 1, by omega⟩
    obtain ⟨m, rfl⟩ : ∃ y, m = y + 1 := ⟨m - 1, by omega⟩
    obtain ⟨w0, w1, w2, w3, w4, w5, w6⟩ := w x h1 h2
    have sub : ∀ j, lo ≤ j → j < x → wln f (lwd sn' F) m j = wln f (lwd sn F) n j := fun j j1 j2 => ih j j2 n m j1 (by omega) (by omega) (by omega)
    show (if f 0 x = 0 then 1 + d10 (f 5 x) else if f 0 x = 1 then 1 + lwd sn' F (f 1 x)
      else if f 0 x = 7 ∨ f 0 x = 14 then 4 - (if f 0 x = 7 then 3 else 0) + wln f (lwd sn' F) m (f 1 x).toNat
      else if f 0 x = 8 ∨ f 0 x = 9 then 6 + wln f (lwd sn' F) m (f 1 x).toNat + lsw f (wln f (lwd sn' F) m) x (f 4 (f 1 x).toNat)
      else if f 0 x = 10 then 15 + wln f (lwd sn' F) m (f 1 x).toNat + wln f (lwd sn' F) m (f 2 x).toNat + wln f (lwd sn' F) m (f 3 x).toNat
      else (if f 0 x = 15 then 6 else if f 0 x = 16 then 5 else 3) + wln f (lwd sn' F) m (f 1 x).toNat + wln f (lwd sn' F) m (f 2 x).toNat) = (if f 0 x = 0 then 1 + d10 (f 5 x) else if f 0 x = 1 then 1 + lwd sn F (f 1 x)
      else if f 0 x = 7 ∨ f 0 x = 14 then 4 - (if f 0 x = 7 then 3 else 0) + wln f (lwd sn F) n (f 1 x).toNat
      else if f 0 x = 8 ∨ f 0 x = 9 then 6 + wln f (lwd sn F) n (f 1 x).toNat + lsw f (wln f (lwd sn F) n) x (f 4 (f 1 x).toNat)
      else if f 0 x = 10 then 15 + wln f (lwd sn F) n (f 1 x).toNat + wln f (lwd sn F) n (f 2 x).toNat + wln f (lwd sn F) n (f 3 x).toNat
      else (if f 0 x = 15 then 6 else if f 0 x = 16 then 5 else 3) + wln f (lwd sn F) n (f 1 x).toNat + wln f (lwd sn F) n (f 2 x).toNat)
    refine ite_congr rfl (fun _ => rfl) fun z0 => ite_congr rfl (fun z1 => ?_) fun z1 => ?_
    · unfold lwd
      by_cases h10 : f 1 x < 10
      · rw [if_pos h10, if_pos h10]
      · have := (w2 z1).2 (by omega)
        rw [if_neg h10, if_neg h10, h _ (by omega) this.1]
    have a3 := w3 (by omega)
    have s1 := sub _ a3.2.1 a3.2.2
    refine ite_congr rfl (fun _ => by rw [s1]) fun z2 => ite_congr rfl (fun z3 => ?_) fun z3 => ite_congr rfl (fun z4 => ?_) fun z4 => ?_
    · rw [s1, lsw_cg (lo := lo) (i := x) sub (fun _ _ _ => rfl) (w6 z3)]
    · have a4 := w4 (by omega)
      have a5 := w5 z4
      rw [s1, sub _ a4.2.1 a4.2.2, sub _ a5.2.1 a5.2.2]
    · have a4 := w4 (by omega)
      rw [s1, sub _ a4.2.1 a4.2.2]
theorem wl_lw {sk sn sn' : Nat → Int} {lo hi : Nat} (w : wfs f sk F S lo hi) (h : ∀ x, F ≤ x → x < S → sn' x = sn x) (x : Nat) (h1 : lo ≤ x) (h2 : x < hi) : wl f (lwd sn' F) x = wl f (lwd sn F) x := wln_lw w h x _ _ h1 h2 (Nat.lt_succ_self x) (Nat.lt_succ_self x)
theorem stN_cg (hA : ∀ r x, r < 7 → F ≤ x → x ≤ i → A' r x = A r x) (hFi : F ≤ i) (hf : ∀ q r, r < c → f' q r = f q r) (hc : A 5 i ≤ c) (ht : ∀ x, nd t x → nd t' x) (hnam : ∀ x w, nam m t x w → nam m' t' x w) (hm : ∀ x, a < x → x < ah → nd t x → m' x = m x) (hma : ∀ q, q ≠ 7 → m' a q = m a q) (h : stN A f m t F i a ah) : stN A' f' m' t' F i a ah := by
  obtain ⟨h1, h2, h3, h4, h5, h6, h7, h8, h9, h10⟩ := h
  have e : ∀ r, r < 7 → A' r i = A r i := fun r hr => hA r i hr hFi (Nat.le_refl _)
  unfold stN
  rw [e 0 (by decide), e 1 (by decide), e 2 (by decide), e 6 (by decide), hma 0 (by decide), hma 1 (by decide), hma 2 (by decide), hma 3 (by decide), hma 4 (by decide), hma 6 (by decide), lkc_cg (sk := A 0) (sk' := A' 0) (F := F) (n := i - F) fun x x1 x2 => hA 0 x (by decide) x1 (by omega)]
  refine ⟨ht _ h1, h2, h3, fun q => ⟨(h4 q).1, hnam _ _ (h4 q).2⟩, h5, h6, h7, h8, fun q => ?_, h10⟩
  obtain ⟨lo, hi, root, N, cl, ch, x, g1, ⟨g2, g3, g4⟩, g5, g6, g7, g8, g9, g10⟩ := h9 q
  have hh : hi ≤ c := by omega
  refine ⟨lo, hi, root, N, cl, ch, x, g1, ⟨by rw [e 4 (by decide)]; exact g2, by rw [e 5 (by decide)]; exact g3, by rw [e 3 (by decide)]; exact g4⟩, g5, g6, g7, fun y y1 y2 => ?_, by rw [hf 0 root (by omega)]; exact g9, ?_⟩
  · exact wfr_sk (fun x x1 x2 => hA 0 x (by decide) x1 (by omega)) (wfs_cg (fun q r _ hr => hf q r (by omega)) g8 y y1 y2)
  · exact rl_cg g8 ht (fun x x1 x2 => ⟨hA 0 x (by decide) x1 (by omega), hA 6 x (by decide) x1 (by omega)⟩) hnam N cl ch x root g5.1 g5.2.1 (fun y q y1 y2 y3 _ => by rw [hm y (by omega) (by omega) y3]) (fun y y1 y2 => ⟨fun q _ _ => hf q y (by omega), fun _ => hf 4 y (by omega)⟩) g10
/-- growth over statements: the reader's first, last, names too -/
def gy (σ τ : xS) (k q : Nat) : Prop := (∃ L : List (Nat × Nat), τ.2.1 = σ.2.1 ++ L ∧ L.length ≤ k) ∧ τ.2.2.1 ≤ σ.2.2.1 + q ∧ τ.2.2.2 = σ.2.2.2 ∧ (∀ a, a ≠ 297 → a < nn σ → τ.1 a = σ.1 a) ∧ ∀ i, ¬ rsm i → i ≠ 11 → i ≠ 12 → i ≠ 13 → τ.1 297 i = σ.1 297 i
theorem gy_nn (h : gy σ τ k q) : nn σ ≤ nn τ ∧ nn τ ≤ nn σ + k := by
  obtain ⟨⟨L, h1, h2⟩, _⟩ := h
  rw [nn_eq, nn_eq, h1, List.length_append]
  omega
theorem gy_tr (h : gy σ τ k q) (g : gz τ υ k' q') : gy σ υ (k + k') (q + q') := by
  have n1 := gy_nn h
  obtain ⟨⟨L, h1, h2⟩, h3, h4, h5, h6⟩ := h
  obtain ⟨⟨L', g1, g2⟩, g3, g4, g5, g6⟩ := g
  refine ⟨⟨L ++ L', by rw [g1, h1, List.append_assoc], by rw [List.length_append]; omega⟩, by omega, g4.trans h4, fun a ha hl => by rw [g5 a ha (by omega), h5 a ha hl], fun i hi h11 h12 h13 => (g6 i hi).trans (h6 i hi h11 h12 h13)⟩
theorem gy_s (h : gy σ τ k q) {a : Nat} (ha : nn σ ≤ a) (i : Nat) (v : Int) : gy σ (xs τ a i v) k q := ⟨h.1, h.2.1, h.2.2.1, fun b hb hl => by rw [xs_ne (by omega), h.2.2.2.1 b hb hl], fun j hj h11 h12 h13 => by rw [xs_ne (by have := nn_ge (σ := σ); omega), h.2.2.2.2 j hj h11 h12 h13]⟩
theorem gy_7 (h : gy σ τ k q) {i : Nat} (hi : i = 11 ∨ i = 12 ∨ i = 13) (v : Int) : gy σ (xs τ 297 i v) k q := ⟨h.1, h.2.1, h.2.2.1, fun b hb hl => by rw [xs_ne hb, h.2.2.2.1 b hb hl], fun j hj h11 h12 h13 => by rw [xs_at, xup_ne (by omega), h.2.2.2.2 j hj h11 h12 h13]⟩
/-- all statements' weights -/
def tws (A f : Nat → Nat → Int) (F : Nat) : Nat → Nat
  | 0 => 0
  | M + 1 => tws A f F M + sw A f F (F + M)
theorem stN_sw (hA : ∀ r, r < 7 → A' r i = A r i) (hA6 : ∀ x, F ≤ x → x < i → A' 6 x = A 6 x) (hf : ∀ q r, r < c → f' q r = f q r) (hc : A 5 i ≤ c) (h : stN A f m t F i a ah) : sw A' f' F i = sw A f F i := by
  have es : shw A' i = shw A i := by
    unfold shw
    rw [hA 0 (by decide), hA 1 (by decide), hA 2 (by decide), hA 6 (by decide)]
  unfold sw
  rw [es, hA 0 (by decide), hA 3 (by decide)]
  by_cases h5 : A 0 i < 5
  · obtain ⟨lo, hi, root, N, cl, ch, x, g1, ⟨g2, g3, g4⟩, g5, g6, g7, g8, g9, g10⟩ := h.2.2.2.2.2.2.2.2.1 (by omega)
    have hh : hi ≤ c := by omega
    rw [if_pos h5, if_pos h5, g4, Int.toNat_natCast]
    have e1 : wl f' (lwd (A' 6) F) root = wl f (lwd (A' 6) F) root := wl_cg g8 g5.1 g5.2.1 fun q r hr _ => hf q r (by omega)
    rw [e1, wl_lw g8 hA6 root g5.1 g5.2.1]
  · rw [if_neg h5, if_neg h5]
/-- between statements: M told, nodes cs -/
def lps (B : Nat → Int) (n C : Nat) (σ0 σ : xS) (A f : Nat → Nat → Int) (F M j c cz : Nat) (cs : Nat → Nat) (k q : Nat) : Prop :=
  (rst σ.1 B n C 0 j ∧ ltc σ.1 σ.2.1 (A 0) (A 6) F M cs ∧ σ.1 297 13 = (lkc (A 0) F M : Int)) ∧ ((M = 0 → σ.1 297 12 = 0) ∧ ∀ x, M = x + 1 → σ.1 297 12 = (cs x : Int)) ∧
  gy σ0 σ k q ∧ (k ≤ j + 4 * M ∧ q ≤ 8 * j + 40 * M ∧ cz ≤ c ∧ c ≤ cz + j ∧ tws A f F M ≤ 3 * ptk B n j) ∧
  (∀ i, i < M → nn σ0 ≤ cs i ∧ A 5 (F + i) ≤ c ∧ ∃ ah, stN A f σ.1 σ.2.1 F (F + i) (cs i) ah ∧ cs i < ah ∧ ah ≤ nn σ ∧ ∀ i', i < i' → i' < M → ah ≤ cs i') ∧
  ∀ i, i < M → A 0 (F + i) = 0 → ∀ q, q < 32 → A 6 (F + i) ≠ kcd q
/-- what chaining writes -/
noncomputable def chn (σ : xS) (M : Nat) (cs : Nat → Nat) (a : Nat) (v : Int) : xS := match M with
  | 0 => xs (xs (xs σ 297 11 (a : Int)) 297 12 (a : Int)) 297 13 v
  | x + 1 => xs (xs (xs σ (cs x) 7 (a : Int)) 297 12 (a : Int)) 297 13 v
theorem C_chain {sk sn : Nat → Int} (hl : ltc σ.1 σ.2.1 sk sn F M cs) (hlast : (M = 0 → σ.1 297 12 = 0) ∧ ∀ x, M = x + 1 → σ.1 297 12 = (cs x : Int)) (ha : nd σ.2.1 a) {kd : Int} (hkd : 0 ≤ kd ∧ kd ≤ 6) (h0 : σ.1 a 0 = 2 + kd) {l : Nat} (h13 : σ.1 297 13 = (l : Int)) (hlm : l ≤ 100) (hne : ∀ x, x < M → cs x ≠ a) : X iReader_chain 0 [(2, 297), (2, (a : Int))] [] σ = some ((9, 0), chn σ M cs a ((l + (if kd = 0 then 1 else 0) : Nat) : Int)) := by
  have h392 := ha.1
  have xk : xcm (2 + kd) = true := by
    have := xcm_q kd.toNat (by omega)
    rw [show ((2 + kd.toNat : Nat) : Int) = 2 + kd by omega] at this
    exact this
  have x2 : (xcm (2 + kd) && xcm 2) = true := by rw [xk]; rfl
  have e1 : xw ((l : Int) + 1) = ((l + 1 : Nat) : Int) := by rw [xw_id (by omega) (by omega)]; omega
  have e0 : xw ((l : Int) + 0) = ((l + 0 : Nat) : Int) := by rw [xw_id (by omega) (by omega)]; omega
  cases M with
  | zero =>
    have hf : xfld xE1 (xs (xs σ 297 11 (a : Int)) 297 12 (a : Int)) (a : Int) 7 0 = some (2 + kd) := by
      have hn : nd (xs (xs σ 297 11 (a : Int)) 297 12 (a : Int)).2.1 a := ha
      rw [nd_f hn 0, xs_ne (by omega), xs_ne (by omega), h0]
    rw [qReader_chain_0, if_pos (hlast.1 rfl), hf, xob_some, x2, cnd_t, h13, e1, e0]
    by_cases hk : kd = 0
    · rw [if_pos (by omega), if_pos hk]; rfl
    · rw [if_neg (by omega), if_neg hk]; rfl
  | succ x =>
    have d := (hl.2 x (Nat.lt_succ_self x)).1
    have d392 := d.1
    have hx := hne x (Nat.lt_succ_self x)
    have hf : xfld xE1 (xs (xs σ (cs x) 7 (a : Int)) 297 12 (a : Int)) (a : Int) 7 0 = some (2 + kd) := by
      have hn : nd (xs (xs σ (cs x) 7 (a : Int)) 297 12 (a : Int)).2.1 a := ha
      rw [nd_f hn 0, xs_ne (by omega), xs_ne (fun e => hx e.symm), h0]
    have e13 : (xs σ (cs x) 7 (a : Int)).1 297 13 = (l : Int) := by rw [xs_ne (by omega), h13]
    rw [qReader_chain_0, hlast.2 x rfl, if_neg (by omega), nd_o d, cnd_t, nd_wr d, xob_some, hf, xob_some, x2, cnd_t, e13, e1, e0]
    by_cases hk : kd = 0
    · rw [if_pos (by omega), if_pos hk]; rfl
    · rw [if_neg (by omega), if_neg hk]; rfl
theorem chn_2 {v : Int} : (chn σ M cs a v).2 = σ.2 := by cases M <;> rfl
theorem chn_o {v : Int} {x : Nat} (h1 : x ≠ 297) (h2 : ∀ y, M = y + 1 → x ≠ cs y) : (chn σ M cs a v).1 x = σ.1 x := by
  cases M with
  | zero => show (xs (xs (xs σ _ _ _) _ _ _) _ _ _).1 x = _; rw [xs_ne h1, xs_ne h1, xs_ne h1]
  | succ y => show (xs (xs (xs σ _ _ _) _ _ _) _ _ _).1 x = _; rw [xs_ne h1, xs_ne h1, xs_ne (h2 y rfl)]
theorem chn_s {v : Int} {x i : Nat} (h1 : x ≠ 297) (h2 : i ≠ 7) : (chn σ M cs a v).1 x i = σ.1 x i := by
  by_cases h : ∃ y, M = y + 1 ∧ x = cs y
  · obtain ⟨y, rfl, rfl⟩ := h
    show (xs (xs (xs σ _ _ _) _ _ _) _ _ _).1 (cs y) i = _
    rw [xs_ne h1, xs_ne h1, xs_at, xup_ne h2]
  · rw [chn_o h1 fun y hy e => h ⟨y, hy, e⟩]
theorem chn_7 {v : Int} (hd : ∀ x, x < M → 392 ≤ cs x) : (chn σ M cs a v).1 297 13 = v ∧ (chn σ M cs a v).1 297 12 = (a : Int) ∧ (M = 0 → (chn σ M cs a v).1 297 11 = (a : Int)) ∧ (M ≠ 0 → (chn σ M cs a v).1 297 11 = σ.1 297 11) ∧ ∀ i, i ≠ 11 → i ≠ 12 → i ≠ 13 → (chn σ M cs a v).1 297 i = σ.1 297 i := by
  cases M with
  | zero =>
    refine ⟨?_, ?_, fun _ => ?_, fun h => absurd rfl h, fun i h1 h2 h3 => ?_⟩
    · show (xs (xs (xs σ _ _ _) _ _ _) _ _ _).1 297 13 = _; rw [xs_at, xup_eq]
    · show (xs (xs (xs σ _ _ _) _ _ _) _ _ _).1 297 12 = _; rw [xs_at, xup_ne (by decide), xs_at, xup_eq]
    · show (xs (xs (xs σ _ _ _) _ _ _) _ _ _).1 297 11 = _; rw [xs_at, xup_ne (by decide), xs_at, xup_ne (by decide), xs_at, xup_eq]
    · show (xs (xs (xs σ _ _ _) _ _ _) _ _ _).1 297 i = _; rw [xs_at, xup_ne h3, xs_at, xup_ne h2, xs_at, xup_ne h1]
  | succ y =>
    have := hd y (Nat.lt_succ_self y)
    refine ⟨?_, ?_, fun h => absurd h (Nat.succ_ne_zero y), fun _ => ?_, fun i h1 h2 h3 => ?_⟩
    · show (xs (xs (xs σ _ _ _) _ _ _) _ _ _).1 297 13 = _; rw [xs_at, xup_eq]
    · show (xs (xs (xs σ _ _ _) _ _ _) _ _ _).1 297 12 = _; rw [xs_at, xup_ne (by decide), xs_at, xup_eq]
    · show (xs (xs (xs σ _ _ _) _ _ _) _ _ _).1 297 11 = _; rw [xs_at, xup_ne (by decide), xs_at, xup_ne (by decide), xs_ne (by omega)]
    · show (xs (xs (xs σ _ _ _) _ _ _) _ _ _).1 297 i = _; rw [xs_at, xup_ne h3, xs_at, xup_ne h2, xs_ne (by omega)]
theorem chn_next {v : Int} {x : Nat} (h1 : cs x ≠ 297) : (chn σ (x + 1) cs a v).1 (cs x) 7 = (a : Int) := by
  show (xs (xs (xs σ _ _ _) _ _ _) _ _ _).1 (cs x) 7 = _
  rw [xs_ne h1, xs_ne h1, xs_at, xup_eq]
theorem gy_chn (h : gy σ0 σ k q) (hcs : ∀ x, x < M → nn σ0 ≤ cs x) (v : Int) : gy σ0 (chn σ M cs a v) k q := by
  cases M with
  | zero => exact gy_7 (gy_7 (gy_7 h (Or.inl rfl) _) (Or.inr (Or.inl rfl)) _) (Or.inr (Or.inr rfl)) _
  | succ y => exact gy_7 (gy_7 (gy_s h (hcs y (Nat.lt_succ_self y)) 7 _) (Or.inr (Or.inl rfl)) _) (Or.inr (Or.inr rfl)) _
end CHS

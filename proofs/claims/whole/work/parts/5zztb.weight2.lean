/-! weights: one row by what it looks at; tokens' bytes -/
section WG2
variable {f : Nat → Nat → Int} {lw : Int → Nat} {sk sn : Nat → Int} {F S lo hi i : Nat} {B : Nat → Int} {n j : Nat}
theorem wl_sub (w : wfs f sk F S lo hi) {x : Nat} (h1 : lo ≤ x) (h2 : x < i) (h3 : i < hi) : wln f lw i x = wl f lw x := wln_cg w x (x + 1) i h1 (by omega) (Nat.lt_succ_self x) h2 fun _ _ _ => ⟨fun _ _ _ => rfl, fun _ => rfl⟩
theorem wl_0 (h : f 0 i = 0) : wl f lw i = 1 + d10 (f 5 i) := if_pos h
theorem wl_1 (h : f 0 i = 1) : wl f lw i = 1 + lw (f 1 i) := by
  show (if f 0 i = 0 then _ else if f 0 i = 1 then _ else _) = _
  rw [if_neg (by omega), if_pos h]
/-- what joins -/
def own (k : Int) : Nat := if k = 15 then 6 else if k = 16 then 5 else 3
theorem wl_b (w : wfs f sk F S lo hi) (h1 : lo ≤ i) (h2 : i < hi) (hk : (2 ≤ f 0 i ∧ f 0 i < 7) ∨ 11 ≤ f 0 i ∧ f 0 i ≠ 14) : wl f lw i = own (f 0 i) + wl f lw (f 1 i).toNat + wl f lw (f 2 i).toNat := by
  obtain ⟨w0, w1, w2, w3, w4, w5, w6⟩ := w i h1 h2
  have a3 := w3 (by omega)
  have a4 := w4 (by omega)
  show (if f 0 i = 0 then _ else if f 0 i = 1 then _ else if f 0 i = 7 ∨ f 0 i = 14 then _ else if f 0 i = 8 ∨ f 0 i = 9 then _ else if f 0 i = 10 then _ else (if f 0 i = 15 then 6 else if f 0 i = 16 then 5 else 3) + wln f lw i (f 1 i).toNat + wln f lw i (f 2 i).toNat) = _
  rw [if_neg (by omega), if_neg (by omega), if_neg (by omega), if_neg (by omega), if_neg (by omega), wl_sub w a3.2.1 a3.2.2 h2, wl_sub w a4.2.1 a4.2.2 h2]
  rfl
theorem wl_u (w : wfs f sk F S lo hi) (h1 : lo ≤ i) (h2 : i < hi) (hk : f 0 i = 7 ∨ f 0 i = 14) : wl f lw i = (4 - (if f 0 i = 7 then 3 else 0)) + wl f lw (f 1 i).toNat := by
  obtain ⟨w0, w1, w2, w3, w4, w5, w6⟩ := w i h1 h2
  have a3 := w3 (by omega)
  show (if f 0 i = 0 then _ else if f 0 i = 1 then _ else if f 0 i = 7 ∨ f 0 i = 14 then 4 - (if f 0 i = 7 then 3 else 0) + wln f lw i (f 1 i).toNat else _) = _
  rw [if_neg (by omega), if_neg (by omega), if_pos hk, wl_sub w a3.2.1 a3.2.2 h2]
theorem wl_f (w : wfs f sk F S lo hi) (h1 : lo ≤ i) (h2 : i < hi) (hk : f 0 i = 10) : wl f lw i = 15 + wl f lw (f 1 i).toNat + wl f lw (f 2 i).toNat + wl f lw (f 3 i).toNat := by
  obtain ⟨w0, w1, w2, w3, w4, w5, w6⟩ := w i h1 h2
  have a3 := w3 (by omega)
  have a4 := w4 (by omega)
  have a5 := w5 hk
  show (if f 0 i = 0 then _ else if f 0 i = 1 then _ else if f 0 i = 7 ∨ f 0 i = 14 then _ else if f 0 i = 8 ∨ f 0 i = 9 then _ else if f 0 i = 10 then 15 + wln f lw i (f 1 i).toNat + wln f lw i (f 2 i).toNat + wln f lw i (f 3 i).toNat else _) = _
  rw [if_neg (by omega), if_neg (by omega), if_neg (by omega), if_neg (by omega), if_pos hk, wl_sub w a3.2.1 a3.2.2 h2, wl_sub w a4.2.1 a4.2.2 h2, wl_sub w a5.2.1 a5.2.2 h2]
theorem wl_l (w : wfs f sk F S lo hi) (h1 : lo ≤ i) (h2 : i < hi) (hk : f 0 i = 8 ∨ f 0 i = 9) : wl f lw i = 6 + wl f lw (f 1 i).toNat + lsw f (wl f lw) i (f 4 (f 1 i).toNat) := by
  obtain ⟨w0, w1, w2, w3, w4, w5, w6⟩ := w i h1 h2
  have a3 := w3 (by omega)
  show (if f 0 i = 0 then _ else if f 0 i = 1 then _ else if f 0 i = 7 ∨ f 0 i = 14 then _ else if f 0 i = 8 ∨ f 0 i = 9 then 6 + wln f lw i (f 1 i).toNat + lsw f (wln f lw i) i (f 4 (f 1 i).toNat) else _) = _
  rw [if_neg (by omega), if_neg (by omega), if_neg (by omega), if_pos hk, wl_sub w a3.2.1 a3.2.2 h2, lsw_cg (f := f) (f' := f) (g := wl f lw) (lo := lo) (i := i) (fun x x1 x2 => wl_sub w x1 x2 h2) (fun _ _ _ => rfl) (w6 hk)]
/-- letters of a WORD, of a NAME -/
def lwd (sn : Nat → Int) (F : Nat) (w : Int) : Nat := if w < 10 then l27 (kcd (22 + w.toNat)) else l27 (sn (F + (w - 10).toNat))
theorem pk_s : ptk B n (j + 1) = t_e B n j := rfl
theorem pk_1 (h : t_s B n j < n) : ptk B n j + 1 ≤ ptk B n (j + 1) := by
  obtain ⟨g1, g2, g3, g4⟩ := t_s_le (B := B) (n := n) j
  have := g4 h
  rw [pk_s]
  omega
theorem pk_m (h : t_s B n j < n) : ptk B n j + (t_e B n j - t_s B n j) ≤ ptk B n (j + 1) := by
  obtain ⟨g1, g2, g3, g4⟩ := t_s_le (B := B) (n := n) j
  rw [pk_s]
  omega
theorem pw27_m : ∀ a b : Nat, a ≤ b → b ≤ 8 → pw 27 a ≤ pw 27 b := by
  have : ∀ b : Nat, b < 9 → ∀ a : Nat, a < 9 → a ≤ b → pw 27 a ≤ pw 27 b := by decide
  exact fun a b h1 h2 => this b (by omega) a (by omega) h1
/-- a word of so many letters -/
theorem pk_w {w : Int} (h : tW B n j w) (k : Nat) (hk : k ≤ 8) (hw : pw 27 k ≤ w) : ptk B n j + (k + 1) ≤ ptk B n (j + 1) := by
  obtain ⟨u1, u2, u3⟩ := t_let2 h.1
  obtain ⟨b1, b2⟩ := cdv_bd (B := B) (s := t_s B n j) (t_e B n j - t_s B n j) u3
  have hm := pk_m u1
  have hww : t_w B n j = w := h.2
  by_cases h8 : t_e B n j - t_s B n j ≤ 8
  · by_cases hlt : t_e B n j - t_s B n j ≤ k
    · have := pw27_m _ k hlt hk
      have := (b1 h8).2
      have e : cdv B (t_s B n j) (t_e B n j - t_s B n j) = w := hww
      omega
    · omega
  · omega
theorem l27_tok (h : t_c B n j = 2) (h0 : 0 ≤ t_w B n j) : 1 + l27 (t_w B n j) + 3 * ptk B n j ≤ 3 * ptk B n (j + 1) := by
  obtain ⟨u1, u2, u3⟩ := t_let2 h
  obtain ⟨b1, b2⟩ := cdv_bd (B := B) (s := t_s B n j) (t_e B n j - t_s B n j) u3
  have hm := pk_m u1
  by_cases h8 : t_e B n j - t_s B n j ≤ 8
  · have := l27_le (w := t_w B n j) (t_e B n j - t_s B n j) u2 h8 (b1 h8).2
    omega
  · have : t_w B n j = -1 := b2 (by omega)
    omega
theorem d10_tok (h : t_c B n j = 3) : 1 + d10 (t_n B n j) + 3 * ptk B n j ≤ 3 * ptk B n (j + 1) := by
  have hn : t_s B n j < n := by
    by_cases q : t_s B n j < n
    · exact q
    · have : t_c B n j = 1 := by
        show (if t_s B n j < n then _ else (1 : Int)) = 1
        rw [if_neg q]
      rw [this] at h
      exact absurd h (by decide)
  have e := t_c_of hn
  rw [h] at e
  obtain ⟨g1, g2, g3, g4⟩ := t_s_le (B := B) (n := n) j
  have hq : kq (B (t_s B n j)) = 3 ∧ ¬ 9 < t_e B n j - t_s B n j := by
    by_cases q : kq (B (t_s B n j)) = 3 ∧ 9 < t_e B n j - t_s B n j
    · rw [if_pos q] at e; exact absurd e (by decide)
    · rw [if_neg q] at e
      exact ⟨e.symm, fun z => q ⟨e.symm, z⟩⟩
  have hd := (t_dig hn (kq_3.mp hq.1)).2
  have hb := dgv_le (B := B) (s := t_s B n j) (t_e B n j - t_s B n j) fun i hi => hd _ (by omega) (by omega)
  have h4 := g4 hn
  have := d10_le (w := t_n B n j) (t_e B n j - t_s B n j) (by omega) (by omega) (hb.2 (by omega))
  have hm := pk_m hn
  omega
theorem tc_n (h : t_c B n j ≠ 1) : t_s B n j < n := by
  by_cases q : t_s B n j < n
  · exact q
  · refine absurd ?_ h
    show (if t_s B n j < n then _ else (1 : Int)) = 1
    rw [if_neg q]
theorem wl_cg2 {f' : Nat → Nat → Int} (w : wfs f sk F S lo hi) {i : Nat} (h1 : lo ≤ i) (h2 : i < hi) (hf : ∀ q j, lo ≤ j → j ≤ i → (q = 4 → j < i) → f' q j = f q j) : wl f' lw i = wl f lw i := wln_cg w i (i + 1) (i + 1) h1 h2 (Nat.lt_succ_self i) (Nat.lt_succ_self i) fun j j1 j2 => ⟨fun q _ q4 => hf q j j1 j2 (fun z => absurd z q4), fun j3 => hf 4 j j1 j2 (fun _ => j3)⟩
theorem wcd_pos : ∀ (l : List Nat) (v : Int), 0 ≤ v → (∀ c ∈ l, 97 ≤ c ∧ c ≤ 122) → 0 ≤ wcd l v
  | [], _, h, _ => h
  | c :: l, v, h, hl => by
    have := hl c (List.mem_cons_self ..)
    exact wcd_pos l (v * 27 + ((c : Int) - 96)) (by omega) (fun d hd => hl d (List.mem_cons_of_mem _ hd))
theorem nam_pos {m : Nat → Nat → Int} {t : List (Nat × Nat)} {x w : Int} (h : nam m t x w) : 0 ≤ w := by
  obtain ⟨c, l, _, _, h3, h4⟩ := h
  rw [← h4]
  exact wcd_pos l 0 (by decide) h3.2
theorem kcd_pos : ∀ q, q < 32 → 0 ≤ kcd q := by decide
theorem ptk_mo {j' : Nat} (h : j ≤ j') : ptk B n j ≤ ptk B n j' := by
  obtain ⟨d, rfl⟩ : ∃ d, j' = j + d := ⟨j' - j, by omega⟩
  induction d with
  | zero => exact Nat.le_refl _
  | succ d ih =>
    have h1 := ih (by omega)
    obtain ⟨g1, g2, g3, g4⟩ := t_s_le (B := B) (n := n) (j + d)
    show ptk B n j ≤ t_e B n (j + d)
    omega
end WG2

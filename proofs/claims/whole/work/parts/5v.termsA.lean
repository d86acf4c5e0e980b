/-! TERMS IN MEMORY: nodes, texts, rows; what an EX is -/
theorem xCT_len : (xCTc ++ xCTf).length = 392 := by decide +kernel
theorem xnth_ge {α : Type} : ∀ {l : List α} {i : Nat}, l.length ≤ i → xnth l i = none
  | [], _, _ => rfl
  | _ :: _, 0, h => absurd h (Nat.not_succ_le_zero _)
  | _ :: l, i + 1, h => xnth_ge (l := l) (i := i) (Nat.le_of_succ_le_succ h)
theorem xct_new {a k : Nat} (h : 392 ≤ a) : xct xE1 a k = none := by
  have h1 : xnth xE1.2.2 a = none := xnth_ge (l := xCTc ++ xCTf) (by rw [xCT_len]; exact h)
  unfold xct
  rw [h1]
theorem xty_new {σ : xS} {a : Nat} (h : 392 ≤ a) : xty xE1 σ ((a : Nat) : Int).toNat = xnth σ.2.1 (a - 392) := by
  have h1 : Nat.ble xE1.1 a = true := Nat.ble_eq_true_of_le h
  show cond (Nat.beq a 1) (some (100, xL σ)) (cond (Nat.ble xE1.1 a) (xnth σ.2.1 (a - xE1.1)) (xnth xE1.2.1 a)) = _
  rw [beq_ff (by omega), h1]
  rfl
theorem xisO_new {σ : xS} {a c n : Nat} (h : 392 ≤ a) (ht : xnth σ.2.1 (a - 392) = some (c, n)) : xisO xE1 σ (a : Int) c = true := by
  unfold xisO
  rw [xty_new h, ht]
  exact beq_tt c
theorem xfld_new {σ : xS} {a c n : Nat} (k : Nat) (h : 392 ≤ a) (ht : xnth σ.2.1 (a - 392) = some (c, n)) : xfld xE1 σ (a : Int) c k = some (σ.1 a k) := by
  have h1 : Nat.ble xNC a = true := Nat.ble_eq_true_of_le (Nat.le_trans (by decide) h)
  unfold xfld
  rw [xisO_new h ht, Int.toNat_natCast, xct_new h, h1]
  rfl
theorem xwr_new {σ : xS} {a k : Nat} {v : Int} (h : 392 ≤ a) : xwr xE1 σ (a : Int) k v = some (xs σ a k v) := by
  have h1 : Nat.ble xNC a = true := Nat.ble_eq_true_of_le (Nat.le_trans (by decide) h)
  unfold xwr
  rw [Int.toNat_natCast, xct_new h, h1]
  rfl
theorem xarr_new {σ : xS} {a t n : Nat} (h : 392 ≤ a) (ht : xnth σ.2.1 (a - 392) = some (100 + t, n)) : xarr xE1 σ (a : Int) t = some n := by
  unfold xarr
  rw [xty_new h, ht]
  show cond (Nat.beq (100 + t) (100 + t)) (some n) none = some n
  rw [beq_tt]
  rfl
theorem xlen_new {σ : xS} {a t n : Nat} (h : 392 ≤ a) (ht : xnth σ.2.1 (a - 392) = some (100 + t, n)) (h7 : t ≤ 7) : xlen xE1 σ (a : Int) = some n := by
  have h1 : Nat.ble 100 (100 + t) = true := Nat.ble_eq_true_of_le (by omega)
  have h2 : Nat.ble (100 + t) 107 = true := Nat.ble_eq_true_of_le (by omega)
  unfold xlen
  rw [xty_new h, ht]
  show cond (Nat.ble 100 (100 + t) && Nat.ble (100 + t) 107) (some n) none = some n
  rw [h1, h2]
  rfl
theorem xag_new {σ : xS} {a k : Nat} (h : 392 ≤ a) : xag xE1 σ (a : Int) k = σ.1 a k := by
  unfold xag
  rw [Int.toNat_natCast, xct_new h, beq_ff (by omega)]
  rfl
/-- a node's cell -/
def nd (t : List (Nat × Nat)) (a : Nat) : Prop := 392 ≤ a ∧ xnth t (a - 392) = some (7, 8)
theorem nd_f {σ : xS} {a : Nat} (h : nd σ.2.1 a) (k : Nat) : xfld xE1 σ (a : Int) 7 k = some (σ.1 a k) := xfld_new k h.1 h.2
theorem xcm_new {a : Nat} (h : 392 ≤ a) : xcm (a : Int) = true := by
  have h1 : Nat.ble xNC a = true := Nat.ble_eq_true_of_le (Nat.le_trans (by decide) h)
  unfold xcm
  rw [Int.toNat_natCast, h1, Bool.or_true]
/-- a text of ours: its bytes -/
def sto (m : Nat → Nat → Int) (t : List (Nat × Nat)) (a : Nat) (l : List Nat) : Prop := 392 ≤ a ∧ xnth t (a - 392) = some (0, 4) ∧ m a 1 = 0 ∧ ∃ v : Nat, m a 0 = (v : Int) ∧ 392 ≤ v ∧ xnth t (v - 392) = some (102, l.length) ∧ ∀ i, i < l.length → m v i = ((l.getD i 0 : Nat) : Int)
/-- letters' number -/
def wcd : List Nat → Int → Int
  | [], v => v
  | c :: l, v => wcd l (v * 27 + ((c : Int) - 96))
/-- letters of a word: 1 to 8 -/
def wlt (l : List Nat) : Prop := (1 ≤ l.length ∧ l.length ≤ 8) ∧ ∀ c ∈ l, 97 ≤ c ∧ c ≤ 122
/-- how many "let" stand among so many statements from F on -/
def lkc (sk : Nat → Int) (F : Nat) : Nat → Nat
  | 0 => 0
  | n + 1 => lkc sk F n + if sk (F + n) = 0 then 1 else 0
theorem lkc_mono {sk : Nat → Int} {F : Nat} : ∀ {n m : Nat}, n ≤ m → lkc sk F n ≤ lkc sk F m := by
  intro n m h
  induction m with
  | zero => rw [show n = 0 by omega]; exact Nat.le_refl _
  | succ m ih =>
    by_cases e : n = m + 1
    · rw [e]; exact Nat.le_refl _
    · exact Nat.le_trans (ih (by omega)) (Nat.le_add_right _ _)
theorem lkc_le {sk : Nat → Int} {F : Nat} : ∀ {n : Nat}, lkc sk F n ≤ n
  | 0 => Nat.le_refl _
  | n + 1 => by
    have := lkc_le (sk := sk) (F := F) (n := n)
    show lkc sk F n + (if sk (F + n) = 0 then 1 else 0) ≤ n + 1
    split <;> omega
theorem lkc_lt {sk : Nat → Int} {F n m : Nat} (h : n < m) (h0 : sk (F + n) = 0) : lkc sk F n < lkc sk F m := by
  have h1 : lkc sk F (n + 1) = lkc sk F n + 1 := by
    show lkc sk F n + (if sk (F + n) = 0 then 1 else 0) = _
    rw [if_pos h0]
  have := lkc_mono (sk := sk) (F := F) (show n + 1 ≤ m from h)
  omega
theorem lkc_inj {sk : Nat → Int} {F n m : Nat} (h0 : sk (F + n) = 0) (h1 : sk (F + m) = 0) (h : lkc sk F n = lkc sk F m) : n = m := by
  by_cases a : n < m
  · have := lkc_lt (m := m) a h0; omega
  · by_cases b : m < n
    · have := lkc_lt (m := n) b h1; omega
    · omega
theorem lkc_cg {sk sk' : Nat → Int} {F : Nat} : ∀ {n : Nat}, (∀ i, F ≤ i → i < F + n → sk' i = sk i) → lkc sk' F n = lkc sk F n
  | 0, _ => rfl
  | n + 1, h => by
    show lkc sk' F n + (if sk' (F + n) = 0 then 1 else 0) = lkc sk F n + _
    rw [lkc_cg (n := n) fun i h1 h2 => h i h1 (by omega), h (F + n) (by omega) (by omega)]
/-- held to the bounds -/
def hl (v : Int) : Int := if 1000000000000 < v then 1000000000000 else if v < -1000000000000 then -1000000000000 else v
theorem hl_le (v : Int) : -1000000000000 ≤ hl v ∧ hl v ≤ 1000000000000 := by
  unfold hl
  split
  · omega
  · split <;> omega
theorem hl_id {v : Int} (h : -1000000000000 ≤ v ∧ v ≤ 1000000000000) : hl v = v := by
  unfold hl
  rw [if_neg (by omega), if_neg (by omega)]
def tmz (a b : Int) : Int := if a = 0 ∨ b = 0 then 0 else hl (a * b)
def pck (k x v : Int) : Int := if k = 8 then (if x < v then x else v) else if v < x then x else v
/-- along a list's rows -/
def lfo (f : Nat → Nat → Int) (g : Nat → Int) (k : Int) : Nat → Int → Int → Int
  | 0, _, v => v
  | c + 1, j, v => if j < 0 then v else lfo f g k c (f 4 j.toNat) (pck k (g j.toNat) v)
def evo (f : Nat → Nat → Int) (h nm : Nat → Int) (g : Nat → Int) (i : Nat) : Int :=
  if f 0 i = 0 then f 5 i
  else if f 0 i = 1 then (if f 1 i < 10 then h (f 1 i).toNat else nm (f 1 i - 10).toNat)
  else if f 0 i = 2 then hl (g (f 1 i).toNat + g (f 2 i).toNat)
  else if f 0 i = 3 then hl (g (f 1 i).toNat - g (f 2 i).toNat)
  else if f 0 i = 4 then tmz (g (f 1 i).toNat) (g (f 2 i).toNat)
  else if f 0 i = 5 then (if g (f 2 i).toNat = 0 then 0 else Int.tdiv (g (f 1 i).toNat) (g (f 2 i).toNat))
  else if f 0 i = 6 then (if g (f 2 i).toNat = 0 then 0 else Int.tmod (g (f 1 i).toNat) (g (f 2 i).toNat))
  else if f 0 i = 7 then -(g (f 1 i).toNat)
  else if f 0 i = 8 then lfo f g 8 i (f 4 (f 1 i).toNat) (g (f 1 i).toNat)
  else if f 0 i = 9 then lfo f g 9 i (f 4 (f 1 i).toNat) (g (f 1 i).toNat)
  else if f 0 i = 10 then (if g (f 1 i).toNat = 0 then g (f 3 i).toNat else g (f 2 i).toNat)
  else if f 0 i = 11 then (if g (f 1 i).toNat < g (f 2 i).toNat then 1 else 0)
  else if f 0 i = 12 then (if g (f 2 i).toNat < g (f 1 i).toNat then 1 else 0)
  else if f 0 i = 13 then (if g (f 1 i).toNat = g (f 2 i).toNat then 1 else 0)
  else if f 0 i = 14 then (if g (f 1 i).toNat = 0 then 1 else 0)
  else if f 0 i = 15 then (if g (f 1 i).toNat = 0 then 0 else if g (f 2 i).toNat = 0 then 0 else 1)
  else if g (f 1 i).toNat = 0 then (if g (f 2 i).toNat = 0 then 0 else 1) else 1
/-- what a row is -/
def evn (f : Nat → Nat → Int) (h nm : Nat → Int) : Nat → Nat → Int
  | 0, _ => 0
  | n + 1, i => evo f h nm (evn f h nm n) i
def EV (f : Nat → Nat → Int) (h nm : Nat → Int) (i : Nat) : Int := evn f h nm (i + 1) i
/-- a list's rows go up and end ahead of i -/
def chw (f : Nat → Nat → Int) (lo i : Nat) : Nat → Int → Prop
  | 0, j => j < 0
  | c + 1, j => j < 0 ∨ ((lo ≤ j.toNat ∧ j.toNat < i) ∧ chw f lo i c (f 4 j.toNat))
/-- a row looks at rows from lo on ahead of it alone; names told ahead of S -/
def wfr (f : Nat → Nat → Int) (sk : Nat → Int) (F S lo i : Nat) : Prop :=
  (0 ≤ f 0 i ∧ f 0 i ≤ 16) ∧
  (f 0 i = 0 → 0 ≤ f 5 i ∧ f 5 i ≤ 999999999) ∧
  (f 0 i = 1 → 0 ≤ f 1 i ∧ (10 ≤ f 1 i → F + (f 1 i - 10).toNat < S ∧ sk (F + (f 1 i - 10).toNat) = 0)) ∧
  (2 ≤ f 0 i → 0 ≤ f 1 i ∧ lo ≤ (f 1 i).toNat ∧ (f 1 i).toNat < i) ∧
  ((2 ≤ f 0 i ∧ f 0 i < 7) ∨ (9 < f 0 i ∧ f 0 i ≠ 14) → 0 ≤ f 2 i ∧ lo ≤ (f 2 i).toNat ∧ (f 2 i).toNat < i) ∧
  (f 0 i = 10 → 0 ≤ f 3 i ∧ lo ≤ (f 3 i).toNat ∧ (f 3 i).toNat < i) ∧
  (f 0 i = 8 ∨ f 0 i = 9 → chw f lo i i (f 4 (f 1 i).toNat))
theorem lfo_cg {f : Nat → Nat → Int} {g g' : Nat → Int} {k : Int} {lo i : Nat} (h : ∀ j, lo ≤ j → j < i → g j = g' j) : ∀ {c : Nat} {j v : Int}, chw f lo i c j → lfo f g k c j v = lfo f g' k c j v
  | 0, _, _, _ => rfl
  | c + 1, j, v, hc => by
    show (if j < 0 then v else lfo f g k c (f 4 j.toNat) (pck k (g j.toNat) v)) = if j < 0 then v else lfo f g' k c (f 4 j.toNat) (pck k (g' j.toNat) v)
    by_cases hj : j < 0
    · rw [if_pos hj, if_pos hj]
    · rw [if_neg hj, if_neg hj]
      rcases hc with hc | ⟨⟨h1, h2⟩, h3⟩
      · exact absurd hc hj
      · rw [h j.toNat h1 h2]
        exact lfo_cg h h3
theorem lfo_ge {f : Nat → Nat → Int} {g : Nat → Int} {k : Int} {lo i : Nat} : ∀ {c d : Nat} {j v : Int}, chw f lo i c j → c ≤ d → lfo f g k d j v = lfo f g k c j v
  | 0, 0, _, _, _, _ => rfl
  | 0, d + 1, j, v, hc, _ => if_pos hc
  | c + 1, 0, _, _, _, h => absurd h (Nat.not_succ_le_zero _)
  | c + 1, d + 1, j, v, hc, hd => by
    show (if j < 0 then v else lfo f g k d (f 4 j.toNat) (pck k (g j.toNat) v)) = if j < 0 then v else lfo f g k c (f 4 j.toNat) (pck k (g j.toNat) v)
    by_cases hj : j < 0
    · rw [if_pos hj, if_pos hj]
    · rw [if_neg hj, if_neg hj]
      rcases hc with hc | ⟨_, h3⟩
      · exact absurd hc hj
      · exact lfo_ge h3 (Nat.le_of_succ_le_succ hd)
theorem evo_cg {f : Nat → Nat → Int} {sk : Nat → Int} {F S lo i : Nat} (w : wfr f sk F S lo i) {h nm nm' : Nat → Int} {g g' : Nat → Int} (hg : ∀ j, lo ≤ j → j < i → g j = g' j) (hn : ∀ j, F + j < S → sk (F + j) = 0 → nm j = nm' j) : evo f h nm g i = evo f h nm' g' i := by
  obtain ⟨w0, w1, w2, w3, w4, w5, w6⟩ := w
  unfold evo
  refine ite_congr rfl (fun _ => rfl) fun z0 => ?_
  refine ite_congr rfl (fun z1 => ?_) fun z1 => ?_
  · refine ite_congr rfl (fun _ => rfl) fun z2 => ?_
    have := (w2 z1).2 (by omega)
    exact hn _ this.1 this.2
  have a1 := hg _ (w3 (by omega)).2.1 (w3 (by omega)).2.2
  refine ite_congr rfl (fun z2 => ?_) fun z2 => ?_
  · rw [a1, hg _ (w4 (by omega)).2.1 (w4 (by omega)).2.2]
  refine ite_congr rfl (fun z3 => ?_) fun z3 => ?_
  · rw [a1, hg _ (w4 (by omega)).2.1 (w4 (by omega)).2.2]
  refine ite_congr rfl (fun z4 => ?_) fun z4 => ?_
  · rw [a1, hg _ (w4 (by omega)).2.1 (w4 (by omega)).2.2]
  refine ite_congr rfl (fun z5 => ?_) fun z5 => ?_
  · rw [a1, hg _ (w4 (by omega)).2.1 (w4 (by omega)).2.2]
  refine ite_congr rfl (fun z6 => ?_) fun z6 => ?_
  · rw [a1, hg _ (w4 (by omega)).2.1 (w4 (by omega)).2.2]
  refine ite_congr rfl (fun z7 => ?_) fun z7 => ?_
  · rw [a1]
  refine ite_congr rfl (fun z8 => ?_) fun z8 => ?_
  · rw [a1]; exact lfo_cg hg (w6 (Or.inl z8))
  refine ite_congr rfl (fun z9 => ?_) fun z9 => ?_
  · rw [a1]; exact lfo_cg hg (w6 (Or.inr z9))
  refine ite_congr rfl (fun z10 => ?_) fun z10 => ?_
  · rw [a1, hg _ (w4 (by omega)).2.1 (w4 (by omega)).2.2, hg _ (w5 z10).2.1 (w5 z10).2.2]
  refine ite_congr rfl (fun z11 => ?_) fun z11 => ?_
  · rw [a1, hg _ (w4 (by omega)).2.1 (w4 (by omega)).2.2]
  refine ite_congr rfl (fun z12 => ?_) fun z12 => ?_
  · rw [a1, hg _ (w4 (by omega)).2.1 (w4 (by omega)).2.2]
  refine ite_congr rfl (fun z13 => ?_) fun z13 => ?_
  · rw [a1, hg _ (w4 (by omega)).2.1 (w4 (by omega)).2.2]
  refine ite_congr rfl (fun z14 => ?_) fun z14 => ?_
  · rw [a1]
  have b1 := hg _ (w4 (by omega)).2.1 (w4 (by omega)).2.2
  refine ite_congr rfl (fun z15 => ?_) fun z15 => ?_
  · rw [a1, b1]
  · rw [a1, b1]
/-- all rows of a stretch -/
def wfs (f : Nat → Nat → Int) (sk : Nat → Int) (F S lo hi : Nat) : Prop := ∀ i, lo ≤ i → i < hi → wfr f sk F S lo i
theorem evn_cg {f : Nat → Nat → Int} {sk : Nat → Int} {F S lo hi : Nat} (w : wfs f sk F S lo hi) {h nm nm' : Nat → Int} (hn : ∀ j, F + j < S → sk (F + j) = 0 → nm j = nm' j) : ∀ (i n m : Nat), lo ≤ i → i < hi → i < n → i < m → evn f h nm n i = evn f h nm' m i := by
  intro i
  induction i using Nat.strongRecOn with
  | ind i ih =>
    intro n m h1 h2 h3 h4
    obtain ⟨n, rfl⟩ : ∃ n', n = n' + 1 := ⟨n - 1, by omega⟩
    obtain ⟨m, rfl⟩ : ∃ m', m = m' + 1 := ⟨m - 1, by omega⟩
    exact evo_cg (w i h1 h2) (fun j g1 g2 => ih j g2 n m g1 (by omega) (by omega) (by omega)) hn
theorem EV_cg {f : Nat → Nat → Int} {sk : Nat → Int} {F S lo hi i : Nat} (w : wfs f sk F S lo hi) {h nm nm' : Nat → Int} (hn : ∀ j, F + j < S → sk (F + j) = 0 → nm j = nm' j) (h1 : lo ≤ i) (h2 : i < hi) : EV f h nm i = EV f h nm' i := evn_cg w hn i _ _ h1 h2 (Nat.lt_succ_self i) (Nat.lt_succ_self i)
/-- a row by the rows that it looks at -/
theorem EV_eq {f : Nat → Nat → Int} {sk : Nat → Int} {F S lo hi i : Nat} (w : wfs f sk F S lo hi) {h nm : Nat → Int} (h1 : lo ≤ i) (h2 : i < hi) : EV f h nm i = evo f h nm (EV f h nm) i :=
  evo_cg (w i h1 h2) (fun j g1 g2 => evn_cg w (fun _ _ _ => rfl) j _ _ g1 (by omega) g2 (Nat.lt_succ_self j)) (fun _ _ _ => rfl)
theorem pck_le {k x v B : Int} (hx : -B ≤ x ∧ x ≤ B) (hv : -B ≤ v ∧ v ≤ B) : -B ≤ pck k x v ∧ pck k x v ≤ B := by
  unfold pck
  split
  · split <;> omega
  · split <;> omega
theorem lfo_le {f : Nat → Nat → Int} {g : Nat → Int} {k B : Int} {lo i : Nat} (hg : ∀ j, lo ≤ j → j < i → -B ≤ g j ∧ g j ≤ B) : ∀ {c : Nat} {j v : Int}, chw f lo i c j → -B ≤ v ∧ v ≤ B → -B ≤ lfo f g k c j v ∧ lfo f g k c j v ≤ B
  | 0, _, _, _, hv => hv
  | c + 1, j, v, hc, hv => by
    show -B ≤ (if j < 0 then v else lfo f g k c (f 4 j.toNat) (pck k (g j.toNat) v)) ∧ (if j < 0 then v else lfo f g k c (f 4 j.toNat) (pck k (g j.toNat) v)) ≤ B
    by_cases hj : j < 0
    · rw [if_pos hj]; exact hv
    · rw [if_neg hj]
      rcases hc with hc | ⟨⟨h1, h2⟩, h3⟩
      · exact absurd hc hj
      · exact lfo_le hg h3 (pck_le (hg _ h1 h2) hv)
theorem tdiv_abs {a b B : Int} (ha : -B ≤ a ∧ a ≤ B) : -B ≤ Int.tdiv a b ∧ Int.tdiv a b ≤ B := by
  have h1 : (Int.tdiv a b).natAbs ≤ a.natAbs := by rw [Int.natAbs_tdiv]; exact Nat.div_le_self _ _
  omega
theorem tmod_abs {a b B : Int} (ha : -B ≤ a ∧ a ≤ B) : -B ≤ Int.tmod a b ∧ Int.tmod a b ≤ B := by
  have h1 : (Int.tmod a b).natAbs ≤ a.natAbs := by rw [Int.natAbs_tmod]; exact Nat.mod_le _ _
  omega
theorem evo_le {f : Nat → Nat → Int} {sk : Nat → Int} {F S lo i : Nat} (w : wfr f sk F S lo i) {h nm g : Nat → Int} (hh : ∀ j, j < 10 → -1000000000000 ≤ h j ∧ h j ≤ 1000000000000) (hn : ∀ j, F + j < S → sk (F + j) = 0 → -1000000000000 ≤ nm j ∧ nm j ≤ 1000000000000) (hg : ∀ j, lo ≤ j → j < i → -1000000000000 ≤ g j ∧ g j ≤ 1000000000000) : -1000000000000 ≤ evo f h nm g i ∧ evo f h nm g i ≤ 1000000000000 := by
  obtain ⟨w0, w1, w2, w3, w4, w5, w6⟩ := w
  unfold evo
  have bit : ∀ (c : Prop) [Decidable c] (x y : Int), (-1000000000000 ≤ x ∧ x ≤ 1000000000000) → (-1000000000000 ≤ y ∧ y ≤ 1000000000000) → -1000000000000 ≤ (if c then x else y) ∧ (if c then x else y) ≤ 1000000000000 := fun c _ x y hx hy => by
    by_cases hc : c
    · rw [if_pos hc]; exact hx
    · rw [if_neg hc]; exact hy
  have o1 : (-1000000000000 : Int) ≤ 1 ∧ (1 : Int) ≤ 1000000000000 := by decide
  have o0 : (-1000000000000 : Int) ≤ 0 ∧ (0 : Int) ≤ 1000000000000 := by decide
  by_cases z0 : f 0 i = 0
  · rw [if_pos z0]; have := w1 z0; omega
  rw [if_neg z0]
  by_cases z1 : f 0 i = 1
  · rw [if_pos z1]
    by_cases z2 : f 1 i < 10
    · rw [if_pos z2]; have := (w2 z1).1; exact hh _ (by omega)
    · rw [if_neg z2]; exact hn _ ((w2 z1).2 (by omega)).1 ((w2 z1).2 (by omega)).2
  rw [if_neg z1]
  have a1 := hg _ (w3 (by omega)).2.1 (w3 (by omega)).2.2
  refine bit _ _ _ (hl_le _) (bit _ _ _ (hl_le _) (bit _ _ _ (bit _ _ _ o0 (hl_le _)) ?_))
  by_cases z5 : f 0 i = 5
  · rw [if_pos z5]; exact bit _ _ _ o0 (tdiv_abs a1)
  rw [if_neg z5]
  by_cases z6 : f 0 i = 6
  · rw [if_pos z6]; exact bit _ _ _ o0 (tmod_abs a1)
  rw [if_neg z6]
  by_cases z7 : f 0 i = 7
  · rw [if_pos z7]; omega
  rw [if_neg z7]
  by_cases z8 : f 0 i = 8
  · rw [if_pos z8]; exact lfo_le hg (w6 (Or.inl z8)) a1
  rw [if_neg z8]
  by_cases z9 : f 0 i = 9
  · rw [if_pos z9]; exact lfo_le hg (w6 (Or.inr z9)) a1
  rw [if_neg z9]
  by_cases z10 : f 0 i = 10
  · rw [if_pos z10]; exact bit _ _ _ (hg _ (w5 z10).2.1 (w5 z10).2.2) (hg _ (w4 (by omega)).2.1 (w4 (by omega)).2.2)
  rw [if_neg z10]
  exact bit _ _ _ (bit _ _ _ o1 o0) (bit _ _ _ (bit _ _ _ o1 o0) (bit _ _ _ (bit _ _ _ o1 o0) (bit _ _ _ (bit _ _ _ o1 o0) (bit _ _ _ (bit _ _ _ o0 (bit _ _ _ o0 o1)) (bit _ _ _ (bit _ _ _ o0 o1) o1)))))
theorem EV_le {f : Nat → Nat → Int} {sk : Nat → Int} {F S lo hi : Nat} (w : wfs f sk F S lo hi) {h nm : Nat → Int} (hh : ∀ j, j < 10 → -1000000000000 ≤ h j ∧ h j ≤ 1000000000000) (hn : ∀ j, F + j < S → sk (F + j) = 0 → -1000000000000 ≤ nm j ∧ nm j ≤ 1000000000000) : ∀ (i : Nat), lo ≤ i → i < hi → -1000000000000 ≤ EV f h nm i ∧ EV f h nm i ≤ 1000000000000 := by
  intro i
  induction i using Nat.strongRecOn with
  | ind i ih =>
    intro h1 h2
    rw [EV_eq w h1 h2]
    exact evo_le (w i h1 h2) hh hn fun j g1 g2 => ih j g2 g1 (by omega)

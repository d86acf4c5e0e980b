/-! tokens of a text: bytes B, as many as n -/
section TOK
variable {B : Nat → Int} {n : Nat}
/-- behind blanks -/
def skp (B : Nat → Int) (n : Nat) : Nat → Nat → Nat
  | 0, p => p
  | f + 1, p => if p < n ∧ (B p = 32 ∨ B p = 10) then skp B n f (p + 1) else p
/-- behind bytes from lo to hi -/
def rnn (B : Nat → Int) (n : Nat) (lo hi : Int) : Nat → Nat → Nat
  | 0, p => p
  | f + 1, p => if p < n ∧ (lo ≤ B p ∧ B p ≤ hi) then rnn B n lo hi f (p + 1) else p
def sgn (c : Int) : Prop := c = 59 ∨ c = 61 ∨ c = 43 ∨ c = 45 ∨ c = 42 ∨ c = 47 ∨ c = 37 ∨ c = 40 ∨ c = 41 ∨ c = 44 ∨ c = 91 ∨ c = 93 ∨ c = 60 ∨ c = 62
/-- from a point on: where the token starts, where it ends -/
def tkS (B : Nat → Int) (n p : Nat) : Nat := skp B n (n - p) p
def tkE (B : Nat → Int) (n p : Nat) : Nat :=
  if tkS B n p < n then (if 97 ≤ B (tkS B n p) ∧ B (tkS B n p) ≤ 122 then rnn B n 97 122 (n - tkS B n p) (tkS B n p) else if 48 ≤ B (tkS B n p) ∧ B (tkS B n p) ≤ 57 then rnn B n 48 57 (n - tkS B n p) (tkS B n p) else tkS B n p + 1) else tkS B n p
/-- what it is: 1 the end, 2 letters, 3 digits, 5 nothing, else the sign -/
noncomputable def tkC (B : Nat → Int) (n p : Nat) : Int :=
  if tkS B n p < n then (if 97 ≤ B (tkS B n p) ∧ B (tkS B n p) ≤ 122 then 2 else if 48 ≤ B (tkS B n p) ∧ B (tkS B n p) ≤ 57 then (if tkE B n p - tkS B n p ≤ 9 then 3 else 5) else @ite _ (sgn (B (tkS B n p))) (Classical.propDecidable _) (B (tkS B n p)) 5) else 1
/-- letters' number, digits' number: so many from s on -/
def cdv (B : Nat → Int) (s : Nat) : Nat → Int
  | 0 => 0
  | k + 1 => if k < 8 then cdv B s k * 27 + (B (s + k) - 96) else -1
def dgv (B : Nat → Int) (s : Nat) : Nat → Int
  | 0 => 0
  | k + 1 => (if dgv B s k < 100000000 then dgv B s k else 100000000) * 10 + (B (s + k) - 48)
/-- the j-th token -/
def ptk (B : Nat → Int) (n : Nat) : Nat → Nat
  | 0 => 0
  | j + 1 => tkE B n (ptk B n j)
def t_s (B : Nat → Int) (n j : Nat) : Nat := tkS B n (ptk B n j)
def t_e (B : Nat → Int) (n j : Nat) : Nat := tkE B n (ptk B n j)
noncomputable def t_c (B : Nat → Int) (n j : Nat) : Int := tkC B n (ptk B n j)
def t_w (B : Nat → Int) (n j : Nat) : Int := cdv B (t_s B n j) (t_e B n j - t_s B n j)
def t_n (B : Nat → Int) (n j : Nat) : Int := dgv B (t_s B n j) (t_e B n j - t_s B n j)
theorem skp_spec : ∀ (f p : Nat), p + f = n ∨ n ≤ p → p ≤ skp B n f p ∧ (p ≤ n → skp B n f p ≤ n) ∧ (skp B n f p < n → ¬ (B (skp B n f p) = 32 ∨ B (skp B n f p) = 10)) ∧ ∀ i, p ≤ i → i < skp B n f p → B i = 32 ∨ B i = 10
  | 0, p, h => ⟨Nat.le_refl _, fun h => h, fun h2 => by
      have h2 : p < n := h2
      omega, fun i h1 h2 => absurd h1 (by have h2 : i < p := h2; omega)⟩
  | f + 1, p, h => by
    show p ≤ (if p < n ∧ (B p = 32 ∨ B p = 10) then skp B n f (p + 1) else p) ∧ (p ≤ n → (if p < n ∧ (B p = 32 ∨ B p = 10) then skp B n f (p + 1) else p) ≤ n) ∧ ((if p < n ∧ (B p = 32 ∨ B p = 10) then skp B n f (p + 1) else p) < n → ¬ (B (if p < n ∧ (B p = 32 ∨ B p = 10) then skp B n f (p + 1) else p) = 32 ∨ B (if p < n ∧ (B p = 32 ∨ B p = 10) then skp B n f (p + 1) else p) = 10)) ∧ ∀ i, p ≤ i → i < (if p < n ∧ (B p = 32 ∨ B p = 10) then skp B n f (p + 1) else p) → B i = 32 ∨ B i = 10
    by_cases c : p < n ∧ (B p = 32 ∨ B p = 10)
    · rw [if_pos c]
      obtain ⟨g1, g2, g3, g4⟩ := skp_spec f (p + 1) (by omega)
      refine ⟨by omega, fun _ => g2 (by omega), g3, fun i h1 h2 => ?_⟩
      by_cases e : i = p
      · rw [e]; exact c.2
      · exact g4 i (by omega) h2
    · rw [if_neg c]
      exact ⟨Nat.le_refl _, fun h => h, fun h2 q => c ⟨h2, q⟩, fun i h1 h2 => absurd h1 (by omega)⟩
theorem rnn_spec {lo hi : Int} : ∀ (f p : Nat), p + f = n ∨ n ≤ p → p ≤ rnn B n lo hi f p ∧ (p ≤ n → rnn B n lo hi f p ≤ n) ∧ (rnn B n lo hi f p < n → ¬ (lo ≤ B (rnn B n lo hi f p) ∧ B (rnn B n lo hi f p) ≤ hi)) ∧ ∀ i, p ≤ i → i < rnn B n lo hi f p → lo ≤ B i ∧ B i ≤ hi
  | 0, p, h => ⟨Nat.le_refl _, fun h => h, fun h2 => by
      have h2 : p < n := h2
      omega, fun i h1 h2 => absurd h1 (by have h2 : i < p := h2; omega)⟩
  | f + 1, p, h => by
    show p ≤ (if p < n ∧ (lo ≤ B p ∧ B p ≤ hi) then rnn B n lo hi f (p + 1) else p) ∧ (p ≤ n → (if p < n ∧ (lo ≤ B p ∧ B p ≤ hi) then rnn B n lo hi f (p + 1) else p) ≤ n) ∧ ((if p < n ∧ (lo ≤ B p ∧ B p ≤ hi) then rnn B n lo hi f (p + 1) else p) < n → ¬ (lo ≤ B (if p < n ∧ (lo ≤ B p ∧ B p ≤ hi) then rnn B n lo hi f (p + 1) else p) ∧ B (if p < n ∧ (lo ≤ B p ∧ B p ≤ hi) then rnn B n lo hi f (p + 1) else p) ≤ hi)) ∧ ∀ i, p ≤ i → i < (if p < n ∧ (lo ≤ B p ∧ B p ≤ hi) then rnn B n lo hi f (p + 1) else p) → lo ≤ B i ∧ B i ≤ hi
    by_cases c : p < n ∧ (lo ≤ B p ∧ B p ≤ hi)
    · rw [if_pos c]
      obtain ⟨g1, g2, g3, g4⟩ := rnn_spec f (p + 1) (by omega)
      refine ⟨by omega, fun _ => g2 (by omega), g3, fun i h1 h2 => ?_⟩
      by_cases e : i = p
      · rw [e]; exact c.2
      · exact g4 i (by omega) h2
    · rw [if_neg c]
      exact ⟨Nat.le_refl _, fun h => h, fun h2 q => c ⟨h2, q⟩, fun i h1 h2 => absurd h1 (by omega)⟩
/-- a run from its first byte on -/
theorem rnn_first {lo hi : Int} {p : Nat} (hp : p < n) (h : lo ≤ B p ∧ B p ≤ hi) : rnn B n lo hi (n - p) p = rnn B n lo hi (n - (p + 1)) (p + 1) := by
  rw [show n - p = (n - (p + 1)) + 1 by omega]
  exact if_pos ⟨hp, h⟩
theorem tkS_spec {p : Nat} (hp : p ≤ n) : p ≤ tkS B n p ∧ tkS B n p ≤ n ∧ (tkS B n p < n → ¬ (B (tkS B n p) = 32 ∨ B (tkS B n p) = 10)) ∧ ∀ i, p ≤ i → i < tkS B n p → B i = 32 ∨ B i = 10 := by
  obtain ⟨g1, g2, g3, g4⟩ := skp_spec (B := B) (n := n) (n - p) p (by omega)
  exact ⟨g1, g2 hp, g3, g4⟩
theorem tkE_spec {p : Nat} (hp : p ≤ n) : tkS B n p ≤ tkE B n p ∧ tkE B n p ≤ n ∧ (tkS B n p < n → tkS B n p < tkE B n p) := by
  obtain ⟨g1, g2, g3, g4⟩ := tkS_spec (B := B) hp
  unfold tkE
  by_cases c : tkS B n p < n
  · rw [if_pos c]
    by_cases c1 : 97 ≤ B (tkS B n p) ∧ B (tkS B n p) ≤ 122
    · rw [if_pos c1, rnn_first c c1]
      obtain ⟨k1, k2, _, _⟩ := rnn_spec (B := B) (n := n) (lo := 97) (hi := 122) (n - (tkS B n p + 1)) (tkS B n p + 1) (by omega)
      have := k2 (by omega)
      omega
    · rw [if_neg c1]
      by_cases c2 : 48 ≤ B (tkS B n p) ∧ B (tkS B n p) ≤ 57
      · rw [if_pos c2, rnn_first c c2]
        obtain ⟨k1, k2, _, _⟩ := rnn_spec (B := B) (n := n) (lo := 48) (hi := 57) (n - (tkS B n p + 1)) (tkS B n p + 1) (by omega)
        have := k2 (by omega)
        omega
      · rw [if_neg c2]
        omega
  · rw [if_neg c]
    omega
theorem ptk_le : ∀ j, ptk B n j ≤ n
  | 0 => Nat.zero_le _
  | j + 1 => (tkE_spec (ptk_le j)).2.1
theorem t_s_le (j : Nat) : ptk B n j ≤ t_s B n j ∧ t_s B n j ≤ t_e B n j ∧ t_e B n j ≤ n ∧ (t_s B n j < n → t_s B n j < t_e B n j) := by
  obtain ⟨g1, g2, g3⟩ := tkE_spec (B := B) (ptk_le (B := B) j)
  exact ⟨(tkS_spec (B := B) (ptk_le j)).1, g1, g2, g3⟩
theorem t_s_mono (j : Nat) : t_e B n j ≤ t_s B n (j + 1) := (t_s_le (B := B) (n := n) (j + 1)).1
theorem cdv_bd {s : Nat} : ∀ k, (∀ i, i < k → 97 ≤ B (s + i) ∧ B (s + i) ≤ 122) → (k ≤ 8 → 0 ≤ cdv B s k ∧ cdv B s k < pw 27 k) ∧ (8 < k → cdv B s k = -1)
  | 0, _ => ⟨fun _ => ⟨Int.le_refl _, show (0 : Int) < 1 by decide⟩, fun h => absurd h (by decide)⟩
  | k + 1, h => by
    have ih := cdv_bd k fun i hi => h i (by omega)
    have hb := h k (Nat.lt_succ_self k)
    show (k + 1 ≤ 8 → 0 ≤ (if k < 8 then cdv B s k * 27 + (B (s + k) - 96) else -1) ∧ (if k < 8 then cdv B s k * 27 + (B (s + k) - 96) else -1) < pw 27 k * 27) ∧ (8 < k + 1 → (if k < 8 then cdv B s k * 27 + (B (s + k) - 96) else -1) = -1)
    refine ⟨fun h8 => ?_, fun h8 => if_neg (by omega)⟩
    have ih := ih.1 (by omega)
    rw [if_pos (by omega)]
    omega
theorem pw_27 : ∀ k : Nat, k ≤ 8 → pw 27 k ≤ 282429536481 := by decide
theorem cdv_le {s k : Nat} (h : ∀ i, i < k → 97 ≤ B (s + i) ∧ B (s + i) ≤ 122) : -1 ≤ cdv B s k ∧ cdv B s k ≤ 282429536481 := by
  obtain ⟨h1, h2⟩ := cdv_bd k h
  by_cases c : k ≤ 8
  · have := h1 c
    have := pw_27 k c
    omega
  · rw [h2 (by omega)]
    decide
theorem dgv_le {s : Nat} : ∀ k, (∀ i, i < k → 48 ≤ B (s + i) ∧ B (s + i) ≤ 57) → (0 ≤ dgv B s k ∧ dgv B s k ≤ 1000000009) ∧ (k ≤ 9 → dgv B s k < pw 10 k)
  | 0, _ => ⟨⟨Int.le_refl _, show (0 : Int) ≤ 1000000009 by decide⟩, fun _ => show (0 : Int) < 1 by decide⟩
  | k + 1, h => by
    have ih := dgv_le k fun i hi => h i (by omega)
    have hb := h k (Nat.lt_succ_self k)
    show (0 ≤ (if dgv B s k < 100000000 then dgv B s k else 100000000) * 10 + (B (s + k) - 48) ∧ (if dgv B s k < 100000000 then dgv B s k else 100000000) * 10 + (B (s + k) - 48) ≤ 1000000009) ∧ (k + 1 ≤ 9 → (if dgv B s k < 100000000 then dgv B s k else 100000000) * 10 + (B (s + k) - 48) < pw 10 k * 10)
    refine ⟨by split <;> omega, fun h9 => ?_⟩
    have := ih.2 (by omega)
    split <;> omega
end TOK
/-! the reference's next token -/
section NEXT
variable {σ : xS}
/-- the tape, in the reference's words -/
def tpB (m : Nat → Nat → Int) (B : Nat → Int) (n : Nat) : Prop := n ≤ 400 ∧ m 305 68 = (n : Int) ∧ (∀ i, i < n → B i = m 357 i % 256) ∧ ∀ i, 0 ≤ B i ∧ B i ≤ 255
/-- some slots of the reference alone -/
def slt (p : Nat → Prop) (σ τ : xS) : Prop := τ.2 = σ.2 ∧ (∀ a, a ≠ 305 → τ.1 a = σ.1 a) ∧ ∀ k, ¬ p k → τ.1 305 k = σ.1 305 k
theorem slt_rf (p : Nat → Prop) (σ : xS) : slt p σ σ := ⟨rfl, fun _ _ => rfl, fun _ _ => rfl⟩
theorem slt_s {p : Nat → Prop} {σ τ : xS} (h : slt p σ τ) {k : Nat} (hk : p k) (v : Int) : slt p σ (xs τ 305 k v) := ⟨h.1, fun a ha => by rw [xs_ne ha]; exact h.2.1 a ha, fun j hj => by
  rw [xs_at, xup_ne (fun e => hj (by rw [e]; exact hk))]
  exact h.2.2 j hj⟩
theorem slt_tr {p : Nat → Prop} {a b c : xS} (h : slt p a b) (g : slt p b c) : slt p a c := ⟨g.1.trans h.1, fun x hx => by rw [g.2.1 x hx, h.2.1 x hx], fun k hk => by rw [g.2.2 k hk, h.2.2 k hk]⟩
theorem slt_mo {p q : Nat → Prop} (hpq : ∀ k, p k → q k) {a b : xS} (h : slt p a b) : slt q a b := ⟨h.1, h.2.1, fun k hk => h.2.2 k fun z => hk (hpq k z)⟩
theorem tpB_slt {p : Nat → Prop} (hp : ¬ p 68) {τ : xS} {B : Nat → Int} {n : Nat} (h : slt p σ τ) (hB : tpB σ.1 B n) : tpB τ.1 B n := by
  unfold tpB
  rw [h.2.2 68 hp, h.2.1 357 (by decide)]
  exact hB
abbrev pnx (k : Nat) : Prop := k = 69 ∨ k = 70 ∨ k = 71 ∨ k = 72 ∨ k = 73
variable {B : Nat → Int} {n : Nat}
theorem M_here (hB : tpB σ.1 B n) {p : Nat} (hp : σ.1 305 69 = (p : Int)) : X iM_here 0 [(2, 305)] [] σ = some ((0, if p < n then B p else -1), σ) := by
  obtain ⟨h1, h2, h3, h4⟩ := hB
  rw [qM_here_0, hp, h2]
  by_cases c : p < n
  · rw [if_pos (by omega), if_pos (xin_of (by omega) (by omega)), if_pos c, Int.toNat_natCast, and255, h3 p c]
    refine congrArg (fun z => some ((0, z), σ)) ?_
    show ((σ.1 357 p + 128) % 256 - 128) % 256 = _
    omega
  · rw [if_neg (by omega), if_neg c]
/-- behind blanks -/
theorem M_next_skip (hB : tpB σ.1 B n) (w1 : xAV) : ∀ (f p : Nat) (τ : xS), f = n - p → slt pnx σ τ → τ.1 305 69 = (p : Int) → p ≤ n → ∃ τ', X iM_next 0 [(2, 305), w1] [] τ = X iM_next 43 [(2, 305), w1] [(0, if skp B n f p < n then B (skp B n f p) else -1)] τ' ∧ slt pnx σ τ' ∧ τ'.1 305 69 = (skp B n f p : Int) ∧ τ'.1 305 70 = (skp B n f p : Int) := by
  intro f
  induction f with
  | zero =>
    intro p τ hf hs hp hpn
    have hB' := tpB_slt (by decide) hs hB
    have hs2 := slt_s hs (show pnx 70 by decide) (p : Int)
    have e : p = n := by omega
    refine ⟨xs τ 305 70 (p : Int), ?_, hs2, by rw [xs_at, xup_ne (by decide)]; exact hp, by rw [xs_at, xup_eq]; rfl⟩
    rw [qM_next_0, M_here hB' hp, Option.bind_some, qM_next_4, if_neg (show ¬ (if p < n then B p else -1) = 32 by rw [if_neg (by omega)]; decide), M_here hB' hp, Option.bind_some, qM_next_13, if_neg (show ¬ (if p < n then B p else -1) = 10 by rw [if_neg (by omega)]; decide), hp, M_here (tpB_slt (by decide) hs2 hB) (p := p) (by rw [xs_at, xup_ne (by decide)]; exact hp), Option.bind_some]
    rfl
  | succ f ih =>
    intro p τ hf hs hp hpn
    have hB' := tpB_slt (by decide) hs hB
    have hn := hB.1
    have hpl : p < n := by omega
    have e1 : xw ((p : Int) + 1) = ((p + 1 : Nat) : Int) := xw_t (by omega)
    have go : B p = 32 ∨ B p = 10 → ∃ τ', X iM_next 0 [(2, 305), w1] [] (xs τ 305 69 (xw ((p : Int) + 1))) = X iM_next 43 [(2, 305), w1] [(0, if skp B n (f + 1) p < n then B (skp B n (f + 1) p) else -1)] τ' ∧ slt pnx σ τ' ∧ τ'.1 305 69 = (skp B n (f + 1) p : Int) ∧ τ'.1 305 70 = (skp B n (f + 1) p : Int) := by
      intro hb
      rw [show skp B n (f + 1) p = skp B n f (p + 1) from if_pos ⟨hpl, hb⟩, e1]
      clear e1
      exact ih (p + 1) _ (by omega) (slt_s hs (show pnx 69 by decide) _) (by rw [xs_at, xup_eq]) (by omega)
    clear e1
    rw [qM_next_0, M_here hB' hp, Option.bind_some, qM_next_4]
    by_cases c1 : B p = 32
    · rw [if_pos (by rw [if_pos hpl]; exact c1), hp]
      exact go (Or.inl c1)
    · rw [if_neg (by rw [if_pos hpl]; exact c1), M_here hB' hp, Option.bind_some, qM_next_13]
      by_cases c2 : B p = 10
      · rw [if_pos (by rw [if_pos hpl]; exact c2), hp]
        exact go (Or.inr c2)
      · have hs2 := slt_s hs (show pnx 70 by decide) (p : Int)
        rw [if_neg (by rw [if_pos hpl]; exact c2), hp, M_here (tpB_slt (by decide) hs2 hB) (p := p) (by rw [xs_at, xup_ne (by decide)]; exact hp), Option.bind_some, show skp B n (f + 1) p = p from if_neg (fun q => q.2.elim c1 c2)]
        exact ⟨xs τ 305 70 (p : Int), rfl, hs2, by rw [xs_at, xup_ne (by decide)]; exact hp, by rw [xs_at, xup_eq]⟩
/-- letters -/
theorem M_next_82 (hB : tpB σ.1 B n) (w1 : xAV) {s : Nat} : ∀ (f p : Nat) (τ : xS), f = n - p → slt pnx σ τ → τ.1 305 69 = (p : Int) → p ≤ n → s ≤ p → τ.1 305 70 = (s : Int) → τ.1 305 71 = 1 → τ.1 305 73 = cdv B s (p - s) → (∀ i, i < p - s → 97 ≤ B (s + i) ∧ B (s + i) ≤ 122) → ∃ τ', X iM_next 82 [(2, 305), w1] [] τ = some ((9, 0), τ') ∧ slt pnx σ τ' ∧ τ'.1 305 69 = (rnn B n 97 122 f p : Int) ∧ τ'.1 305 70 = (s : Int) ∧ τ'.1 305 71 = 1 ∧ τ'.1 305 73 = cdv B s (rnn B n 97 122 f p - s) := by
  intro f
  induction f with
  | zero =>
    intro p τ hf hs hp hpn hsp h70 h71 h73 hl
    have hB' := tpB_slt (by decide) hs hB
    refine ⟨τ, ?_, hs, hp, h70, h71, h73⟩
    rw [qM_next_82, M_here hB' hp, Option.bind_some, qM_next_86, if_pos (by rw [if_neg (by omega)]; decide)]
  | succ f ih =>
    intro p τ hf hs hp hpn hsp h70 h71 h73 hl
    have hB' := tpB_slt (by decide) hs hB
    have hn := hB.1
    have hpl : p < n := by omega
    rw [qM_next_82, M_here hB' hp, Option.bind_some, qM_next_86]
    show ∃ τ', (if (if p < n then B p else -1) < 97 then _ else _) = _ ∧ _
    rw [if_pos hpl]
    by_cases c1 : B p < 97
    · rw [if_pos c1, show rnn B n 97 122 (f + 1) p = p from if_neg (by omega)]
      exact ⟨τ, rfl, hs, hp, h70, h71, h73⟩
    by_cases c2 : 122 < B p
    · rw [if_neg c1, if_pos c2, show rnn B n 97 122 (f + 1) p = p from if_neg (by omega)]
      exact ⟨τ, rfl, hs, hp, h70, h71, h73⟩
    have hl' : ∀ i, i < (p + 1) - s → 97 ≤ B (s + i) ∧ B (s + i) ≤ 122 := fun i hi => by
      by_cases e : i = p - s
      · rw [e, show s + (p - s) = p by omega]; omega
      · exact hl i (by omega)
    have hcl := cdv_le hl
    have hcl' := cdv_le hl'
    have ec : cdv B s (p + 1 - s) = if p - s < 8 then cdv B s (p - s) * 27 + (B p - 96) else -1 := by
      rw [show p + 1 - s = (p - s) + 1 by omega]
      show (if p - s < 8 then cdv B s (p - s) * 27 + (B (s + (p - s)) - 96) else -1) = _
      rw [show s + (p - s) = p by omega]
    rw [if_neg c1, if_neg c2, hp, h70, xw_id (x := (p : Int) - (s : Int)) (by omega) (by omega), show rnn B n 97 122 (f + 1) p = rnn B n 97 122 f (p + 1) from if_pos ⟨hpl, by omega, by omega⟩]
    have nxt : ∀ τ1 : xS, τ1 = xs (xs τ 305 73 (cdv B s (p + 1 - s))) 305 69 (((p + 1 : Nat)) : Int) → ∃ τ', X iM_next 82 [(2, 305), w1] [] τ1 = some ((9, 0), τ') ∧ slt pnx σ τ' ∧ τ'.1 305 69 = (rnn B n 97 122 f (p + 1) : Int) ∧ τ'.1 305 70 = (s : Int) ∧ τ'.1 305 71 = 1 ∧ τ'.1 305 73 = cdv B s (rnn B n 97 122 f (p + 1) - s) := by
      intro τ1 e
      subst e
      refine ih (p + 1) _ (by omega) (slt_s (slt_s hs (show pnx 73 by decide) _) (show pnx 69 by decide) _) (by rw [xs_at, xup_eq]) (by omega) (by omega) ?_ ?_ ?_ hl'
      · rw [xs_at, xup_ne (by decide), xs_at, xup_ne (by decide)]; exact h70
      · rw [xs_at, xup_ne (by decide), xs_at, xup_ne (by decide)]; exact h71
      · rw [xs_at, xup_ne (by decide), xs_at, xup_eq]
    by_cases c3 : p - s < 8
    · rw [if_pos c3] at ec
      rw [if_pos (by omega), M_here hB' hp, Option.bind_some, qM_next_123]
      show ∃ τ', X iM_next 82 [(2, 305), w1] [] (xs (xs τ 305 73 (xW (xW (τ.1 305 73 * 27) + xw ((if p < n then B p else -1) - 96)))) 305 69 (xw (τ.1 305 69 + 1))) = _ ∧ _
      rw [if_pos hpl, h73, xW_id (x := cdv B s (p - s) * 27) (by omega) (by omega), xw_id (x := B p - 96) (by omega) (by omega), xW_id (x := cdv B s (p - s) * 27 + (B p - 96)) (by omega) (by omega), hp, xw_t (by omega)]
      exact nxt _ (by rw [ec])
    · rw [if_neg c3] at ec
      rw [if_neg (by omega), xw_t (by omega)]
      exact nxt _ (by rw [ec])
end NEXT

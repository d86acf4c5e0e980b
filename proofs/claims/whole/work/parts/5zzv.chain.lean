/-! a read as a call -/
section CAL
variable {σ τ υ : xS} {B : Nat → Int} {n C : Nat} {o : Int} {j k k' : Nat} {sk sn : Nat → Int} {F M S c0 c : Nat} {cs : Nat → Nat} {f : Nat → Nat → Int}
theorem nd_o {a : Nat} (h : nd σ.2.1 a) : xisO xE1 σ (a : Int) 7 = true := xisO_new h.1 h.2
theorem nd_wr {a : Nat} (h : nd σ.2.1 a) (q : Nat) (v : Int) : xwr xE1 σ (a : Int) q v = some (xs σ a q v) := xwr_new h.1
theorem t_s_ge (h : ∀ i, i < C → t_s B n i < n) : ∀ j, j ≤ C → j ≤ t_s B n j
  | 0, _ => Nat.zero_le _
  | j + 1, hj => by
    have h1 := t_s_ge h j (by omega)
    have h2 := (t_s_le (B := B) (n := n) j).2.2.2 (h j (by omega))
    have h3 := t_s_mono (B := B) (n := n) j
    omega
theorem rst_lt {m : Nat → Nat → Int} (h : rst m B n C o j) (hj : j < C) : j < n := by
  have h1 := t_s_ge h.1.2.2.1 j (by omega)
  have h2 := h.1.2.2.1 j hj
  omega
variable (B n C sk sn F M c0 cs)
/-- a method of the reader's does what that mode does -/
def RD (md h : Int) (hp : Nat) (P : Int → Prop) (mi : Nat) (ls : List xAV) (o : Int) : Prop := ∀ (σ : xS) (j c : Nat) (f : Nat → Nat → Int), rst σ.1 B n C o j → ltc σ.1 σ.2.1 sk sn F M cs → 20 * (11 - o) + (hp : Int) ≤ (xdp σ : Int) → c + (C - j) < 3300 → c0 ≤ c → ∃ v τ, X mi 0 ls [] σ = some ((2, v), τ) ∧ RO B n C sk sn F (F + M) c0 md h P σ τ v o j c f
variable {B n C sk sn F M c0 cs}
theorem RO_dp {md h v : Int} {P : Int → Prop} (r : RO B n C sk sn F S c0 md h P (xsetdp σ (xdp σ - 1)) τ v o j c f) : RO B n C sk sn F S c0 md h P σ (xsetdp τ (xdp σ)) v o j c f := by
  rcases r with ⟨k, a, j', c', f', e, h1, h2⟩ | ⟨e, k, q, h1, h2⟩
  · exact Or.inl ⟨k, a, j', c', f', e, hg_dp h1, h2⟩
  · exact Or.inr ⟨e, k, q, hg_dp h1, h2⟩
theorem RD_call {md h : Int} {hp : Nat} {P : Int → Prop} {mi : Nat} {ls : List xAV} (R : RD B n C sk sn F M c0 cs md h hp P mi ls o) (h1 : rst σ.1 B n C o j) (hl : ltc σ.1 σ.2.1 sk sn F M cs) (hd : 20 * (11 - o) + (hp : Int) + 1 ≤ (xdp σ : Int)) (hc : c + (C - j) < 3300) (h0 : c0 ≤ c) (f : Nat → Nat → Int) : ∃ v τ, RO B n C sk sn F (F + M) c0 md h P σ (xsetdp τ (xdp σ)) v o j c f ∧ ∀ G : xAV × xS → Option (xAV × xS), (bif Nat.beq (xdp σ) 0 then none else (X mi 0 ls [] (xsetdp σ (xdp σ - 1))).bind G) = G ((2, v), τ) := by
  have h10 := h1.2.2.1.2
  obtain ⟨v, τ, k1, k2⟩ := R (xsetdp σ (xdp σ - 1)) j c f h1 hl (by show 20 * (11 - o) + (hp : Int) ≤ ((xdp σ - 1 : Nat) : Int); omega) hc h0
  exact ⟨v, τ, RO_dp k2, fun G => by rw [beq_ff (by omega), cnd_f, k1, Option.bind_some]⟩
end CAL
/-! chains that grow -/
section GRW
/-- the last part -/
def lst : Nat → List Nat → Nat
  | c, [] => c
  | _, c' :: L => lst c' L
theorem chS_snoc {sub sub' ok ok' : Nat → Nat → Prop} {m m' f f' : Nat → Nat → Int} {sk : Nat → Int} {F S n0 nh : Nat} (w : wfs f sk F S n0 nh) (hok : ∀ r c, ok r c → (2 ≤ f 0 r ∧ f 0 r < 7) ∨ (9 < f 0 r ∧ f 0 r ≠ 14)) {i i' b : Nat} (h1 : n0 ≤ i) (h2 : i < nh) (hz : ∀ c j, sub c j → c ≠ 0) (hf : ∀ j, n0 ≤ j → j ≤ i → f' 1 j = f 1 j ∧ f' 2 j = f 2 j) (hs : ∀ c j, n0 ≤ j → j < i → sub c j → sub' c j ∧ (m c 7 ≠ 0 → m' c 7 = m c 7)) (ho : ∀ r c, n0 ≤ r → r ≤ i → sub c (f 2 r).toNat → ok r c → ok' r c) (hb : f' 1 i' = (i : Int) ∧ 0 ≤ f' 2 i' ∧ ok' i' b ∧ sub' b (f' 2 i').toNat ∧ m' b 7 = 0) : ∀ {L : List Nat} {c r : Nat}, (m c 7 ≠ 0 → m' c 7 = m c 7) → m' (lst c L) 7 = (b : Int) → chS sub ok m f L c r i → chS sub' ok' m' f' (L ++ [b]) c r i'
  | [], c, r, _, hl, h => by
    obtain ⟨b1, b2, b3, b4, b5⟩ := hb
    exact ⟨hl, i', by rw [h.2]; exact b1, b2, b3, b4, b5, rfl⟩
  | c' :: L, c, r, hc, hl, h => by
    obtain ⟨e7, r', g1, g2, g3, g4, g5⟩ := h
    obtain ⟨k1, k2⟩ := chS_in w hok g5 h1 h2
    have w4 := (w r' k1 (by omega)).2.2.2.2.1 (hok _ _ g3)
    obtain ⟨s1, s2⟩ := hs _ _ w4.2.1 (by omega) g4
    have z := hz _ _ g4
    refine ⟨by rw [hc (by rw [e7]; omega)]; exact e7, r', by rw [(hf r' k1 k2).1]; exact g1, by rw [(hf r' k1 k2).2]; exact g2, ho _ _ k1 k2 g4 g3, by rw [(hf r' k1 k2).2]; exact s1, chS_snoc w hok h1 h2 hz hf hs ho hb s2 hl g5⟩
theorem lst_snoc {b : Nat} : ∀ {L : List Nat} {c : Nat}, lst c (L ++ [b]) = b
  | [], _ => rfl
  | _ :: L, _ => lst_snoc (L := L)
variable {f f' m m' : Nat → Nat → Int} {t t' : List (Nat × Nat)} {sk sn : Nat → Int} {F S N s p b lo hi hi' c j n0 nh : Nat}
/-- a part: its cells hold the last part p only if it is p -/
def sbi (P : Int → Prop) (f m : Nat → Nat → Int) (t : List (Nat × Nat)) (sk sn : Nat → Int) (F S N s p lo hi c j : Nat) : Prop := P (f 0 j) ∧ ∃ lo' hi', lo ≤ lo' ∧ hi' ≤ hi ∧ ¬ (lo' ≤ s ∧ s < hi') ∧ (lo' ≤ p ∧ p < hi' → c = p) ∧ rl f m t sk sn F S N lo' hi' c j
theorem sbi_nz {P : Int → Prop} (h : sbi P f m t sk sn F S N s p lo hi c j) : c ≠ 0 := by
  obtain ⟨_, lo', hi', _, _, _, _, a5⟩ := h
  have := (rl_nd a5).2.2.1
  omega
theorem sbi_step {P : Int → Prop} (w : wfs f sk F S n0 nh) (ht : ∀ x, nd t x → nd t' x) (hnam : ∀ x w, nam m t x w → nam m' t' x w) (hm : ∀ x, x < hi → nd t x → ∀ k, (x = p → k ≠ 7) → m' x k = m x k) (hf : ∀ q r, r ≤ j → q ≠ 4 → f' q r = f q r) (hf4 : ∀ r, r < j → f' 4 r = f 4 r) (hh : hi ≤ hi') (hb : hi ≤ b) (hp : m p 7 = 0) (h1 : n0 ≤ j) (h2 : j < nh) (h : sbi P f m t sk sn F S N s p lo hi c j) : sbi P f' m' t' sk sn F S N s b lo hi' c j ∧ (m c 7 ≠ 0 → m' c 7 = m c 7) ∧ m' c 5 = m c 5 := by
  obtain ⟨q, lo', hi1, a1, a2, a3, a4, a5⟩ := h
  obtain ⟨c1, c2, c3⟩ := rl_nd a5
  refine ⟨⟨by rw [hf 0 j (Nat.le_refl _) (by decide)]; exact q, lo', hi1, a1, by omega, a3, fun z => by omega, ?_⟩, fun z => hm c (by omega) c3 7 (fun e => absurd (by rw [e]; exact hp) z), hm c (by omega) c3 5 (fun _ => by decide)⟩
  refine rl_cg w ht (fun _ _ _ => ⟨rfl, rfl⟩) hnam N lo' hi1 c j h1 h2 (fun x k x1 x2 x3 x4 => hm x (by omega) x3 k fun e => ?_) (fun j' q1 q2 => ⟨fun q _ q4 => hf q j' (by omega) q4, fun q3 => hf4 j' q3⟩) a5
  have e2 := a4 ⟨by omega, by omega⟩
  exact (x4 (by omega)).2
theorem sbi_rl {P : Int → Prop} (h : sbi P f m t sk sn F S N s p lo hi c j) : P (f 0 j) ∧ ∃ lo' hi', lo ≤ lo' ∧ hi' ≤ hi ∧ ¬ (lo' ≤ s ∧ s < hi') ∧ rl f m t sk sn F S N lo' hi' c j := by
  obtain ⟨q, lo', hi1, a1, a2, a3, a4, a5⟩ := h
  exact ⟨q, lo', hi1, a1, a2, a3, a5⟩
/-- a part stands where nodes stand and rows up to it -/
theorem sbi_out {P : Int → Prop} (w : wfs f sk F S n0 nh) (ht : ∀ x, nd t x → nd t' x) (hnam : ∀ x w, nam m t x w → nam m' t' x w) (hm : ∀ x, nd t x → m' x = m x) (hf : ∀ q r, r ≤ j → f' q r = f q r) (hh : hi ≤ hi') (h1 : n0 ≤ j) (h2 : j < nh) (h : sbi P f m t sk sn F S N s p lo hi c j) : P (f' 0 j) ∧ ∃ lo' hi1, lo ≤ lo' ∧ hi1 ≤ hi' ∧ ¬ (lo' ≤ s ∧ s < hi1) ∧ rl f' m' t' sk sn F S N lo' hi1 c j := by
  obtain ⟨q, lo', hi1, a1, a2, a3, a4, a5⟩ := h
  refine ⟨by rw [hf 0 j (Nat.le_refl _)]; exact q, lo', hi1, a1, by omega, a3, ?_⟩
  exact rl_cg w ht (fun _ _ _ => ⟨rfl, rfl⟩) hnam N lo' hi1 c j h1 h2 (fun x k x1 x2 x3 x4 => by rw [hm x x3]) (fun j' q1 q2 => ⟨fun q _ _ => hf q j' q2, fun q3 => hf 4 j' (by omega)⟩) a5
end GRW

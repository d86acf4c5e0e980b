/-! growth of any kind; a new name -/
section GZ
variable {σ τ υ : xS} {k k' q q' : Nat}
/-- at most k cells of q slots came, nothing old changed but the reader's own -/
def gz (σ τ : xS) (k q : Nat) : Prop := (∃ L : List (Nat × Nat), τ.2.1 = σ.2.1 ++ L ∧ L.length ≤ k) ∧ τ.2.2.1 ≤ σ.2.2.1 + q ∧ τ.2.2.2 = σ.2.2.2 ∧ (∀ a, a ≠ 297 → a < nn σ → τ.1 a = σ.1 a) ∧ ∀ i, ¬ rsm i → τ.1 297 i = σ.1 297 i
theorem gz_nn (h : gz σ τ k q) : nn σ ≤ nn τ ∧ nn τ ≤ nn σ + k := by
  obtain ⟨⟨L, h1, h2⟩, _⟩ := h
  rw [nn_eq, nn_eq, h1, List.length_append]
  omega
theorem gz_hg (h : hg σ τ k) : gz σ τ k (8 * k) := ⟨⟨_, h.1, by rw [List.length_replicate]; exact Nat.le_refl _⟩, Nat.le_of_eq h.2.1, h.2.2.1, h.2.2.2.1, h.2.2.2.2⟩
theorem gz_rf (h : rf σ τ) : gz σ τ 0 0 := gz_hg (hg_rf h)
theorem gz_w (h : gz σ τ k q) (h1 : k ≤ k') (h2 : q ≤ q') : gz σ τ k' q' := by
  obtain ⟨⟨L, g1, g2⟩, g3, g4⟩ := h
  exact ⟨⟨L, g1, by omega⟩, by omega, g4⟩
theorem gz_tr (h : gz σ τ k q) (g : gz τ υ k' q') : gz σ υ (k + k') (q + q') := by
  have n1 := gz_nn h
  obtain ⟨⟨L, h1, h2⟩, h3, h4, h5, h6⟩ := h
  obtain ⟨⟨L', g1, g2⟩, g3, g4, g5, g6⟩ := g
  refine ⟨⟨L ++ L', by rw [g1, h1, List.append_assoc], by rw [List.length_append]; omega⟩, by omega, g4.trans h4, fun a ha hl => by rw [g5 a ha (by omega), h5 a ha hl], fun i hi => (g6 i hi).trans (h6 i hi)⟩
theorem gz_s (h : gz σ τ k q) {a : Nat} (ha : nn σ ≤ a) (i : Nat) (v : Int) : gz σ (xs τ a i v) k q := ⟨h.1, h.2.1, h.2.2.1, fun b hb hl => by rw [xs_ne (by omega), h.2.2.2.1 b hb hl], fun j hj => by rw [xs_ne (by have := nn_ge (σ := σ); omega), h.2.2.2.2 j hj]⟩
theorem gz_xdp (h : gz σ τ k q) : xdp τ = xdp σ := congrArg (fun z => z.1) h.2.2.1
theorem xnth_apl {α : Type} {y : α} (L : List α) : ∀ {l : List α} {i : Nat}, xnth l i = some y → xnth (l ++ L) i = some y
  | [], _, h => absurd h (by intro h; cases h)
  | _ :: _, 0, h => h
  | _ :: l, i + 1, h => xnth_apl L (l := l) (i := i) h
theorem gz_ty (h : gz σ τ k q) {a : Nat} {p : Nat × Nat} (ha : xnth σ.2.1 (a - 392) = some p) : xnth τ.2.1 (a - 392) = some p := by
  obtain ⟨⟨L, h1, _⟩, _⟩ := h
  rw [h1]
  exact xnth_apl L ha
theorem gz_ndk (h : gz σ τ k q) {a : Nat} (ha : nd σ.2.1 a) : nd τ.2.1 a ∧ τ.1 a = σ.1 a := ⟨⟨ha.1, gz_ty h ha.2⟩, h.2.2.2.1 a (by have := ha.1; omega) (ty_lt ha.1 ha.2)⟩
theorem gz_nam (h : gz σ τ k q) {x w : Int} (hx : nam σ.1 σ.2.1 x w) : nam τ.1 τ.2.1 x w := by
  obtain ⟨c, l, h1, ⟨s1, s2, s3, v, s4, s5, s6, s7⟩, h3, h4⟩ := hx
  have e1 := h.2.2.2.1 c (by omega) (ty_lt s1 s2)
  have e2 := h.2.2.2.1 v (by omega) (ty_lt s5 s6)
  exact ⟨c, l, h1, ⟨s1, gz_ty h s2, by rw [e1]; exact s3, v, by rw [e1]; exact s4, s5, gz_ty h s6, by rw [e2]; exact s7⟩, h3, h4⟩
theorem gz_ltc (h : gz σ τ k q) {sk sn : Nat → Int} {F M : Nat} {cs : Nat → Nat} (hl : ltc σ.1 σ.2.1 sk sn F M cs) : ltc τ.1 τ.2.1 sk sn F M cs := by
  refine ⟨by rw [h.2.2.2.2 11 (by unfold rsm; omega)]; exact hl.1, fun i hi => ?_⟩
  obtain ⟨d1, d2, d3, d4, d5⟩ := hl.2 i hi
  obtain ⟨e1, e2⟩ := gz_ndk h d1
  refine ⟨e1, by rw [e2]; exact d2, by rw [e2]; exact d3, d4, fun hs => ?_⟩
  rw [e2]
  exact ⟨(d5 hs).1, gz_nam h (d5 hs).2⟩
end GZ
section NNM
variable {σ τ υ : xS} {B : Nat → Int} {n C : Nat} {o : Int} {j : Nat} {sk sn : Nat → Int} {F M : Nat} {cs : Nat → Nat}
/-- letters of a text -/
def lts (B : Nat → Int) (s : Nat) : Nat → List Nat
  | 0 => []
  | k + 1 => lts B s k ++ [(B (s + k)).toNat]
theorem lts_len {s : Nat} : ∀ k, (lts B s k).length = k
  | 0 => rfl
  | k + 1 => by
    show (lts B s k ++ [_]).length = _
    rw [List.length_append, lts_len k]; rfl
theorem lts_wcd {s : Nat} : ∀ k, k ≤ 8 → (∀ i, i < k → 97 ≤ B (s + i) ∧ B (s + i) ≤ 122) → wcd (lts B s k) 0 = cdv B s k
  | 0, _, _ => rfl
  | k + 1, h, hb => by
    have h1 := hb k (Nat.lt_succ_self k)
    show wcd (lts B s k ++ [(B (s + k)).toNat]) 0 = if k < 8 then cdv B s k * 27 + (B (s + k) - 96) else -1
    rw [wcd_snoc, lts_wcd k (by omega) (fun i hi => hb i (by omega)), if_pos (by omega), Int.toNat_of_nonneg (by omega)]
theorem lts_mem {s : Nat} : ∀ k, (∀ i, i < k → 97 ≤ B (s + i) ∧ B (s + i) ≤ 122) → ∀ c ∈ lts B s k, 97 ≤ c ∧ c ≤ 122
  | 0, _, c, hc => absurd hc (by intro h; cases h)
  | k + 1, hb, c, hc => by
    have hc : c ∈ lts B s k ++ [(B (s + k)).toNat] := hc
    rcases List.mem_append.mp hc with h | h
    · exact lts_mem k (fun i hi => hb i (by omega)) c h
    · have e : c = (B (s + k)).toNat := List.mem_singleton.mp h
      have := hb k (Nat.lt_succ_self k)
      omega
/-- a name that may be told -/
def nmo (B : Nat → Int) (n : Nat) (sk sn : Nat → Int) (F M j : Nat) : Prop := t_c B n j = 2 ∧ t_k B n j = 0 ∧ t_e B n j - t_s B n j ≤ 8 ∧ lfi sk sn F (t_w B n j) M 0 = none
theorem C_nn_81 (hr : rst σ.1 B n C o j) {a b v : Nat} (hb : nn σ ≤ b) (hv : nn σ ≤ v) (ht : ∀ i, i < t_e B n j - t_s B n j → 97 ≤ B (t_s B n j + i) ∧ B (t_s B n j + i) ≤ 122) (h8 : t_e B n j - t_s B n j ≤ 8) (w2 : xAV) : ∀ (f i : Nat) (τ : xS), i + f = t_e B n j - t_s B n j → sbd τ.1 τ.2.1 b v 16 (lts B (t_s B n j) i) → (∀ x, x < nn σ → τ.1 x = σ.1 x) → ∃ υ, X iReader_readNewName 81 [(2, 297), (2, (a : Int)), w2, (2, (b : Int)), (0, ((t_s B n j + i : Nat) : Int))] [] τ = (X iJB_toString 0 [(2, (b : Int))] [] υ).bind (fun q3 => X iReader_readNewName 118 [(2, 297), (2, (a : Int)), w2, (2, (b : Int)), (0, ((t_e B n j : Nat) : Int))] [q3.1, (2, (a : Int))] q3.2) ∧ sbd υ.1 υ.2.1 b v 16 (lts B (t_s B n j) (t_e B n j - t_s B n j)) ∧ (∀ x, x < nn σ → υ.1 x = σ.1 x) ∧ υ.2 = τ.2 ∧ ∀ x, x ≠ b → x ≠ v → υ.1 x = τ.1 x := by
  have gn := nn_ge (σ := σ)
  obtain ⟨g1, g2, g3, g4⟩ := t_s_le (B := B) (n := n) j
  have hC := hr.1.2.1.1
  have hj := hr.2.1.1
  obtain ⟨z1, z2, _⟩ := hr.1.2.2.2 j hj
  have hB := hr.1.1
  intro f
  induction f with
  | zero =>
    intro i τ he hs hm
    have e7 : τ.1 297 = σ.1 297 := hm 297 (by omega)
    have e300 : τ.1 300 = σ.1 300 := hm 300 (by omega)
    have i1 := xisO_new hs.1.1 hs.1.2
    refine ⟨τ, ?_, by rw [← he]; exact hs, hm, rfl, fun _ _ _ => rfl⟩
    rw [qReader_readNewName_81, e7, e300, hr.2.1.2.1, if_pos (xin_of (by omega) (by omega)), Int.toNat_natCast, z2, if_neg (by omega), i1, cnd_t, show t_s B n j + i = t_e B n j by omega]
  | succ f ih =>
    intro i τ he hs hm
    have e7 : τ.1 297 = σ.1 297 := hm 297 (by omega)
    have e300 : τ.1 300 = σ.1 300 := hm 300 (by omega)
    have e304 : τ.1 304 = σ.1 304 := hm 304 (by omega)
    have i1 := xisO_new hs.1.1 hs.1.2
    have hbi := ht i (by omega)
    have h4 := hB.2.2.2 (t_s B n j + i) (by omega)
    have h400 := hB.2.2.1
    have ec : xna 3 (xag xE1 τ 304 (t_s B n j + i)) = (((B (t_s B n j + i)).toNat : Nat) : Int) := by
      have : xag xE1 τ 304 (t_s B n j + i) = τ.1 304 (t_s B n j + i) := rfl
      rw [this, e304]
      show σ.1 304 (t_s B n j + i) % 65536 = _
      omega
    have hl : (lts B (t_s B n j) i).length < 16 := by rw [lts_len]; omega
    have ha := sb_app hs (c := (B (t_s B n j + i)).toNat) (by omega) hl
    have hp := sb_put hs (c := (B (t_s B n j + i)).toNat) hl
    obtain ⟨υ, k1, k2, k3, k4, k5⟩ := ih (i + 1) _ (by omega) hp (fun x hx => by rw [xs_ne (by omega), xs_ne (by omega)]; exact hm x hx)
    refine ⟨υ, ?_, k2, k3, k4, fun x x1 x2 => by rw [k5 x x1 x2, xs_ne x2, xs_ne x1]⟩
    rw [qReader_readNewName_81, e7, e300, hr.2.1.2.1, if_pos (xin_of (by omega) (by omega)), Int.toNat_natCast, z2, if_pos (by omega), hB.1, x304, xob_some, if_pos (xin_of (by omega) (by omega)), i1, cnd_t, Int.toNat_natCast, ec, ha, Option.bind_some, qReader_readNewName_106, xw_t (by omega)]
    exact k1
end NNM

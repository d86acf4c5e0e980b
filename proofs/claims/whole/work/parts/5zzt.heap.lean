/-! what the reader's recursion keeps -/
section HGR
variable {σ τ υ : xS} {B : Nat → Int} {n C : Nat} {o : Int} {j k k' : Nat}
/-- k nodes came, nothing old changed but the reader's own -/
def hg (σ τ : xS) (k : Nat) : Prop := τ.2.1 = σ.2.1 ++ List.replicate k (7, 8) ∧ τ.2.2.1 = σ.2.2.1 + 8 * k ∧ τ.2.2.2 = σ.2.2.2 ∧ (∀ a, a ≠ 297 → a < nn σ → τ.1 a = σ.1 a) ∧ ∀ i, ¬ rsm i → τ.1 297 i = σ.1 297 i
theorem hg_nn (h : hg σ τ k) : nn τ = nn σ + k := by
  rw [nn_eq, nn_eq, h.1, List.length_append, List.length_replicate]
  omega
theorem hg_rf (h : rf σ τ) : hg σ τ 0 := by
  refine ⟨?_, by rw [h.1]; rfl, by rw [h.1], fun a ha _ => h.2.1 a ha, h.2.2⟩
  rw [h.1]
  exact (List.append_nil _).symm
theorem hg_tr (h : hg σ τ k) (g : hg τ υ k') : hg σ υ (k + k') := by
  refine ⟨?_, by rw [g.2.1, h.2.1]; omega, g.2.2.1.trans h.2.2.1, fun a ha hl => ?_, fun i hi => (g.2.2.2.2 i hi).trans (h.2.2.2.2 i hi)⟩
  · rw [g.1, h.1, List.append_assoc, List.replicate_append_replicate]
  · rw [g.2.2.2.1 a ha (by rw [hg_nn h]; omega), h.2.2.2.1 a ha hl]
theorem hg_nd (q : Int) : hg σ (nnd σ q) 1 := ⟨rfl, rfl, rfl, fun a _ hl => nnd_m (by omega), fun i _ => by rw [nnd_m (by have := nn_ge (σ := σ); omega)]⟩
theorem hg_s (h : hg σ τ k) {a : Nat} (ha : nn σ ≤ a) (q : Nat) (v : Int) : hg σ (xs τ a q v) k := ⟨h.1, h.2.1, h.2.2.1, fun b hb hl => by rw [xs_ne (by omega), h.2.2.2.1 b hb hl], fun i hi => by rw [xs_ne (by have := nn_ge (σ := σ); omega), h.2.2.2.2 i hi]⟩
theorem hg_dp (h : hg (xsetdp σ (xdp σ - 1)) τ k) : hg σ (xsetdp τ (xdp σ)) k := by
  obtain ⟨h1, h2, h3, h4, h5⟩ := h
  refine ⟨h1, h2, ?_, h4, h5⟩
  show (xdp σ, τ.2.2.2.2) = σ.2.2.2
  have e : τ.2.2.2.2 = σ.2.2.2.2 := congrArg (fun z => z.2) h3
  rw [e]
  rfl
theorem hg_xdp (h : hg σ τ k) : xdp τ = xdp σ := congrArg (fun z => z.1) h.2.2.1
theorem rst_cg {m m' : Nat → Nat → Int} (h : rst m B n C o j) (e : ∀ a, a < 305 → m' a = m a) : rst m' B n C o j := by
  obtain ⟨⟨h1, h2⟩, h3, h4, h5⟩ := h
  refine ⟨⟨?_, h2.1, h2.2.1, fun i hi => ?_⟩, ?_, ?_, ?_⟩
  · unfold rdr
    rw [e 297 (by decide), e 304 (by decide)]
    exact h1
  · unfold tka
    rw [e 299 (by decide), e 300 (by decide), e 301 (by decide), e 302 (by decide), e 303 (by decide)]
    exact h2.2.2 i hi
  · rw [e 297 (by decide)]; exact h3
  · rw [e 297 (by decide)]; exact h4
  · rw [e 297 (by decide)]; exact h5
theorem rft_cg {m m' : Nat → Nat → Int} (h : rft m B n k) (e : m' 297 = m 297) : rft m' B n k := by
  unfold rft
  rw [e]
  exact h
/-- an old cell's kind stands -/
theorem hg_ty (h : hg σ τ k) {a : Nat} {p : Nat × Nat} (ha : xnth σ.2.1 (a - 392) = some p) : xnth τ.2.1 (a - 392) = some p := by
  rw [h.1]
  have : ∀ (L l : List (Nat × Nat)) (i : Nat), xnth l i = some p → xnth (l ++ L) i = some p := by
    intro L l
    induction l with
    | nil => intro i hi; exact absurd hi (by intro hi; cases hi)
    | cons x l ih =>
      intro i hi
      cases i with
      | zero => exact hi
      | succ i => exact ih i hi
  exact this _ _ _ ha
theorem ty_lt {a : Nat} {p : Nat × Nat} (h : 392 ≤ a) (ha : xnth σ.2.1 (a - 392) = some p) : a < nn σ := by
  have := xnth_lt ha
  rw [nn_eq]
  omega
theorem hg_ndk (h : hg σ τ k) {a : Nat} (ha : nd σ.2.1 a) : nd τ.2.1 a ∧ τ.1 a = σ.1 a := ⟨⟨ha.1, hg_ty h ha.2⟩, h.2.2.2.1 a (by have := ha.1; omega) (ty_lt ha.1 ha.2)⟩
theorem hg_nam (h : hg σ τ k) {x w : Int} (hx : nam σ.1 σ.2.1 x w) : nam τ.1 τ.2.1 x w := by
  obtain ⟨c, l, h1, ⟨s1, s2, s3, v, s4, s5, s6, s7⟩, h3, h4⟩ := hx
  have e1 := h.2.2.2.1 c (by omega) (ty_lt s1 s2)
  have e2 := h.2.2.2.1 v (by omega) (ty_lt s5 s6)
  exact ⟨c, l, h1, ⟨s1, hg_ty h s2, by rw [e1]; exact s3, v, by rw [e1]; exact s4, s5, hg_ty h s6, by rw [e2]; exact s7⟩, h3, h4⟩
theorem hg_ltc (h : hg σ τ k) {sk sn : Nat → Int} {F M : Nat} {cs : Nat → Nat} (hl : ltc σ.1 σ.2.1 sk sn F M cs) : ltc τ.1 τ.2.1 sk sn F M cs := by
  refine ⟨by rw [h.2.2.2.2 11 (by unfold rsm; omega)]; exact hl.1, fun i hi => ?_⟩
  obtain ⟨d1, d2, d3, d4, d5⟩ := hl.2 i hi
  obtain ⟨e1, e2⟩ := hg_ndk h d1
  refine ⟨e1, by rw [e2]; exact d2, by rw [e2]; exact d3, d4, fun hs => ?_⟩
  rw [e2]
  exact ⟨(d5 hs).1, hg_nam h (d5 hs).2⟩
end HGR

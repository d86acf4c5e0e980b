/-! rows that stand; what a read gives -/
section RWS
variable {f f' : Nat → Nat → Int} {sk : Nat → Int} {F S lo lo' hi mid i : Nat}
theorem chw_cg (h4 : ∀ r, lo ≤ r → r < i → f' 4 r = f 4 r) : ∀ {c : Nat} {j : Int}, chw f lo i c j → chw f' lo i c j
  | 0, _, h => h
  | c + 1, j, h => h.elim (fun q => Or.inl q) fun ⟨q1, q2⟩ => Or.inr ⟨q1, by rw [h4 _ q1.1 q1.2]; exact chw_cg h4 q2⟩
theorem chw_lo (hl : lo' ≤ lo) : ∀ {c : Nat} {j : Int}, chw f lo i c j → chw f lo' i c j
  | 0, _, h => h
  | c + 1, j, h => h.elim (fun q => Or.inl q) fun ⟨q1, q2⟩ => Or.inr ⟨⟨Nat.le_trans hl q1.1, q1.2⟩, chw_lo hl q2⟩
theorem wfr_cg (h : ∀ q, q ≤ 5 → q ≠ 4 → f' q i = f q i) (h4 : ∀ r, lo ≤ r → r < i → f' 4 r = f 4 r) (w : wfr f sk F S lo i) : wfr f' sk F S lo i := by
  obtain ⟨w0, w1, w2, w3, w4, w5, w6⟩ := w
  unfold wfr
  rw [h 0 (by decide) (by decide), h 1 (by decide) (by decide), h 2 (by decide) (by decide), h 3 (by decide) (by decide), h 5 (by decide) (by decide)]
  refine ⟨w0, w1, w2, w3, w4, w5, fun q => ?_⟩
  have := w3 (by omega)
  rw [h4 _ this.2.1 this.2.2]
  exact chw_cg h4 (w6 q)
theorem wfr_lo (hl : lo' ≤ lo) (w : wfr f sk F S lo i) : wfr f sk F S lo' i := by
  obtain ⟨w0, w1, w2, w3, w4, w5, w6⟩ := w
  exact ⟨w0, w1, w2, fun q => ⟨(w3 q).1, Nat.le_trans hl (w3 q).2.1, (w3 q).2.2⟩, fun q => ⟨(w4 q).1, Nat.le_trans hl (w4 q).2.1, (w4 q).2.2⟩, fun q => ⟨(w5 q).1, Nat.le_trans hl (w5 q).2.1, (w5 q).2.2⟩, fun q => chw_lo hl (w6 q)⟩
theorem wfs_lo (hl : lo' ≤ lo) (w : wfs f sk F S lo hi) : ∀ i, lo ≤ i → i < hi → wfr f sk F S lo' i := fun i h1 h2 => wfr_lo hl (w i h1 h2)
/-- rows below hi stand when what is above changes -/
theorem wfs_cg (h : ∀ q r, q ≤ 5 → r < hi → f' q r = f q r) (w : wfs f sk F S lo hi) : wfs f' sk F S lo hi := fun i h1 h2 => wfr_cg (fun q hq _ => h q i hq h2) (fun r _ hr => h 4 r (by decide) (by omega)) (w i h1 h2)
theorem wfs_snoc (w : wfs f sk F S lo hi) (w1 : wfr f sk F S lo hi) : wfs f sk F S lo (hi + 1) := fun i h1 h2 => by
  by_cases e : i = hi
  · rw [e]; exact w1
  · exact w i h1 (by omega)
theorem wfs_app (w : wfs f sk F S lo mid) (w1 : wfs f sk F S mid hi) (h : lo ≤ mid) : wfs f sk F S lo hi := fun i h1 h2 => by
  by_cases e : i < mid
  · exact w i h1 e
  · exact wfr_lo h (w1 i (by omega) h2)
theorem nwr_lo {c : Nat} {k a b d v : Int} {q r : Nat} (hr : r ≠ c) : nwr f c k a b d v q r = f q r := by
  unfold nwr
  by_cases h0 : q = 0
  · rw [if_pos h0, xup_ne hr, h0]
  by_cases h1 : q = 1
  · rw [if_neg h0, if_pos h1, xup_ne hr, h1]
  by_cases h2 : q = 2
  · rw [if_neg h0, if_neg h1, if_pos h2, xup_ne hr, h2]
  by_cases h3 : q = 3
  · rw [if_neg h0, if_neg h1, if_neg h2, if_pos h3, xup_ne hr, h3]
  by_cases h4 : q = 4
  · rw [if_neg h0, if_neg h1, if_neg h2, if_neg h3, if_pos h4, xup_ne hr, h4]
  by_cases h5 : q = 5
  · rw [if_neg h0, if_neg h1, if_neg h2, if_neg h3, if_neg h4, if_pos h5, xup_ne hr, h5]
  · rw [if_neg h0, if_neg h1, if_neg h2, if_neg h3, if_neg h4, if_neg h5]
theorem nwr_at {c : Nat} {k a b d v : Int} : nwr f c k a b d v 0 c = k ∧ nwr f c k a b d v 1 c = a ∧ nwr f c k a b d v 2 c = b ∧ nwr f c k a b d v 3 c = d ∧ nwr f c k a b d v 4 c = -1 ∧ nwr f c k a b d v 5 c = v := ⟨xup_eq, xup_eq, xup_eq, xup_eq, xup_eq, xup_eq⟩
theorem nxr_ne {p : Nat} {v : Int} {q r : Nat} (h : q = 4 → r ≠ p) : nxr f p v q r = f q r := by
  unfold nxr
  by_cases h4 : q = 4
  · rw [if_pos h4, xup_ne (h h4), h4]
  · rw [if_neg h4]
theorem nxr_at {p : Nat} {v : Int} : nxr f p v 4 p = v := xup_eq
variable (B : Nat → Int) (n C : Nat) (sk sn : Nat → Int) (F S c0 : Nat)
/-- what a read at token j, o open, rows from c on, gives -/
def RO (md h : Int) (P : Int → Prop) (σ τ : xS) (v o : Int) (j c : Nat) (f : Nat → Nat → Int) : Prop :=
  (∃ (k a j' c' : Nat) (f' : Nat → Nat → Int), v = (a : Int) ∧ hg σ τ k ∧ rst τ.1 B n C o j' ∧ (j < j' ∧ c < c' ∧ c' + j ≤ c + j' ∧ k + j ≤ j' ∧ wl f' (lwd sn F) (c' - 1) + 3 * ptk B n j ≤ 3 * ptk B n j') ∧ (∀ q r, r < c → f' q r = f q r) ∧ wfs f' sk F S c c' ∧ (P (f' 0 (c' - 1)) ∧ f' 4 (c' - 1) = -1) ∧ τ.1 a 7 = 0 ∧ (∀ N, c' - c ≤ N → rl f' τ.1 τ.2.1 sk sn F S N (nn σ) (nn τ) a (c' - 1)) ∧ ∀ g K, ((List.length K : Nat) : Int) + 10 * (11 - o) + h ≤ 490 → GO B n sk sn F S c0 (-1, o, j, c, f, g, (md, 0, -1, -1, 0) :: K) (-1, o, j', c', f', ((c' - 1 : Nat) : Int), K)) ∨
  (v = 0 ∧ ∃ (k q : Nat), hg σ τ k ∧ rft τ.1 B n q ∧ (j ≤ q ∧ q ≤ C ∧ k + j ≤ q) ∧ ∀ g K, ((List.length K : Nat) : Int) + 10 * (11 - o) + h ≤ 490 → BAD B n sk sn F S c0 (-1, o, j, c, f, g, (md, 0, -1, -1, 0) :: K) q)
end RWS

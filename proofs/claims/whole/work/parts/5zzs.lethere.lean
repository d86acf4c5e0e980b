/-! the let ahead of that name -/
section LET
variable {σ τ υ : xS} {B : Nat → Int} {n C : Nat} {o : Int} {j : Nat}
theorem wcd_snoc (c : Nat) : ∀ (l : List Nat) (v : Int), wcd (l ++ [c]) v = wcd l v * 27 + ((c : Int) - 96)
  | [], _ => rfl
  | d :: l, v => wcd_snoc c l (v * 27 + ((d : Int) - 96))
theorem cdn_cg {l l' : List Nat} : ∀ {k : Nat}, (∀ i, i < k → l.getD i 0 = l'.getD i 0) → cdn l k = cdn l' k
  | 0, _ => rfl
  | k + 1, h => by
    show cdn l k * 27 + (((l.getD k 0 : Nat) : Int) - 96) = cdn l' k * 27 + (((l'.getD k 0 : Nat) : Int) - 96)
    rw [cdn_cg fun i hi => h i (Nat.lt_succ_of_lt hi), h k (Nat.lt_succ_self k)]
theorem wcd_cdn (l : List Nat) : wcd l 0 = cdn l l.length := by
  induction l using snocRec with
  | nil => rfl
  | append_singleton l a ih =>
    rw [wcd_snoc, ih, List.length_append]
    show _ = cdn (l ++ [a]) l.length * 27 + ((((l ++ [a]).getD l.length 0 : Nat) : Int) - 96)
    have e1 : (l ++ [a]).getD l.length 0 = a := by simp
    have e2 : cdn (l ++ [a]) l.length = cdn l l.length := cdn_cg fun i hi => by simp [List.getElem?_append_left hi]
    rw [e1, e2]
theorem wlt_d {l : List Nat} (h : wlt l) : ∀ i, i < l.length → 97 ≤ l.getD i 0 ∧ l.getD i 0 ≤ 122 := fun i hi => by
  have := h.2 (l.getD i 0) (by
    rw [List.getD_eq_getElem?_getD, List.getElem?_eq_getElem hi]
    exact List.getElem_mem hi)
  exact this
theorem swd_sto {a : Nat} {l : List Nat} (h : sto σ.1 σ.2.1 a l) (hl : wlt l) : swd σ (a : Int) l := by
  obtain ⟨h1, h2, h3, v, h4, h5, h6, h7⟩ := h
  refine ⟨xisO_new h1 h2, ⟨(v : Int), by rw [xfld_new 0 h1 h2, h4], xlen_new (t := 2) h5 h6 (by decide), xarr_new (t := 2) h5 h6, fun i hi => by rw [xag_new h5]; exact h7 i hi⟩, by rw [xfld_new 1 h1 h2, h3], hl.1.2, fun c hc => by have := hl.2 c hc; omega⟩
/-- statements told so far: M from F on, nodes cs -/
def ltc (m : Nat → Nat → Int) (t : List (Nat × Nat)) (sk sn : Nat → Int) (F M : Nat) (cs : Nat → Nat) : Prop := m 297 11 = cn cs M 0 ∧ ∀ i, i < M → nd t (cs i) ∧ m (cs i) 7 = cn cs M (i + 1) ∧ m (cs i) 0 = 2 + sk (F + i) ∧ (0 ≤ sk (F + i) ∧ sk (F + i) ≤ 6) ∧ (sk (F + i) = 0 → m (cs i) 1 = (lkc sk F i : Int) ∧ nam m t (m (cs i) 4) (sn (F + i)))
/-- the first let of that number -/
def lfi (sk sn : Nat → Int) (F : Nat) (w : Int) : Nat → Nat → Option Nat
  | 0, _ => none
  | f + 1, i => if sk (F + i) = 0 ∧ sn (F + i) = w then some i else lfi sk sn F w f (i + 1)
theorem lfi_wlk {sk sn : Nat → Int} {F : Nat} {w : Int} : ∀ (f i : Nat), wlk sk sn F w f (F + i) = match lfi sk sn F w f i with | none => -1 | some q => ((10 + q : Nat) : Int)
  | 0, _ => rfl
  | f + 1, i => by
    show (if sk (F + i) = 0 ∧ sn (F + i) = w then ((10 + (F + i) - F : Nat) : Int) else wlk sk sn F w f (F + i + 1)) = match (if sk (F + i) = 0 ∧ sn (F + i) = w then some i else lfi sk sn F w f (i + 1)) with | none => -1 | some q => ((10 + q : Nat) : Int)
    by_cases c : sk (F + i) = 0 ∧ sn (F + i) = w
    · rw [if_pos c, if_pos c]
      show ((10 + (F + i) - F : Nat) : Int) = ((10 + i : Nat) : Int)
      omega
    · rw [if_neg c, if_neg c]
      exact lfi_wlk f (i + 1)
theorem lfi_some {sk sn : Nat → Int} {F : Nat} {w : Int} : ∀ {f i q : Nat}, lfi sk sn F w f i = some q → i ≤ q ∧ q < i + f ∧ sk (F + q) = 0 ∧ sn (F + q) = w
  | 0, _, _, h => absurd h (by intro h; cases h)
  | f + 1, i, q, h => by
    have h : (if sk (F + i) = 0 ∧ sn (F + i) = w then some i else lfi sk sn F w f (i + 1)) = some q := h
    by_cases c : sk (F + i) = 0 ∧ sn (F + i) = w
    · rw [if_pos c] at h
      have : i = q := Option.some.inj h
      subst this
      exact ⟨Nat.le_refl i, by omega, c⟩
    · rw [if_neg c] at h
      have := lfi_some h
      exact ⟨by omega, by omega, this.2.2⟩
/-- the node of what was found -/
def lno (cs : Nat → Nat) : Option Nat → Int
  | none => 0
  | some q => (cs q : Int)
variable {sk sn : Nat → Int} {F M : Nat} {cs : Nat → Nat}
theorem C_letHere_5 (h : rst σ.1 B n C o j) (hl : ltc σ.1 σ.2.1 sk sn F M cs) (ht : t_c B n j = 2) : ∀ (f i : Nat), i + f = M → X iReader_letHere 5 [(2, 297), (2, cn cs M i)] [] σ = some ((2, lno cs (lfi sk sn F (t_w B n j) f i)), σ)
  | 0, i, e => by
    rw [cn_ge (by omega), qReader_letHere_5, if_pos rfl]
    rfl
  | f + 1, i, e => by
    have ih := C_letHere_5 h hl ht f (i + 1) (by omega)
    obtain ⟨d1, d2, d3, d4, d5⟩ := hl.2 i (by omega)
    have hC := h.1.2.1.1
    have hj := h.2.1.1
    obtain ⟨k1, k2, _⟩ := h.1.2.2.2 j hj
    obtain ⟨u1, u2, u3⟩ := t_let2 ht
    obtain ⟨g1, g2, g3, g4⟩ := t_s_le (B := B) (n := n) j
    have hge := d1.1
    have e0 : ¬ ((cs i : Nat) : Int) = 0 := by omega
    have ex : xcm (2 + sk (F + i)) = true := by
      have := xcm_q (sk (F + i)).toNat (by omega)
      rw [show ((2 + (sk (F + i)).toNat : Nat) : Int) = 2 + sk (F + i) by omega] at this
      exact this
    rw [cn_lt (by omega), qReader_letHere_5, if_neg e0, nd_f d1 0, xob_some, d3, ex, show xcm 2 = true from rfl, Bool.and_true, cnd_t, nd_f d1 7, nd_f d1 4, xob_some, xob_some, d2, ih]
    show _ = some ((2, lno cs (if sk (F + i) = 0 ∧ sn (F + i) = t_w B n j then some i else lfi sk sn F (t_w B n j) f (i + 1))), σ)
    by_cases c : sk (F + i) = 0
    · obtain ⟨_, x, l, x1, x2, x3, x4⟩ := d5 c
      rw [if_pos (show (2 : Int) + sk (F + i) = 2 by omega), x1, h.2.1.2.1, C_isWritten (swd_sto x2 x3) h.1.1 (by omega) k1 k2 g2 g3, Option.bind_some, qReader_letHere_31, nd_f d1 7, xob_some, d2, ih]
      have hw := wis_cd (B := B) (s := t_s B n j) (k := t_e B n j - t_s B n j) x3.1.2 (wlt_d x3) u3
      rw [← wcd_cdn, x4] at hw
      by_cases c2 : wis l B (t_s B n j) (t_e B n j - t_s B n j) = 0
      · rw [if_pos c2, if_neg (fun q => by
          have := hw.mpr q.2.symm
          omega)]
      · have c3 : wis l B (t_s B n j) (t_e B n j - t_s B n j) = 1 := (wis_01 (l := l)).elim (fun q => absurd q c2) (fun q => q)
        rw [if_neg c2, if_pos ⟨c, (hw.mp c3).symm⟩]
        rfl
    · rw [if_neg (show ¬ (2 : Int) + sk (F + i) = 2 by omega), if_neg (fun q => c q.1)]
theorem C_letHere (h : rst σ.1 B n C o j) (hl : ltc σ.1 σ.2.1 sk sn F M cs) (ht : t_c B n j = 2) : X iReader_letHere 0 [(2, 297), (9, 0)] [] σ = some ((2, lno cs (lfi sk sn F (t_w B n j) M 0)), σ) := by
  rw [qReader_letHere_0, hl.1]
  exact C_letHere_5 h hl ht M 0 (by omega)
end LET

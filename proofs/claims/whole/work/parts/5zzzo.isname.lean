/-! which letters may be a name, on the reference's side; a let's head -/
section NMR
variable {B : Nat → Int} {n C : Nat} {A : Nat → Nat → Int} {F M S : Nat} {σ τ υ : xS} {e : Int} {j c c0 : Nat} {f : Nat → Nat → Int} {sk sn : Nat → Int}
theorem isn_no (v : Int) (w0 : xAV) (h : v = 8903 ∨ v = 8863997 ∨ v = 247663 ∨ v = 4562600 ∨ v = 12531826 ∨ v = 326280 ∨ v = 261338243 ∨ v = 3288323 ∨ v = 555 ∨ v = 79 ∨ v = 9744 ∨ v = 459818 ∨ v = 161156 ∨ v = 4797 ∨ v = 249 ∨ v = 399641 ∨ v = 107681 ∨ v = 9734 ∨ v = 9528 ∨ v = 423 ∨ v = 1111 ∨ v = 10631) : X iM_isName 11 [w0, (1, v), (8, 0)] [(0, -1)] σ = some ((0, 0), σ) := by
  rw [qM_isName_11, if_pos (show (-1 : Int) < 0 by decide)]
  rcases h with h | h | h | h | h | h | h | h | h | h | h | h | h | h | h | h | h | h | h | h | h | h
  · subst h; rw [if_pos (show (8903 : Int) = 8903 from rfl)]
  · subst h; rw [if_neg (show ¬ (8863997 : Int) = 8903 by decide), if_pos (show (8863997 : Int) = 8863997 from rfl)]
  · subst h; rw [if_neg (show ¬ (247663 : Int) = 8903 by decide), if_neg (show ¬ (247663 : Int) = 8863997 by decide), if_pos (show (247663 : Int) = 247663 from rfl)]
  · subst h; rw [if_neg (show ¬ (4562600 : Int) = 8903 by decide), if_neg (show ¬ (4562600 : Int) = 8863997 by decide), if_neg (show ¬ (4562600 : Int) = 247663 by decide), if_pos (show (4562600 : Int) = 4562600 from rfl)]
  · subst h; rw [if_neg (show ¬ (12531826 : Int) = 8903 by decide), if_neg (show ¬ (12531826 : Int) = 8863997 by decide), if_neg (show ¬ (12531826 : Int) = 247663 by decide), if_neg (show ¬ (12531826 : Int) = 4562600 by decide), if_pos (show (12531826 : Int) = 12531826 from rfl)]
  · subst h; rw [if_neg (show ¬ (326280 : Int) = 8903 by decide), if_neg (show ¬ (326280 : Int) = 8863997 by decide), if_neg (show ¬ (326280 : Int) = 247663 by decide), if_neg (show ¬ (326280 : Int) = 4562600 by decide), if_neg (show ¬ (326280 : Int) = 12531826 by decide), if_pos (show (326280 : Int) = 326280 from rfl)]
  · subst h; rw [if_neg (show ¬ (261338243 : Int) = 8903 by decide), if_neg (show ¬ (261338243 : Int) = 8863997 by decide), if_neg (show ¬ (261338243 : Int) = 247663 by decide), if_neg (show ¬ (261338243 : Int) = 4562600 by decide), if_neg (show ¬ (261338243 : Int) = 12531826 by decide), if_neg (show ¬ (261338243 : Int) = 326280 by decide), if_pos (show (261338243 : Int) = 261338243 from rfl)]
  · subst h; rw [if_neg (show ¬ (3288323 : Int) = 8903 by decide), if_neg (show ¬ (3288323 : Int) = 8863997 by decide), if_neg (show ¬ (3288323 : Int) = 247663 by decide), if_neg (show ¬ (3288323 : Int) = 4562600 by decide), if_neg (show ¬ (3288323 : Int) = 12531826 by decide), if_neg (show ¬ (3288323 : Int) = 326280 by decide), if_neg (show ¬ (3288323 : Int) = 261338243 by decide), if_pos (show (3288323 : Int) = 3288323 from rfl)]
  · subst h; rw [if_neg (show ¬ (555 : Int) = 8903 by decide), if_neg (show ¬ (555 : Int) = 8863997 by decide), if_neg (show ¬ (555 : Int) = 247663 by decide), if_neg (show ¬ (555 : Int) = 4562600 by decide), if_neg (show ¬ (555 : Int) = 12531826 by decide), if_neg (show ¬ (555 : Int) = 326280 by decide), if_neg (show ¬ (555 : Int) = 261338243 by decide), if_neg (show ¬ (555 : Int) = 3288323 by decide), if_pos (show (555 : Int) = 555 from rfl)]
  · subst h; rw [if_neg (show ¬ (79 : Int) = 8903 by decide), if_neg (show ¬ (79 : Int) = 8863997 by decide), if_neg (show ¬ (79 : Int) = 247663 by decide), if_neg (show ¬ (79 : Int) = 4562600 by decide), if_neg (show ¬ (79 : Int) = 12531826 by decide), if_neg (show ¬ (79 : Int) = 326280 by decide), if_neg (show ¬ (79 : Int) = 261338243 by decide), if_neg (show ¬ (79 : Int) = 3288323 by decide), if_neg (show ¬ (79 : Int) = 555 by decide), if_pos (show (79 : Int) = 79 from rfl)]
  · subst h; rw [if_neg (show ¬ (9744 : Int) = 8903 by decide), if_neg (show ¬ (9744 : Int) = 8863997 by decide), if_neg (show ¬ (9744 : Int) = 247663 by decide), if_neg (show ¬ (9744 : Int) = 4562600 by decide), if_neg (show ¬ (9744 : Int) = 12531826 by decide), if_neg (show ¬ (9744 : Int) = 326280 by decide), if_neg (show ¬ (9744 : Int) = 261338243 by decide), if_neg (show ¬ (9744 : Int) = 3288323 by decide), if_neg (show ¬ (9744 : Int) = 555 by decide), if_neg (show ¬ (9744 : Int) = 79 by decide), if_pos (show (9744 : Int) = 9744 from rfl)]
  · subst h; rw [if_neg (show ¬ (459818 : Int) = 8903 by decide), if_neg (show ¬ (459818 : Int) = 8863997 by decide), if_neg (show ¬ (459818 : Int) = 247663 by decide), if_neg (show ¬ (459818 : Int) = 4562600 by decide), if_neg (show ¬ (459818 : Int) = 12531826 by decide), if_neg (show ¬ (459818 : Int) = 326280 by decide), if_neg (show ¬ (459818 : Int) = 261338243 by decide), if_neg (show ¬ (459818 : Int) = 3288323 by decide), if_neg (show ¬ (459818 : Int) = 555 by decide), if_neg (show ¬ (459818 : Int) = 79 by decide), if_neg (show ¬ (459818 : Int) = 9744 by decide), if_pos (show (459818 : Int) = 459818 from rfl)]
  · subst h; rw [if_neg (show ¬ (161156 : Int) = 8903 by decide), if_neg (show ¬ (161156 : Int) = 8863997 by decide), if_neg (show ¬ (161156 : Int) = 247663 by decide), if_neg (show ¬ (161156 : Int) = 4562600 by decide), if_neg (show ¬ (161156 : Int) = 12531826 by decide), if_neg (show ¬ (161156 : Int) = 326280 by decide), if_neg (show ¬ (161156 : Int) = 261338243 by decide), if_neg (show ¬ (161156 : Int) = 3288323 by decide), if_neg (show ¬ (161156 : Int) = 555 by decide), if_neg (show ¬ (161156 : Int) = 79 by decide), if_neg (show ¬ (161156 : Int) = 9744 by decide), if_neg (show ¬ (161156 : Int) = 459818 by decide), if_pos (show (161156 : Int) = 161156 from rfl)]
  · subst h; rw [if_neg (show ¬ (4797 : Int) = 8903 by decide), if_neg (show ¬ (4797 : Int) = 8863997 by decide), if_neg (show ¬ (4797 : Int) = 247663 by decide), if_neg (show ¬ (4797 : Int) = 4562600 by decide), if_neg (show ¬ (4797 : Int) = 12531826 by decide), if_neg (show ¬ (4797 : Int) = 326280 by decide), if_neg (show ¬ (4797 : Int) = 261338243 by decide), if_neg (show ¬ (4797 : Int) = 3288323 by decide), if_neg (show ¬ (4797 : Int) = 555 by decide), if_neg (show ¬ (4797 : Int) = 79 by decide), if_neg (show ¬ (4797 : Int) = 9744 by decide), if_neg (show ¬ (4797 : Int) = 459818 by decide), if_neg (show ¬ (4797 : Int) = 161156 by decide), if_pos (show (4797 : Int) = 4797 from rfl)]
  · subst h; rw [if_neg (show ¬ (249 : Int) = 8903 by decide), if_neg (show ¬ (249 : Int) = 8863997 by decide), if_neg (show ¬ (249 : Int) = 247663 by decide), if_neg (show ¬ (249 : Int) = 4562600 by decide), if_neg (show ¬ (249 : Int) = 12531826 by decide), if_neg (show ¬ (249 : Int) = 326280 by decide), if_neg (show ¬ (249 : Int) = 261338243 by decide), if_neg (show ¬ (249 : Int) = 3288323 by decide), if_neg (show ¬ (249 : Int) = 555 by decide), if_neg (show ¬ (249 : Int) = 79 by decide), if_neg (show ¬ (249 : Int) = 9744 by decide), if_neg (show ¬ (249 : Int) = 459818 by decide), if_neg (show ¬ (249 : Int) = 161156 by decide), if_neg (show ¬ (249 : Int) = 4797 by decide), if_pos (show (249 : Int) = 249 from rfl)]
  · subst h; rw [if_neg (show ¬ (399641 : Int) = 8903 by decide), if_neg (show ¬ (399641 : Int) = 8863997 by decide), if_neg (show ¬ (399641 : Int) = 247663 by decide), if_neg (show ¬ (399641 : Int) = 4562600 by decide), if_neg (show ¬ (399641 : Int) = 12531826 by decide), if_neg (show ¬ (399641 : Int) = 326280 by decide), if_neg (show ¬ (399641 : Int) = 261338243 by decide), if_neg (show ¬ (399641 : Int) = 3288323 by decide), if_neg (show ¬ (399641 : Int) = 555 by decide), if_neg (show ¬ (399641 : Int) = 79 by decide), if_neg (show ¬ (399641 : Int) = 9744 by decide), if_neg (show ¬ (399641 : Int) = 459818 by decide), if_neg (show ¬ (399641 : Int) = 161156 by decide), if_neg (show ¬ (399641 : Int) = 4797 by decide), if_neg (show ¬ (399641 : Int) = 249 by decide), if_pos (show (399641 : Int) = 399641 from rfl)]
  · subst h; rw [if_neg (show ¬ (107681 : Int) = 8903 by decide), if_neg (show ¬ (107681 : Int) = 8863997 by decide), if_neg (show ¬ (107681 : Int) = 247663 by decide), if_neg (show ¬ (107681 : Int) = 4562600 by decide), if_neg (show ¬ (107681 : Int) = 12531826 by decide), if_neg (show ¬ (107681 : Int) = 326280 by decide), if_neg (show ¬ (107681 : Int) = 261338243 by decide), if_neg (show ¬ (107681 : Int) = 3288323 by decide), if_neg (show ¬ (107681 : Int) = 555 by decide), if_neg (show ¬ (107681 : Int) = 79 by decide), if_neg (show ¬ (107681 : Int) = 9744 by decide), if_neg (show ¬ (107681 : Int) = 459818 by decide), if_neg (show ¬ (107681 : Int) = 161156 by decide), if_neg (show ¬ (107681 : Int) = 4797 by decide), if_neg (show ¬ (107681 : Int) = 249 by decide), if_neg (show ¬ (107681 : Int) = 399641 by decide), if_pos (show (107681 : Int) = 107681 from rfl)]
  · subst h; rw [if_neg (show ¬ (9734 : Int) = 8903 by decide), if_neg (show ¬ (9734 : Int) = 8863997 by decide), if_neg (show ¬ (9734 : Int) = 247663 by decide), if_neg (show ¬ (9734 : Int) = 4562600 by decide), if_neg (show ¬ (9734 : Int) = 12531826 by decide), if_neg (show ¬ (9734 : Int) = 326280 by decide), if_neg (show ¬ (9734 : Int) = 261338243 by decide), if_neg (show ¬ (9734 : Int) = 3288323 by decide), if_neg (show ¬ (9734 : Int) = 555 by decide), if_neg (show ¬ (9734 : Int) = 79 by decide), if_neg (show ¬ (9734 : Int) = 9744 by decide), if_neg (show ¬ (9734 : Int) = 459818 by decide), if_neg (show ¬ (9734 : Int) = 161156 by decide), if_neg (show ¬ (9734 : Int) = 4797 by decide), if_neg (show ¬ (9734 : Int) = 249 by decide), if_neg (show ¬ (9734 : Int) = 399641 by decide), if_neg (show ¬ (9734 : Int) = 107681 by decide), if_pos (show (9734 : Int) = 9734 from rfl)]
  · subst h; rw [if_neg (show ¬ (9528 : Int) = 8903 by decide), if_neg (show ¬ (9528 : Int) = 8863997 by decide), if_neg (show ¬ (9528 : Int) = 247663 by decide), if_neg (show ¬ (9528 : Int) = 4562600 by decide), if_neg (show ¬ (9528 : Int) = 12531826 by decide), if_neg (show ¬ (9528 : Int) = 326280 by decide), if_neg (show ¬ (9528 : Int) = 261338243 by decide), if_neg (show ¬ (9528 : Int) = 3288323 by decide), if_neg (show ¬ (9528 : Int) = 555 by decide), if_neg (show ¬ (9528 : Int) = 79 by decide), if_neg (show ¬ (9528 : Int) = 9744 by decide), if_neg (show ¬ (9528 : Int) = 459818 by decide), if_neg (show ¬ (9528 : Int) = 161156 by decide), if_neg (show ¬ (9528 : Int) = 4797 by decide), if_neg (show ¬ (9528 : Int) = 249 by decide), if_neg (show ¬ (9528 : Int) = 399641 by decide), if_neg (show ¬ (9528 : Int) = 107681 by decide), if_neg (show ¬ (9528 : Int) = 9734 by decide), if_pos (show (9528 : Int) = 9528 from rfl)]
  · subst h; rw [if_neg (show ¬ (423 : Int) = 8903 by decide), if_neg (show ¬ (423 : Int) = 8863997 by decide), if_neg (show ¬ (423 : Int) = 247663 by decide), if_neg (show ¬ (423 : Int) = 4562600 by decide), if_neg (show ¬ (423 : Int) = 12531826 by decide), if_neg (show ¬ (423 : Int) = 326280 by decide), if_neg (show ¬ (423 : Int) = 261338243 by decide), if_neg (show ¬ (423 : Int) = 3288323 by decide), if_neg (show ¬ (423 : Int) = 555 by decide), if_neg (show ¬ (423 : Int) = 79 by decide), if_neg (show ¬ (423 : Int) = 9744 by decide), if_neg (show ¬ (423 : Int) = 459818 by decide), if_neg (show ¬ (423 : Int) = 161156 by decide), if_neg (show ¬ (423 : Int) = 4797 by decide), if_neg (show ¬ (423 : Int) = 249 by decide), if_neg (show ¬ (423 : Int) = 399641 by decide), if_neg (show ¬ (423 : Int) = 107681 by decide), if_neg (show ¬ (423 : Int) = 9734 by decide), if_neg (show ¬ (423 : Int) = 9528 by decide), if_pos (show (423 : Int) = 423 from rfl)]
  · subst h; rw [if_neg (show ¬ (1111 : Int) = 8903 by decide), if_neg (show ¬ (1111 : Int) = 8863997 by decide), if_neg (show ¬ (1111 : Int) = 247663 by decide), if_neg (show ¬ (1111 : Int) = 4562600 by decide), if_neg (show ¬ (1111 : Int) = 12531826 by decide), if_neg (show ¬ (1111 : Int) = 326280 by decide), if_neg (show ¬ (1111 : Int) = 261338243 by decide), if_neg (show ¬ (1111 : Int) = 3288323 by decide), if_neg (show ¬ (1111 : Int) = 555 by decide), if_neg (show ¬ (1111 : Int) = 79 by decide), if_neg (show ¬ (1111 : Int) = 9744 by decide), if_neg (show ¬ (1111 : Int) = 459818 by decide), if_neg (show ¬ (1111 : Int) = 161156 by decide), if_neg (show ¬ (1111 : Int) = 4797 by decide), if_neg (show ¬ (1111 : Int) = 249 by decide), if_neg (show ¬ (1111 : Int) = 399641 by decide), if_neg (show ¬ (1111 : Int) = 107681 by decide), if_neg (show ¬ (1111 : Int) = 9734 by decide), if_neg (show ¬ (1111 : Int) = 9528 by decide), if_neg (show ¬ (1111 : Int) = 423 by decide), if_pos (show (1111 : Int) = 1111 from rfl)]
  · subst h; rw [if_neg (show ¬ (10631 : Int) = 8903 by decide), if_neg (show ¬ (10631 : Int) = 8863997 by decide), if_neg (show ¬ (10631 : Int) = 247663 by decide), if_neg (show ¬ (10631 : Int) = 4562600 by decide), if_neg (show ¬ (10631 : Int) = 12531826 by decide), if_neg (show ¬ (10631 : Int) = 326280 by decide), if_neg (show ¬ (10631 : Int) = 261338243 by decide), if_neg (show ¬ (10631 : Int) = 3288323 by decide), if_neg (show ¬ (10631 : Int) = 555 by decide), if_neg (show ¬ (10631 : Int) = 79 by decide), if_neg (show ¬ (10631 : Int) = 9744 by decide), if_neg (show ¬ (10631 : Int) = 459818 by decide), if_neg (show ¬ (10631 : Int) = 161156 by decide), if_neg (show ¬ (10631 : Int) = 4797 by decide), if_neg (show ¬ (10631 : Int) = 249 by decide), if_neg (show ¬ (10631 : Int) = 399641 by decide), if_neg (show ¬ (10631 : Int) = 107681 by decide), if_neg (show ¬ (10631 : Int) = 9734 by decide), if_neg (show ¬ (10631 : Int) = 9528 by decide), if_neg (show ¬ (10631 : Int) = 423 by decide), if_neg (show ¬ (10631 : Int) = 1111 by decide), if_pos (show (10631 : Int) = 10631 from rfl)]
theorem isn_ok (v : Int) (w0 : xAV) (h : ¬ v = 8903 ∧ ¬ v = 8863997 ∧ ¬ v = 247663 ∧ ¬ v = 4562600 ∧ ¬ v = 12531826 ∧ ¬ v = 326280 ∧ ¬ v = 261338243 ∧ ¬ v = 3288323 ∧ ¬ v = 555 ∧ ¬ v = 79 ∧ ¬ v = 9744 ∧ ¬ v = 459818 ∧ ¬ v = 161156 ∧ ¬ v = 4797 ∧ ¬ v = 249 ∧ ¬ v = 399641 ∧ ¬ v = 107681 ∧ ¬ v = 9734 ∧ ¬ v = 9528 ∧ ¬ v = 423 ∧ ¬ v = 1111 ∧ ¬ v = 10631) : X iM_isName 11 [w0, (1, v), (8, 0)] [(0, -1)] σ = some ((0, 1), σ) := by
  obtain ⟨h0, h1, h2, h3, h4, h5, h6, h7, h8, h9, h10, h11, h12, h13, h14, h15, h16, h17, h18, h19, h20, h21⟩ := h
  rw [qM_isName_11, if_pos (show (-1 : Int) < 0 by decide), if_neg h0, if_neg h1, if_neg h2, if_neg h3, if_neg h4, if_neg h5, if_neg h6, if_neg h7, if_neg h8, if_neg h9, if_neg h10, if_neg h11, if_neg h12, if_neg h13, if_neg h14, if_neg h15, if_neg h16, if_neg h17, if_neg h18, if_neg h19, if_neg h20, if_neg h21]
theorem wdx_n {w : Int} (h : ¬ w = 330936265 ∧ ¬ w = 923 ∧ ¬ w = 242924 ∧ ¬ w = 12532058 ∧ ¬ w = 4075480 ∧ ¬ w = 385418 ∧ ¬ w = 223456 ∧ ¬ w = 80155 ∧ ¬ w = 191706742 ∧ ¬ w = 2968) : wdx sk sn F (F + M) w = wlk sk sn F w M (F + 0) := by
  obtain ⟨h0, h1, h2, h3, h4, h5, h6, h7, h8, h9⟩ := h
  unfold wdx
  rw [if_neg h0, if_neg h1, if_neg h2, if_neg h3, if_neg h4, if_neg h5, if_neg h6, if_neg h7, if_neg h8, if_neg h9, Nat.add_sub_cancel_left]
  rfl
theorem M_isName (hw : wenv τ.1 sk sn F (F + M)) (ht : t_c B n j = 2) (hnw : ∀ i, i < M → sk (F + i) = 0 → ∀ q, q < 32 → sn (F + i) ≠ kcd q) : (nmo B n sk sn F M j → X iM_isName 0 [(2, 305), (1, t_w B n j), (8, 0)] [] τ = some ((0, 1), τ)) ∧ (¬ nmo B n sk sn F M j → X iM_isName 0 [(2, 305), (1, t_w B n j), (8, 0)] [] τ = some ((0, 0), τ)) := by
  obtain ⟨u1, u2, u3⟩ := t_let2 ht
  obtain ⟨b1, b2⟩ := cdv_bd (B := B) (s := t_s B n j) (t_e B n j - t_s B n j) u3
  have hlk := lfi_wlk (sk := sk) (sn := sn) (F := F) (w := t_w B n j) M 0
  have hwo := M_wordOf hw (t_w B n j)
  by_cases h8 : t_e B n j - t_s B n j ≤ 8
  · have hpos : ¬ t_w B n j < 0 := by have : 0 ≤ t_w B n j := (b1 h8).1; omega
    rcases t_k_cases (B := B) (n := n) (j := j) with ⟨h1, h2⟩ | ⟨q, hq, h1, h2⟩
    · have hwd : wdx sk sn F (F + M) (t_w B n j) = wlk sk sn F (t_w B n j) M (F + 0) := wdx_n ⟨fun e => h2 22 (by decide) ⟨ht, e⟩, fun e => h2 23 (by decide) ⟨ht, e⟩, fun e => h2 24 (by decide) ⟨ht, e⟩, fun e => h2 25 (by decide) ⟨ht, e⟩, fun e => h2 26 (by decide) ⟨ht, e⟩, fun e => h2 27 (by decide) ⟨ht, e⟩, fun e => h2 28 (by decide) ⟨ht, e⟩, fun e => h2 29 (by decide) ⟨ht, e⟩, fun e => h2 30 (by decide) ⟨ht, e⟩, fun e => h2 31 (by decide) ⟨ht, e⟩⟩
      cases hf : lfi sk sn F (t_w B n j) M 0 with
      | none =>
        rw [hf] at hlk
        have hv : wdx sk sn F (F + M) (t_w B n j) = -1 := hwd.trans hlk
        refine ⟨fun _ => ?_, fun hn => absurd ⟨ht, h1, h8, hf⟩ hn⟩
        rw [qM_isName_0, if_neg hpos, hwo, Option.bind_some, hv]
        exact isn_ok _ _ ⟨fun e => h2 0 (by decide) ⟨ht, e⟩, fun e => h2 1 (by decide) ⟨ht, e⟩, fun e => h2 2 (by decide) ⟨ht, e⟩, fun e => h2 7 (by decide) ⟨ht, e⟩, fun e => h2 8 (by decide) ⟨ht, e⟩, fun e => h2 9 (by decide) ⟨ht, e⟩, fun e => h2 3 (by decide) ⟨ht, e⟩, fun e => h2 4 (by decide) ⟨ht, e⟩, fun e => h2 10 (by decide) ⟨ht, e⟩, fun e => h2 11 (by decide) ⟨ht, e⟩, fun e => h2 5 (by decide) ⟨ht, e⟩, fun e => h2 12 (by decide) ⟨ht, e⟩, fun e => h2 6 (by decide) ⟨ht, e⟩, fun e => h2 13 (by decide) ⟨ht, e⟩, fun e => h2 14 (by decide) ⟨ht, e⟩, fun e => h2 15 (by decide) ⟨ht, e⟩, fun e => h2 16 (by decide) ⟨ht, e⟩, fun e => h2 17 (by decide) ⟨ht, e⟩, fun e => h2 18 (by decide) ⟨ht, e⟩, fun e => h2 19 (by decide) ⟨ht, e⟩, fun e => h2 20 (by decide) ⟨ht, e⟩, fun e => h2 21 (by decide) ⟨ht, e⟩⟩
      | some i =>
        rw [hf] at hlk
        have hv : wdx sk sn F (F + M) (t_w B n j) = ((10 + i : Nat) : Int) := hwd.trans hlk
        refine ⟨fun hn => absurd (hn.2.2.2.symm.trans hf) (by intro h; cases h), fun _ => ?_⟩
        rw [qM_isName_0, if_neg hpos, hwo, Option.bind_some, hv, qM_isName_11, if_neg (by omega)]
    · have hnn : ¬ nmo B n sk sn F M j := fun hn => by
        have := hn.2.1
        rw [h1] at this
        omega
      refine ⟨fun hn => absurd hn hnn, fun _ => ?_⟩
      have ht2 : t_w B n j = kcd q := h2.2
      by_cases hq2 : q < 22
      · have hno : lfi sk sn F (t_w B n j) M 0 = none := by
          cases hf : lfi sk sn F (t_w B n j) M 0 with
          | none => rfl
          | some i =>
            obtain ⟨_, i2, s1, s2⟩ := lfi_some hf
            exact absurd (s2.trans ht2) (hnw i (by omega) s1 q hq)
        rw [hno] at hlk
        have ne : ∀ r, r < 10 → ¬ t_w B n j = kcd (22 + r) := fun r hr e => by
          have := kcd_inj q hq (22 + r) (by omega) (ht2.symm.trans e)
          omega
        have hv : wdx sk sn F (F + M) (t_w B n j) = -1 := (wdx_n ⟨ne 0 (by decide), ne 1 (by decide), ne 2 (by decide), ne 3 (by decide), ne 4 (by decide), ne 5 (by decide), ne 6 (by decide), ne 7 (by decide), ne 8 (by decide), ne 9 (by decide)⟩).trans hlk
        rw [qM_isName_0, if_neg hpos, hwo, Option.bind_some, hv]
        refine isn_no _ _ ?_
        rw [ht2]
        match q, hq2 with
        | 0, _ => exact Or.inl rfl
        | 1, _ => exact Or.inr (Or.inl rfl)
        | 2, _ => exact Or.inr (Or.inr (Or.inl rfl))
        | 3, _ => exact Or.inr (Or.inr (Or.inr (Or.inr (Or.inr (Or.inr (Or.inl rfl))))))
        | 4, _ => exact Or.inr (Or.inr (Or.inr (Or.inr (Or.inr (Or.inr (Or.inr (Or.inl rfl)))))))
        | 5, _ => exact Or.inr (Or.inr (Or.inr (Or.inr (Or.inr (Or.inr (Or.inr (Or.inr (Or.inr (Or.inr (Or.inl rfl))))))))))
        | 6, _ => exact Or.inr (Or.inr (Or.inr (Or.inr (Or.inr (Or.inr (Or.inr (Or.inr (Or.inr (Or.inr (Or.inr (Or.inr (Or.inl rfl))))))))))))
        | 7, _ => exact Or.inr (Or.inr (Or.inr (Or.inl rfl)))
        | 8, _ => exact Or.inr (Or.inr (Or.inr (Or.inr (Or.inl rfl))))
        | 9, _ => exact Or.inr (Or.inr (Or.inr (Or.inr (Or.inr (Or.inl rfl)))))
        | 10, _ => exact Or.inr (Or.inr (Or.inr (Or.inr (Or.inr (Or.inr (Or.inr (Or.inr (Or.inl rfl))))))))
        | 11, _ => exact Or.inr (Or.inr (Or.inr (Or.inr (Or.inr (Or.inr (Or.inr (Or.inr (Or.inr (Or.inl rfl)))))))))
        | 12, _ => exact Or.inr (Or.inr (Or.inr (Or.inr (Or.inr (Or.inr (Or.inr (Or.inr (Or.inr (Or.inr (Or.inr (Or.inl rfl)))))))))))
        | 13, _ => exact Or.inr (Or.inr (Or.inr (Or.inr (Or.inr (Or.inr (Or.inr (Or.inr (Or.inr (Or.inr (Or.inr (Or.inr (Or.inr (Or.inl rfl)))))))))))))
        | 14, _ => exact Or.inr (Or.inr (Or.inr (Or.inr (Or.inr (Or.inr (Or.inr (Or.inr (Or.inr (Or.inr (Or.inr (Or.inr (Or.inr (Or.inr (Or.inl rfl))))))))))))))
        | 15, _ => exact Or.inr (Or.inr (Or.inr (Or.inr (Or.inr (Or.inr (Or.inr (Or.inr (Or.inr (Or.inr (Or.inr (Or.inr (Or.inr (Or.inr (Or.inr (Or.inl rfl)))))))))))))))
        | 16, _ => exact Or.inr (Or.inr (Or.inr (Or.inr (Or.inr (Or.inr (Or.inr (Or.inr (Or.inr (Or.inr (Or.inr (Or.inr (Or.inr (Or.inr (Or.inr (Or.inr (Or.inl rfl))))))))))))))))
        | 17, _ => exact Or.inr (Or.inr (Or.inr (Or.inr (Or.inr (Or.inr (Or.inr (Or.inr (Or.inr (Or.inr (Or.inr (Or.inr (Or.inr (Or.inr (Or.inr (Or.inr (Or.inr (Or.inl rfl)))))))))))))))))
        | 18, _ => exact Or.inr (Or.inr (Or.inr (Or.inr (Or.inr (Or.inr (Or.inr (Or.inr (Or.inr (Or.inr (Or.inr (Or.inr (Or.inr (Or.inr (Or.inr (Or.inr (Or.inr (Or.inr (Or.inl rfl))))))))))))))))))
        | 19, _ => exact Or.inr (Or.inr (Or.inr (Or.inr (Or.inr (Or.inr (Or.inr (Or.inr (Or.inr (Or.inr (Or.inr (Or.inr (Or.inr (Or.inr (Or.inr (Or.inr (Or.inr (Or.inr (Or.inr (Or.inl rfl)))))))))))))))))))
        | 20, _ => exact Or.inr (Or.inr (Or.inr (Or.inr (Or.inr (Or.inr (Or.inr (Or.inr (Or.inr (Or.inr (Or.inr (Or.inr (Or.inr (Or.inr (Or.inr (Or.inr (Or.inr (Or.inr (Or.inr (Or.inr (Or.inl rfl))))))))))))))))))))
        | 21, _ => exact Or.inr (Or.inr (Or.inr (Or.inr (Or.inr (Or.inr (Or.inr (Or.inr (Or.inr (Or.inr (Or.inr (Or.inr (Or.inr (Or.inr (Or.inr (Or.inr (Or.inr (Or.inr (Or.inr (Or.inr (Or.inr (rfl)))))))))))))))))))))
        | q + 22, h => omega
      · obtain ⟨r, rfl⟩ : ∃ r, q = 22 + r := ⟨q - 22, by omega⟩
        have hr : r < 10 := by omega
        have hv : wdx sk sn F (F + M) (t_w B n j) = (r : Int) := by
          rw [ht2]
          match r, hr with
          | 0, _ => rfl
          | 1, _ => rfl
          | 2, _ => rfl
          | 3, _ => rfl
          | 4, _ => rfl
          | 5, _ => rfl
          | 6, _ => rfl
          | 7, _ => rfl
          | 8, _ => rfl
          | 9, _ => rfl
          | r + 10, h => omega
        rw [qM_isName_0, if_neg hpos, hwo, Option.bind_some, hv, qM_isName_11, if_neg (by omega)]
  · have hneg : t_w B n j < 0 := by have : t_w B n j = -1 := b2 (by omega); omega
    exact ⟨fun hn => absurd hn.2.2.1 h8, fun _ => by rw [qM_isName_0, if_pos hneg]⟩
theorem M_let (h : tq B n (hdA A S c 0 (-1) (-1) none) F S σ.1 (-1) j c f) (hS : S = F + M) (hnw : ∀ i, i < M → xup (A 0) S 0 (F + i) = 0 → ∀ q, q < 32 → xup (A 6) S (t_w B n j) (F + i) ≠ kcd q) : (nmo B n (xup (A 0) S 0) (xup (A 6) S (t_w B n j)) F M j → ∃ τ, X iM_tells 52 [(2, 305), (0, (S : Int))] [] σ = midx S τ ∧ tq B n (hdA A S c 0 (-1) (-1) (some (t_w B n j))) F S τ.1 (-1) (j + 1) c f ∧ fq F c0 σ τ) ∧ (¬ nmo B n (xup (A 0) S 0) (xup (A 6) S (t_w B n j)) F M j → ∃ τ, X iM_tells 52 [(2, 305), (0, (S : Int))] [] σ = some ((9, 0), τ) ∧ tz B n F S τ.1 (t_s B n j : Int) ∧ fq F c0 σ τ) := by
  have hx := tq_x h
  have hSS := h.2.2.2.2.2.2
  by_cases ht : t_c B n j = 2
  · have h71 : σ.1 305 71 = 1 := by rw [h.1.2.2.2.1, ht]; rfl
    have h73 : σ.1 305 73 = t_w B n j := h.1.2.2.2.2.1 ht
    have b := tq_A h (q := 6) (by decide) S (t_w B n j)
    have b' : tq B n (hdA A S c 0 (-1) (-1) (some (t_w B n j))) F S (xs σ 350 S (t_w B n j)).1 (-1) j c f := tq_eqA b (r7 ⟨rfl, rfl, rfl, rfl, rfl, rfl, rfl⟩)
    have hwe : wenv (xs σ 350 S (t_w B n j)).1 (xup (A 0) S 0) (xup (A 6) S (t_w B n j)) F (F + M) := by
      rw [← hS]
      exact ⟨b'.2.2.2.2.1, b'.2.2.2.2.2.1, b'.2.2.2.1 0 (by decide), b'.2.2.2.1 6 (by decide), hSS.1, by omega⟩
    obtain ⟨i1, i2⟩ := M_isName hwe ht hnw
    refine ⟨fun hn => ?_, fun hn => ?_⟩
    · obtain ⟨τ, k1, k2, k3⟩ := tq_next (c0 := c0) b'
      refine ⟨τ, ?_, k2, fq_tr (fq_A (q := 6) (by decide) hSS.1 _) k3⟩
      rw [qM_tells_52, if_pos hx, if_pos h71, h73, Int.toNat_natCast, i1 hn, Option.bind_some, qM_tells_78, if_neg (show ¬ (1 : Int) = 0 by decide), k1, Option.bind_some, M_mid85 k2]
    · obtain ⟨y4, y5⟩ := tq_fail (c0 := c0) b'
      obtain ⟨τ, k1, k2, k3⟩ := M_462z (c0 := c0) y4
      refine ⟨τ, ?_, k2, fq_tr (fq_A (q := 6) (by decide) hSS.1 _) (fq_tr y5 k3)⟩
      rw [qM_tells_52, if_pos hx, if_pos h71, h73, Int.toNat_natCast, i2 hn, Option.bind_some, qM_tells_78, if_pos rfl, if_pos (tq_0 b'), k1]
  · refine ⟨fun hn => absurd hn.1 ht, fun _ => ?_⟩
    have h71 : ¬ σ.1 305 71 = 1 := fun q => ht (tk1_1 (h.1.2.2.2.1.symm.trans q))
    have b := tq_A h (q := 6) (by decide) S (σ.1 305 73)
    have e305 : (xs σ 350 S (σ.1 305 73)).1 305 = σ.1 305 := xs_ne (by decide)
    obtain ⟨y4, y5⟩ := tq_fail (c0 := c0) b
    obtain ⟨τ, k1, k2, k3⟩ := M_462z (c0 := c0) y4
    rw [e305] at k1
    refine ⟨τ, ?_, k2, fq_tr (fq_A (q := 6) (by decide) hSS.1 _) (fq_tr y5 k3)⟩
    rw [qM_tells_52, if_pos hx, if_neg h71, if_pos (tq_0 h), Int.toNat_natCast, k1]
end NMR

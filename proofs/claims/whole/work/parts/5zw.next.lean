/-! the reference's next token, on -/
section NEXT
variable {σ : xS} {B : Nat → Int} {n : Nat}
/-- digits -/
theorem M_next_161 (hB : tpB σ.1 B n) (w1 : xAV) {s : Nat} : ∀ (f p : Nat) (τ : xS), f = n - p → slt pnx σ τ → τ.1 305 69 = (p : Int) → p ≤ n → s ≤ p → τ.1 305 70 = (s : Int) → τ.1 305 73 = dgv B s (p - s) → (∀ i, i < p - s → 48 ≤ B (s + i) ∧ B (s + i) ≤ 57) → ∃ τ', X iM_next 161 [(2, 305), w1] [] τ = some ((9, 0), τ') ∧ slt pnx σ τ' ∧ τ'.1 305 69 = (rnn B n 48 57 f p : Int) ∧ τ'.1 305 70 = (s : Int) ∧ (τ'.1 305 71 = if rnn B n 48 57 f p - s ≤ 9 then 2 else 4) ∧ τ'.1 305 73 = dgv B s (rnn B n 48 57 f p - s) := by
  intro f
  induction f with
  | zero =>
    intro p τ hf hs hp hpn hsp h70 h73 hl
    have hB' := tpB_slt (by decide) hs hB
    have hn := hB.1
    rw [qM_next_161, M_here hB' hp, Option.bind_some, qM_next_165, if_pos (show (if p < n then B p else -1) < 48 by rw [if_neg (by omega)]; decide), hp, h70, xw_id (x := (p : Int) - (s : Int)) (by omega) (by omega)]
    show ∃ τ' : xS, _ ∧ _ ∧ τ'.1 305 69 = (p : Int) ∧ _ ∧ (τ'.1 305 71 = if p - s ≤ 9 then 2 else 4) ∧ τ'.1 305 73 = dgv B s (p - s)
    by_cases c : p - s ≤ 9
    · rw [if_neg (by omega), if_pos c]
      exact ⟨_, rfl, slt_s hs (show pnx 71 by decide) 2, by rw [xs_at, xup_ne (by decide)]; exact hp, by rw [xs_at, xup_ne (by decide)]; exact h70, by rw [xs_at, xup_eq], by rw [xs_at, xup_ne (by decide)]; exact h73⟩
    · rw [if_pos (by omega), if_neg c]
      exact ⟨_, rfl, slt_s hs (show pnx 71 by decide) 4, by rw [xs_at, xup_ne (by decide)]; exact hp, by rw [xs_at, xup_ne (by decide)]; exact h70, by rw [xs_at, xup_eq], by rw [xs_at, xup_ne (by decide)]; exact h73⟩
  | succ f ih =>
    intro p τ hf hs hp hpn hsp h70 h73 hl
    have hB' := tpB_slt (by decide) hs hB
    have hn := hB.1
    have hpl : p < n := by omega
    rw [qM_next_161, M_here hB' hp, Option.bind_some, qM_next_165]
    show ∃ τ' : xS, (if (if p < n then B p else -1) < 48 then _ else _) = _ ∧ _
    rw [if_pos hpl, hp, h70, xw_id (x := (p : Int) - (s : Int)) (by omega) (by omega)]
    have fin : ¬ (48 ≤ B p ∧ B p ≤ 57) → ∃ τ', (if 9 < (p : Int) - (s : Int) then some (((9, 0) : xAV), xs τ 305 71 4) else some ((9, 0), xs τ 305 71 2)) = some ((9, 0), τ') ∧ slt pnx σ τ' ∧ τ'.1 305 69 = (rnn B n 48 57 (f + 1) p : Int) ∧ τ'.1 305 70 = (s : Int) ∧ (τ'.1 305 71 = if rnn B n 48 57 (f + 1) p - s ≤ 9 then 2 else 4) ∧ τ'.1 305 73 = dgv B s (rnn B n 48 57 (f + 1) p - s) := by
      intro q
      rw [show rnn B n 48 57 (f + 1) p = p from if_neg (fun z => q z.2)]
      by_cases c : p - s ≤ 9
      · rw [if_neg (by omega), if_pos c]
        exact ⟨_, rfl, slt_s hs (show pnx 71 by decide) 2, by rw [xs_at, xup_ne (by decide)]; exact hp, by rw [xs_at, xup_ne (by decide)]; exact h70, by rw [xs_at, xup_eq], by rw [xs_at, xup_ne (by decide)]; exact h73⟩
      · rw [if_pos (by omega), if_neg c]
        exact ⟨_, rfl, slt_s hs (show pnx 71 by decide) 4, by rw [xs_at, xup_ne (by decide)]; exact hp, by rw [xs_at, xup_ne (by decide)]; exact h70, by rw [xs_at, xup_eq], by rw [xs_at, xup_ne (by decide)]; exact h73⟩
    by_cases c1 : B p < 48
    · rw [if_pos c1]
      exact fin (by omega)
    by_cases c2 : 57 < B p
    · rw [if_neg c1, if_pos c2]
      exact fin (by omega)
    have hl' : ∀ i, i < (p + 1) - s → 48 ≤ B (s + i) ∧ B (s + i) ≤ 57 := fun i hi => by
      by_cases e : i = p - s
      · rw [e, show s + (p - s) = p by omega]; omega
      · exact hl i (by omega)
    have hcl := (dgv_le _ hl).1
    have ec : dgv B s (p + 1 - s) = (if dgv B s (p - s) < 100000000 then dgv B s (p - s) else 100000000) * 10 + (B p - 48) := by
      rw [show p + 1 - s = (p - s) + 1 by omega]
      show (if dgv B s (p - s) < 100000000 then dgv B s (p - s) else 100000000) * 10 + (B (s + (p - s)) - 48) = _
      rw [show s + (p - s) = p by omega]
    clear fin
    have e9 : X iM_min 0 [(0, xw (τ.1 305 73)), (0, 100000000)] [] τ = some ((0, if dgv B s (p - s) < 100000000 then dgv B s (p - s) else 100000000), τ) := by
      rw [h73, xw_id (x := dgv B s (p - s)) (by omega) (by omega), qM_min_0]
      split <;> rfl
    rw [if_neg c1, if_neg c2, e9, Option.bind_some, qM_next_187, M_here hB' hp, Option.bind_some, qM_next_196, show rnn B n 48 57 (f + 1) p = rnn B n 48 57 f (p + 1) from if_pos ⟨hpl, by omega, by omega⟩]
    clear e9
    have eM : 0 ≤ (if dgv B s (p - s) < 100000000 then dgv B s (p - s) else 100000000) ∧ (if dgv B s (p - s) < 100000000 then dgv B s (p - s) else 100000000) ≤ 100000000 := by split <;> omega
    revert eM ec
    generalize (if dgv B s (p - s) < 100000000 then dgv B s (p - s) else 100000000) = M
    intro ec eM
    show ∃ τ', X iM_next 161 [(2, 305), w1] [] (xs (xs τ 305 73 (xW (xW (M * 10) + xw ((if p < n then B p else -1) - 48)))) 305 69 (xw (τ.1 305 69 + 1))) = _ ∧ _
    rw [if_pos hpl, xW_id (x := M * 10) (by omega) (by omega), xw_id (x := B p - 48) (by omega) (by omega), xW_id (x := M * 10 + (B p - 48)) (by omega) (by omega), hp, xw_t (by omega), ← ec]
    refine ih (p + 1) _ (by omega) (slt_s (slt_s hs (show pnx 73 by decide) _) (show pnx 69 by decide) _) (by rw [xs_at, xup_eq]) (by omega) (by omega) ?_ ?_ hl'
    · rw [xs_at, xup_ne (by decide), xs_at, xup_ne (by decide)]; exact h70
    · rw [xs_at, xup_ne (by decide), xs_at, xup_eq]
/-- the reference's word for a token -/
def tk1 (c : Int) : Int := if c = 1 then 0 else if c = 2 then 1 else if c = 3 then 2 else if c = 5 then 4 else 3
/-- the reference stands at token j -/
def tkn (m : Nat → Nat → Int) (B : Nat → Int) (n j : Nat) : Prop :=
  m 305 69 = (t_e B n j : Int) ∧ m 305 70 = (t_s B n j : Int) ∧ m 305 71 = tk1 (t_c B n j) ∧ (t_c B n j = 2 → m 305 73 = t_w B n j) ∧ (t_c B n j = 3 → m 305 73 = t_n B n j) ∧ (tk1 (t_c B n j) = 3 → m 305 72 = t_c B n j)
theorem sgn_ne {c : Int} (h : sgn c) : c ≠ 1 ∧ c ≠ 2 ∧ c ≠ 3 ∧ c ≠ 5 := by
  unfold sgn at h
  omega
theorem tk1_sgn {c : Int} (h : sgn c) : tk1 c = 3 := by
  obtain ⟨h1, h2, h3, h4⟩ := sgn_ne h
  unfold tk1
  rw [if_neg h1, if_neg h2, if_neg h3, if_neg h4]
theorem M_next_158 {c : Int} {τ : xS} (hc : ¬ (48 ≤ c ∧ c ≤ 57)) : X iM_next 158 [(2, 305), (0, c)] [(0, 0)] τ = some ((9, 0), xs (xs (xs τ 305 71 (@ite _ (sgn c) (Classical.propDecidable _) 3 4)) 305 72 c) 305 69 (xw (τ.1 305 69 + 1))) := by
  rw [qM_next_158, if_pos rfl]
  by_cases h : sgn c
  · rw [if_pos h]
    have e2 : X iM_next 328 [(2, 305), (0, c)] [(2, 305)] τ = some ((9, 0), xs (xs (xs τ 305 71 3) 305 72 c) 305 69 (xw (τ.1 305 69 + 1))) := qM_next_328 c τ
    rw [e2]
    unfold sgn at h
    rcases h with h | h | h | h | h | h | h | h | h | h | h | h | h | h <;> subst h <;> rfl
  · rw [if_neg h]
    unfold sgn at h
    rw [if_neg (by omega), if_neg (by omega), if_neg (by omega), if_neg (by omega), if_neg (by omega), if_neg (by omega), if_neg (by omega), if_neg (by omega), if_neg (by omega), if_neg (by omega), if_neg (by omega), if_neg (by omega), if_neg (by omega), if_neg (by omega)]
/-- the next token -/
theorem M_next (hB : tpB σ.1 B n) (w1 : xAV) {j : Nat} (hp : σ.1 305 69 = (ptk B n j : Int)) : ∃ τ, X iM_next 0 [(2, 305), w1] [] σ = some ((9, 0), τ) ∧ slt pnx σ τ ∧ tkn τ.1 B n j := by
  have hn := hB.1
  obtain ⟨τ1, e1, s1, p1, q1⟩ := M_next_skip hB w1 (n - ptk B n j) (ptk B n j) σ rfl (slt_rf _ _) hp (ptk_le _)
  have e1 : X iM_next 0 [(2, 305), w1] [] σ = X iM_next 43 [(2, 305), w1] [(0, if t_s B n j < n then B (t_s B n j) else -1)] τ1 := e1
  have p1 : τ1.1 305 69 = (t_s B n j : Int) := p1
  have q1 : τ1.1 305 70 = (t_s B n j : Int) := q1
  obtain ⟨g1, g2, g3, g4⟩ := t_s_le (B := B) (n := n) j
  have ce : t_c B n j = tkC B n (ptk B n j) := rfl
  have ee : t_e B n j = tkE B n (ptk B n j) := rfl
  unfold tkC at ce
  unfold tkE at ee
  rw [show tkS B n (ptk B n j) = t_s B n j from rfl] at ce ee
  rw [show tkE B n (ptk B n j) = t_e B n j from rfl] at ce
  rw [e1, qM_next_43]
  unfold tkn
  have ht (τ1 : xS) (s1 : slt pnx σ τ1) : slt pnx σ (xs (xs τ1 305 73 0) 305 72 0) := slt_s (slt_s s1 (show pnx 73 by decide) _) (show pnx 72 by decide) _
  by_cases c0 : t_s B n j < n
  · rw [if_pos c0]
    rw [if_pos c0] at ce ee
    obtain ⟨b1, b2⟩ := hB.2.2.2 (t_s B n j)
    rw [if_neg (show ¬ B (t_s B n j) < 0 by omega)]
    by_cases c1 : 97 ≤ B (t_s B n j) ∧ B (t_s B n j) ≤ 122
    · rw [if_pos c1] at ce ee
      rw [if_neg (show ¬ B (t_s B n j) < 97 by omega), if_neg (show ¬ 122 < B (t_s B n j) by omega)]
      obtain ⟨τ, f1, f2, f3, f4, f5, f6⟩ := M_next_82 hB (0, B (t_s B n j)) (s := t_s B n j) (n - t_s B n j) (t_s B n j) (xs (xs (xs τ1 305 73 0) 305 72 0) 305 71 1) rfl (slt_s (ht τ1 s1) (show pnx 71 by decide) _) (by rw [xs_at, xup_ne (by decide), xs_at, xup_ne (by decide), xs_at, xup_ne (by decide)]; exact p1) (by omega) (Nat.le_refl _) (by rw [xs_at, xup_ne (by decide), xs_at, xup_ne (by decide), xs_at, xup_ne (by decide)]; exact q1) (by rw [xs_at, xup_eq]) (by rw [xs_at, xup_ne (by decide), xs_at, xup_ne (by decide), xs_at, xup_eq, Nat.sub_self]; rfl) (fun i hi => by omega)
      rw [← ee] at f3 f6
      refine ⟨τ, f1, f2, f3, f4, ?_, fun _ => f6, fun z => ?_, fun z => ?_⟩
      · rw [f5, ce]; rfl
      · rw [ce] at z; exact absurd z (by decide)
      · rw [ce] at z; exact absurd z (by decide)
    · rw [if_neg c1] at ce ee
      by_cases c2 : 48 ≤ B (t_s B n j) ∧ B (t_s B n j) ≤ 57
      · rw [if_pos c2] at ce ee
        rw [if_pos (show B (t_s B n j) < 97 by omega), if_neg (show ¬ B (t_s B n j) < 48 by omega), if_neg (show ¬ 57 < B (t_s B n j) by omega), qM_next_158, if_neg (show ¬ (1 : Int) = 0 by decide)]
        obtain ⟨τ, f1, f2, f3, f4, f5, f6⟩ := M_next_161 hB (0, B (t_s B n j)) (s := t_s B n j) (n - t_s B n j) (t_s B n j) (xs (xs τ1 305 73 0) 305 72 0) rfl (ht τ1 s1) (by rw [xs_at, xup_ne (by decide), xs_at, xup_ne (by decide)]; exact p1) (by omega) (Nat.le_refl _) (by rw [xs_at, xup_ne (by decide), xs_at, xup_ne (by decide)]; exact q1) (by rw [xs_at, xup_ne (by decide), xs_at, xup_eq, Nat.sub_self]; rfl) (fun i hi => by omega)
        rw [← ee] at f3 f5 f6
        refine ⟨τ, f1, f2, f3, f4, ?_, fun z => ?_, fun _ => f6, fun z => ?_⟩
        · rw [f5, ce]; split <;> rfl
        · rw [ce] at z; split at z <;> exact absurd z (by decide)
        · rw [ce] at z; split at z <;> exact absurd z (by decide)
      · rw [if_neg c2] at ce ee
        have go : X iM_next 158 [(2, 305), (0, B (t_s B n j))] [(0, 0)] (xs (xs τ1 305 73 0) 305 72 0) = some ((9, 0), xs (xs (xs (xs (xs τ1 305 73 0) 305 72 0) 305 71 (@ite _ (sgn (B (t_s B n j))) (Classical.propDecidable _) 3 4)) 305 72 (B (t_s B n j))) 305 69 (t_e B n j : Int)) := by
          rw [M_next_158 c2, ee, show (xs (xs τ1 305 73 0) 305 72 0).1 305 69 = (t_s B n j : Int) by rw [xs_at, xup_ne (by decide), xs_at, xup_ne (by decide)]; exact p1, xw_t (by omega)]
        refine ⟨xs (xs (xs (xs (xs τ1 305 73 0) 305 72 0) 305 71 (@ite _ (sgn (B (t_s B n j))) (Classical.propDecidable _) 3 4)) 305 72 (B (t_s B n j))) 305 69 (t_e B n j : Int), ?_, slt_s (slt_s (slt_s (ht τ1 s1) (show pnx 71 by decide) _) (show pnx 72 by decide) _) (show pnx 69 by decide) _, by rw [xs_at, xup_eq], ?_, ?_, fun z => ?_, fun z => ?_, fun z => ?_⟩
        · rw [← go]
          by_cases c3 : B (t_s B n j) < 97
          · rw [if_pos c3]
            by_cases c4 : B (t_s B n j) < 48
            · rw [if_pos c4]
            · rw [if_neg c4, if_pos (show 57 < B (t_s B n j) by omega)]
          · rw [if_neg c3, if_pos (show 122 < B (t_s B n j) by omega), if_neg (show ¬ B (t_s B n j) < 48 by omega), if_pos (show 57 < B (t_s B n j) by omega)]
        · rw [xs_at, xup_ne (by decide), xs_at, xup_ne (by decide), xs_at, xup_ne (by decide), xs_at, xup_ne (by decide), xs_at, xup_ne (by decide)]
          exact q1
        · rw [xs_at, xup_ne (by decide), xs_at, xup_ne (by decide), xs_at, xup_eq, ce]
          by_cases h : sgn (B (t_s B n j))
          · rw [if_pos h, if_pos h, tk1_sgn h]
          · rw [if_neg h, if_neg h]; rfl
        · rw [ce] at z
          by_cases h : sgn (B (t_s B n j))
          · rw [if_pos h] at z; exact absurd z (sgn_ne h).2.1
          · rw [if_neg h] at z; exact absurd z (by decide)
        · rw [ce] at z
          by_cases h : sgn (B (t_s B n j))
          · rw [if_pos h] at z; exact absurd z (sgn_ne h).2.2.1
          · rw [if_neg h] at z; exact absurd z (by decide)
        · rw [xs_at, xup_ne (by decide), xs_at, xup_eq, ce]
          rw [ce] at z
          by_cases h : sgn (B (t_s B n j))
          · rw [if_pos h]
          · rw [if_neg h] at z; exact absurd z (by decide)
  · rw [if_neg c0, if_pos (show (-1 : Int) < 0 by decide)]
    rw [if_neg c0] at ce ee
    refine ⟨_, rfl, slt_s (ht τ1 s1) (show pnx 71 by decide) _, ?_, ?_, ?_, fun z => ?_, fun z => ?_, fun z => ?_⟩
    · rw [xs_at, xup_ne (by decide), xs_at, xup_ne (by decide), xs_at, xup_ne (by decide), ee]; exact p1
    · rw [xs_at, xup_ne (by decide), xs_at, xup_ne (by decide), xs_at, xup_ne (by decide)]; exact q1
    · rw [xs_at, xup_eq, ce]; rfl
    · rw [ce] at z; exact absurd z (by decide)
    · rw [ce] at z; exact absurd z (by decide)
    · rw [ce] at z; exact absurd z (by decide)
end NEXT

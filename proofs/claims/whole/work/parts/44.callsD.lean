/-! calls that write a little: days, moves, undoing, lots, beyond, dryers, clearing, supply, wants -/
theorem xw_s {n : Nat} (h : n < 100000) : xw ((n : Int) + 1) = (n : Int) + 1 := xw_id (by omega) (by omega)
theorem xw_p {n : Nat} (h : n < 100000) : xw ((n : Int) + 1 - 1) = (n : Int) := by
  rw [Int.add_sub_cancel]
  exact xw_id (by omega) (by omega)
section CALLSD
variable {σ : xS}
/-- the book's part of a write -/
theorem pJ_mv {m m' : Nat → Nat → Int} (h : pJ m) (hn : bk_J m') (u : ∀ k, k ≠ 22 → m' 305 k = m 305 k) (fr : ∀ a, a ≠ 216 → a ≠ 305 → (a < 220 ∨ 228 < a) → (a < 318 ∨ 323 < a) → m' a = m a) : pJ m' :=
  pJ_bk h hn (fun a h1 h2 h3 h4 => fr a h3 h4 (by omega) (by omega)) (fun k h1 _ _ _ => u k h1) (Int.le_of_eq (u 0 (by decide)).symm)
theorem st_move (hP : pJ σ.1) (a1 a2 a3 : Int) (hr : -2147483648 ≤ a3 ∧ a3 < 2147483648) : stOK σ iC_move [(2, 200), (0, a1), (0, a2), (0, a3), (9, 0)] iM_move [(2, 305), (0, a1), (0, a2), (0, a3)] := by
  have hB := hP.2.2.1
  have hb := hB.1
  unfold bk_B at hb
  have h11 := hP.2.1.2.1
  obtain ⟨-, ⟨-, -, e9⟩, e10, e11, e12, -⟩ := id hB.2.1
  have q1 := qC_move_0 a1 a2 a3 σ
  rw [e11, xw_id (x := σ.1 305 15 - 1) (by omega) (by omega), C_isPlace hP.2.1 _ hr, Option.bind_some, qC_move_16, e9, e10, e12] at q1
  by_cases hc : (0 ≤ a1 ∧ a1 < σ.1 305 15) ∧ (σ.1 317 a1.toNat ≤ a2 ∧ a2 ≤ σ.1 305 0) ∧ bk_isP σ.1 a3 ∧ σ.1 305 22 < 600
  · obtain ⟨c1, c2, c3, c4⟩ := hc
    obtain ⟨τ, τ', t1, t2, t3, t4, t5, t6, t7, t8, t9⟩ := bk_addMove hB (b := -1) c1 c2 c3 c4
    have f305 : τ.1 305 = σ.1 305 := t6 305 (by decide) (by decide)
    have f317 : τ.1 317 = σ.1 317 := t6 317 (by decide) (by decide)
    refine ⟨(0, σ.1 305 22), τ, τ', ?_, ?_, pJ_mv hP t5 t8 t9, t4, fun a ha => t9 a (by omega) (by omega) (by omega) (by omega), fun k hk => t8 k (by omega)⟩
    · rw [if_neg (by omega), if_neg (by omega), if_pos c3, if_neg (by decide), if_pos (hB.xs c1), if_neg (by omega), if_neg (by omega), if_pos c4, t1, Option.bind_some, qC_move_75] at q1
      exact q1
    · rw [qM_move_0, f305, f317, if_neg (by omega), if_pos c1.2, if_pos (hB.xs c1), if_neg (by omega), if_neg (by omega), t2, xw_id (x := 10 + σ.1 305 11) (by omega) (by omega)]
      simp only [Option.bind_some, qM_move_54]
      have c3 : (0 ≤ a3 ∧ a3 ≤ 4) ∨ (10 ≤ a3 ∧ a3 < 10 + σ.1 305 11) := c3
      repeat' (refine xite (fun _ => ?_) (fun _ => ?_))
      all_goals first | rfl | (exfalso; omega)
  · refine st_same (v := (0, -1)) hP ?_ ?_
    · rw [q1]
      by_cases c3 : bk_isP σ.1 a3
      · rw [if_pos c3]
        have hc' : ¬ ((0 ≤ a1 ∧ a1 < σ.1 305 15) ∧ (σ.1 317 a1.toNat ≤ a2 ∧ a2 ≤ σ.1 305 0) ∧ σ.1 305 22 < 600) := fun q => hc ⟨q.1, q.2.1, c3, q.2.2⟩
        clear hc c3
        repeat' (refine xite (fun _ => ?_) (fun _ => ?_))
        all_goals first | rfl | (exfalso; omega)
      · rw [if_neg c3]
        repeat' (refine xite (fun _ => ?_) (fun _ => ?_))
        all_goals first | rfl | (exfalso; omega)
    · unfold bk_isP at hc
      rw [qM_move_0, xw_id (x := 10 + σ.1 305 11) (by omega) (by omega)]
      repeat' (refine xite (fun _ => ?_) (fun _ => ?_))
      all_goals first | rfl | (exfalso; omega)
theorem st_undo (hP : pJ σ.1) (a1 : Int) : stOK σ iC_undo [(2, 200), (0, a1)] iM_undo [(2, 305), (0, a1)] := by
  have hB := hP.2.2.1
  have hb := hB.1
  unfold bk_B at hb
  obtain ⟨hV0, -, hVm, hVs⟩ := id hB.2.2.2
  obtain ⟨⟨e1, e2, e3, e4, e5, e6⟩, ⟨e7, e8, e9⟩, e10, e11, e12, e13⟩ := id hB.2.1
  have q1 := qC_undo_0 a1 σ
  rw [qBook_takeBack_0, e10, xw_id (x := σ.1 305 22 - 1) (by omega) (by omega), e5, e12, e13] at q1
  by_cases hc : (0 ≤ a1 ∧ a1 < σ.1 305 22) ∧ σ.1 322 a1.toNat = -1
  · obtain ⟨n, hn⟩ : ∃ n : Nat, a1 = n := ⟨a1.toNat, by omega⟩
    subst hn
    rw [Int.toNat_natCast] at q1 hc
    have hx : xin (n : Int) 600 := ⟨by omega, by omega⟩
    rw [if_neg (by omega), if_neg (by omega), if_pos hx, if_pos hc.2, if_pos hx, Option.bind_some, qC_undo_8, if_pos (show xna 4 1 = 1 from rfl)] at q1
    have f305 : (xs (xs σ 226 n (σ.1 305 0)) 216 15 (xw (σ.1 305 23 + 1))).1 305 = σ.1 305 := by rw [xs_ne (by decide), xs_ne (by decide)]
    have f322 : (xs (xs σ 226 n (σ.1 305 0)) 216 15 (xw (σ.1 305 23 + 1))).1 322 = σ.1 322 := by rw [xs_ne (by decide), xs_ne (by decide)]
    have g : ∀ ω, xs (xs (xs (xs σ 226 n (σ.1 305 0)) 216 15 (xw (σ.1 305 23 + 1))) 322 n (σ.1 305 0)) 305 23 (xw (σ.1 305 23 + 1)) = ω → (∀ a, a ≠ 226 → a ≠ 216 → a ≠ 322 → a ≠ 305 → ω.1 a = σ.1 a) ∧ ω.1 226 = xup (σ.1 322) n (σ.1 305 0) ∧ ω.1 216 = xup (σ.1 216) 15 (xw (σ.1 305 23 + 1)) ∧ ω.1 322 = xup (σ.1 322) n (σ.1 305 0) ∧ ω.1 305 = xup (σ.1 305) 23 (xw (σ.1 305 23 + 1)) := by
      clear q1 f305 f322 hc hVm hVs
      rintro ω rfl
      refine ⟨fun a h1 h2 h3 h4 => ?_, ?_, ?_, ?_, ?_⟩
      · rw [xs_ne h4, xs_ne h3, xs_ne h2, xs_ne h1]
      · rw [xs_ne (by decide), xs_ne (by decide), xs_ne (by decide), xs_at, e5]
      · rw [xs_ne (by decide), xs_ne (by decide), xs_at, xs_ne (by decide)]
      · rw [xs_ne (by decide), xs_at, xs_ne (by decide), xs_ne (by decide)]
      · rw [xs_at, xs_ne (by decide), xs_ne (by decide), xs_ne (by decide)]
    obtain ⟨fr, k226, k216, k322, k305⟩ := g _ rfl
    refine ⟨(0, 1), _, xs (xs (xs (xs σ 226 n (σ.1 305 0)) 216 15 (xw (σ.1 305 23 + 1))) 322 n (σ.1 305 0)) 305 23 (xw (σ.1 305 23 + 1)), q1, ?_, ?_, rfl, fun a ha => fr a (by omega) (by omega) (by omega) (by omega), fun k hk => by rw [k305, xup_ne (by omega)]⟩
    · rw [qM_undo_0, f305, f322, Int.toNat_natCast, if_neg (by omega), if_pos hc.1.2, if_pos hx, if_pos (by omega), if_pos hx]
    · clear q1 f305 f322 g
      generalize xs (xs (xs (xs σ 226 n (σ.1 305 0)) 216 15 (xw (σ.1 305 23 + 1))) 322 n (σ.1 305 0)) 305 23 (xw (σ.1 305 23 + 1)) = ω at *
      have u : ∀ k, k ≠ 23 → ω.1 305 k = σ.1 305 k := fun k hk => by rw [k305, xup_ne hk]
      have v : ∀ k, k ≠ 15 → ω.1 216 k = σ.1 216 k := fun k hk => by rw [k216, xup_ne hk]
      have f : ∀ a, a ≠ 226 → a ≠ 216 → a ≠ 322 → a ≠ 305 → ω.1 a = σ.1 a := fr
      have en : bk_n ω.1 = bk_n σ.1 := by unfold bk_n; rw [u 22 (by decide)]
      have ech : ∀ s j, bk_ch ω.1 s j = bk_ch σ.1 s j := fun s j => bk_ch_cg fun i _ => by rw [f 318 (by decide) (by decide) (by decide) (by decide), f 319 (by decide) (by decide) (by decide) (by decide)]; exact ⟨rfl, rfl⟩
      refine pJ_bk hP ⟨?_, ⟨⟨?_, ?_, ?_, ?_, ?_, ?_⟩, ⟨?_, ?_, ?_⟩, ?_, ?_, ?_, ?_⟩, ⟨?_, ?_⟩, ?_, rfl, ?_, ?_⟩ (fun a h1 h2 h3 h4 => f a (by omega) (by omega) (by omega) (by omega)) (fun k _ _ h3 _ => u k h3) (Int.le_of_eq (u 0 (by decide)).symm)
      · unfold bk_B
        rw [u 22 (by decide), u 15 (by decide)]
        exact hb
      · rw [f 222 (by decide) (by decide) (by decide) (by decide), f 318 (by decide) (by decide) (by decide) (by decide), e1]
      · rw [f 223 (by decide) (by decide) (by decide) (by decide), f 319 (by decide) (by decide) (by decide) (by decide), e2]
      · rw [f 224 (by decide) (by decide) (by decide) (by decide), f 320 (by decide) (by decide) (by decide) (by decide), e3]
      · rw [f 225 (by decide) (by decide) (by decide) (by decide), f 321 (by decide) (by decide) (by decide) (by decide), e4]
      · rw [k226, k322]
      · rw [f 227 (by decide) (by decide) (by decide) (by decide), f 323 (by decide) (by decide) (by decide) (by decide), e6]
      · rw [f 217 (by decide) (by decide) (by decide) (by decide), f 315 (by decide) (by decide) (by decide) (by decide), e7]
      · rw [f 218 (by decide) (by decide) (by decide) (by decide), f 316 (by decide) (by decide) (by decide) (by decide), e8]
      · rw [f 219 (by decide) (by decide) (by decide) (by decide), f 317 (by decide) (by decide) (by decide) (by decide), e9]
      · rw [v 14 (by decide), u 22 (by decide), e10]
      · rw [v 6 (by decide), u 15 (by decide), e11]
      · rw [v 0 (by decide), u 0 (by decide), e12]
      · rw [k216, k305, xup_eq, xup_eq]
      · intro s hs
        rw [u 15 (by decide)] at hs
        rw [en, ech, f 228 (by decide) (by decide) (by decide) (by decide), f 220 (by decide) (by decide) (by decide) (by decide)]
        exact hB.2.2.1.1 s hs
      · intro s
        rw [en, ech, f 221 (by decide) (by decide) (by decide) (by decide)]
        exact hB.2.2.1.2 s
      · rw [u 0 (by decide)]; exact hV0
      · intro i hi
        rw [en] at hi
        have := hVm i hi
        rw [f 317 (by decide) (by decide) (by decide) (by decide), f 318 (by decide) (by decide) (by decide) (by decide), f 319 (by decide) (by decide) (by decide) (by decide), f 320 (by decide) (by decide) (by decide) (by decide), f 321 (by decide) (by decide) (by decide) (by decide), u 15 (by decide), u 0 (by decide), u 11 (by decide), k322, xup_at]
        refine ⟨this.1, this.2.1, this.2.2.1, this.2.2.2.1, ?_⟩
        by_cases e : i = n
        · rw [if_pos e]; omega
        · rw [if_neg e]; exact this.2.2.2.2
      · intro s hs
        rw [u 15 (by decide)] at hs
        rw [f 317 (by decide) (by decide) (by decide) (by decide), f 315 (by decide) (by decide) (by decide) (by decide), f 316 (by decide) (by decide) (by decide) (by decide), u 0 (by decide), u 6 (by decide)]
        exact hVs s hs
  · refine st_same (v := (0, 0)) hP ?_ ?_
    · rw [q1]
      by_cases c1 : a1 < 0
      · rw [if_pos c1, Option.bind_some, qC_undo_8, if_pos (show xna 4 0 = 0 from rfl)]
      · rw [if_neg c1]
        by_cases c2 : σ.1 305 22 - 1 < a1
        · rw [if_pos c2, Option.bind_some, qC_undo_8, if_pos (show xna 4 0 = 0 from rfl)]
        · rw [if_neg c2, if_pos (xin_of (by omega) (by omega)), if_neg (by omega), Option.bind_some, qC_undo_8, if_pos (show xna 4 0 = 0 from rfl)]
    · rw [qM_undo_0]
      have hm : 0 ≤ a1 ∧ a1 < σ.1 305 22 → -1 ≤ σ.1 322 a1.toNat := fun h => (hVm a1.toNat (by unfold bk_n; omega)).2.2.2.2.1
      repeat' (refine xite (fun _ => ?_) (fun _ => ?_))
      all_goals first | rfl | (exfalso; omega)
theorem st_sheet (hP : pJ σ.1) (a1 a2 : Int) : stOK σ iC_sheet [(2, 200), (0, a1), (0, a2), (9, 0)] iM_sheet [(2, 305), (0, a1), (0, a2)] := by
  have hB := hP.2.2.1
  have hb := hB.1
  unfold bk_B at hb
  obtain ⟨hV0, -, hVm, hVs⟩ := id hB.2.2.2
  obtain ⟨⟨e1, e2, e3, e4, e5, e6⟩, ⟨e7, e8, e9⟩, e10, e11, e12, e13⟩ := id hB.2.1
  have es := hP.1.1.2.2.2.2.2
  have h6 := hP.1.2.1
  have q1 := qC_sheet_0 a1 a2 σ
  rw [es, xw_id (x := σ.1 305 6 - 1) (by omega) (by omega), e11] at q1
  by_cases hc : (0 ≤ a1 ∧ a1 < σ.1 305 6) ∧ (0 ≤ a2 ∧ a2 ≤ 3) ∧ σ.1 305 15 < 150
  · obtain ⟨n, hn⟩ : ∃ n : Nat, σ.1 305 15 = n := ⟨(σ.1 305 15).toNat, by omega⟩
    have hx : xin (n : Int) 150 := ⟨by omega, by omega⟩
    have hk : n < 100000 := by omega
    rw [if_neg (by omega), if_neg (by omega), if_neg (by omega), if_neg (by omega), if_pos hc.2.2, qBook_addSheet_0, e11, hn, if_pos hx, if_pos hx, if_pos hx, if_pos hx, xw_s hk, xw_p hk, Int.toNat_natCast, e12, Option.bind_some, qC_sheet_52] at q1
    have f305 : (xs (xs (xs (xs (xs σ 217 n a1) 218 n a2) 219 n (σ.1 305 0)) 220 n (-1)) 216 6 ((n : Int) + 1)).1 305 = σ.1 305 := by
      repeat rw [xs_ne (by decide)]
    have g : ∀ ω, xs (xs (xs (xs (xs (xs (xs (xs (xs σ 217 n a1) 218 n a2) 219 n (σ.1 305 0)) 220 n (-1)) 216 6 ((n : Int) + 1)) 315 n a1) 316 n a2) 317 n (σ.1 305 0)) 305 15 ((n : Int) + 1) = ω → (∀ a, (a < 216 ∨ 220 < a) → (a < 315 ∨ 317 < a) → a ≠ 305 → ω.1 a = σ.1 a) ∧ (ω.1 217 = xup (σ.1 315) n a1 ∧ ω.1 218 = xup (σ.1 316) n a2 ∧ ω.1 219 = xup (σ.1 317) n (σ.1 305 0)) ∧ ω.1 220 = xup (σ.1 220) n (-1) ∧ ω.1 216 = xup (σ.1 216) 6 ((n : Int) + 1) ∧ (ω.1 315 = xup (σ.1 315) n a1 ∧ ω.1 316 = xup (σ.1 316) n a2 ∧ ω.1 317 = xup (σ.1 317) n (σ.1 305 0)) ∧ ω.1 305 = xup (σ.1 305) 15 ((n : Int) + 1) := by
      clear q1 f305 hc hVm hVs hx hn hk
      rintro ω rfl
      refine ⟨fun a h1 h2 h3 => ?_, ⟨?_, ?_, ?_⟩, ?_, ?_, ⟨?_, ?_, ?_⟩, ?_⟩
      · rw [xs_ne h3, xs_ne (by omega), xs_ne (by omega), xs_ne (by omega), xs_ne (by omega), xs_ne (by omega), xs_ne (by omega), xs_ne (by omega), xs_ne (by omega)]
      · rw [xs_ne (by decide), xs_ne (by decide), xs_ne (by decide), xs_ne (by decide), xs_ne (by decide), xs_ne (by decide), xs_ne (by decide), xs_ne (by decide), xs_at, e7]
      · rw [xs_ne (by decide), xs_ne (by decide), xs_ne (by decide), xs_ne (by decide), xs_ne (by decide), xs_ne (by decide), xs_ne (by decide), xs_at, xs_ne (by decide), e8]
      · rw [xs_ne (by decide), xs_ne (by decide), xs_ne (by decide), xs_ne (by decide), xs_ne (by decide), xs_ne (by decide), xs_at, xs_ne (by decide), xs_ne (by decide), e9]
      · rw [xs_ne (by decide), xs_ne (by decide), xs_ne (by decide), xs_ne (by decide), xs_ne (by decide), xs_at, xs_ne (by decide), xs_ne (by decide), xs_ne (by decide)]
      · rw [xs_ne (by decide), xs_ne (by decide), xs_ne (by decide), xs_ne (by decide), xs_at, xs_ne (by decide), xs_ne (by decide), xs_ne (by decide), xs_ne (by decide)]
      · rw [xs_ne (by decide), xs_ne (by decide), xs_ne (by decide), xs_at, xs_ne (by decide), xs_ne (by decide), xs_ne (by decide), xs_ne (by decide), xs_ne (by decide)]
      · rw [xs_ne (by decide), xs_ne (by decide), xs_at, xs_ne (by decide), xs_ne (by decide), xs_ne (by decide), xs_ne (by decide), xs_ne (by decide), xs_ne (by decide)]
      · rw [xs_ne (by decide), xs_at, xs_ne (by decide), xs_ne (by decide), xs_ne (by decide), xs_ne (by decide), xs_ne (by decide), xs_ne (by decide), xs_ne (by decide)]
      · rw [xs_at, xs_ne (by decide), xs_ne (by decide), xs_ne (by decide), xs_ne (by decide), xs_ne (by decide), xs_ne (by decide), xs_ne (by decide), xs_ne (by decide)]
    obtain ⟨fr, ⟨k217, k218, k219⟩, k220, k216, ⟨k315, k316, k317⟩, k305⟩ := g _ rfl
    refine ⟨(0, (n : Int)), _, xs (xs (xs (xs (xs (xs (xs (xs (xs σ 217 n a1) 218 n a2) 219 n (σ.1 305 0)) 220 n (-1)) 216 6 ((n : Int) + 1)) 315 n a1) 316 n a2) 317 n (σ.1 305 0)) 305 15 ((n : Int) + 1), q1, ?_, ?_, rfl, fun a ha => fr a (by omega) (by omega) (by omega), fun k hk => by rw [k305, xup_ne (by omega)]⟩
    · rw [qM_sheet_0, f305, hn, if_neg (by omega), if_pos hc.1.2, if_neg (by omega), if_neg (by omega), if_neg (by omega), if_pos hx, if_pos hx, if_pos hx, xw_s hk, xw_p hk, Int.toNat_natCast]
    · clear q1 f305 g hk
      generalize xs (xs (xs (xs (xs (xs (xs (xs (xs σ 217 n a1) 218 n a2) 219 n (σ.1 305 0)) 220 n (-1)) 216 6 ((n : Int) + 1)) 315 n a1) 316 n a2) 317 n (σ.1 305 0)) 305 15 ((n : Int) + 1) = ω at *
      have u : ∀ k, k ≠ 15 → ω.1 305 k = σ.1 305 k := fun k hk => by rw [k305, xup_ne hk]
      have u15 : ω.1 305 15 = (n : Int) + 1 := by rw [k305, xup_eq]
      have v : ∀ k, k ≠ 6 → ω.1 216 k = σ.1 216 k := fun k hk => by rw [k216, xup_ne hk]
      have f : ∀ a, 221 ≤ a → a ≤ 304 → ω.1 a = σ.1 a := fun a h1 h2 => fr a (by omega) (by omega) (by omega)
      have f' : ∀ a, 318 ≤ a → ω.1 a = σ.1 a := fun a h1 => fr a (by omega) (by omega) (by omega)
      have en : bk_n ω.1 = bk_n σ.1 := by unfold bk_n; rw [u 22 (by decide)]
      have ech : ∀ s j, bk_ch ω.1 s j = bk_ch σ.1 s j := fun s j => bk_ch_cg fun i _ => by rw [f' 318 (by decide), f' 319 (by decide)]; exact ⟨rfl, rfl⟩
      refine pJ_bk hP ⟨?_, ⟨⟨?_, ?_, ?_, ?_, ?_, ?_⟩, ⟨?_, ?_, ?_⟩, ?_, ?_, ?_, ?_⟩, ⟨?_, ?_⟩, ?_, rfl, ?_, ?_⟩ (fun a h1 h2 h3 h4 => fr a (by omega) (by omega) (by omega)) (fun k _ h2 _ _ => u k h2) (Int.le_of_eq (u 0 (by decide)).symm)
      · unfold bk_B
        rw [u 22 (by decide), u15]
        exact ⟨hb.1, by omega, by omega⟩
      · rw [f 222 (by decide) (by decide), f' 318 (by decide), e1]
      · rw [f 223 (by decide) (by decide), f' 319 (by decide), e2]
      · rw [f 224 (by decide) (by decide), f' 320 (by decide), e3]
      · rw [f 225 (by decide) (by decide), f' 321 (by decide), e4]
      · rw [f 226 (by decide) (by decide), f' 322 (by decide), e5]
      · rw [f 227 (by decide) (by decide), f' 323 (by decide), e6]
      · rw [k217, k315]
      · rw [k218, k316]
      · rw [k219, k317]
      · rw [v 14 (by decide), u 22 (by decide), e10]
      · rw [k216, u15, xup_eq]
      · rw [v 0 (by decide), u 0 (by decide), e12]
      · rw [v 15 (by decide), u 23 (by decide), e13]
      · intro s hs
        rw [u15] at hs
        rw [en, ech, f 228 (by decide) (by decide), k220, xup_at]
        by_cases e : s = n
        · subst e
          rw [if_pos rfl]
          have : bk_ch σ.1 s (bk_n σ.1) = [] := by
            refine List.eq_nil_iff_forall_not_mem.mpr fun j hj => ?_
            obtain ⟨j1, j2⟩ := bk_ch_mem.mp hj
            have := (hVm j j1).1
            omega
          rw [this]
          rfl
        · rw [if_neg e]
          exact hB.2.2.1.1 s (by omega)
      · intro s
        rw [en, ech, f 221 (by decide) (by decide)]
        exact hB.2.2.1.2 s
      · rw [u 0 (by decide)]; exact hV0
      · intro i hi
        rw [en] at hi
        have := hVm i hi
        rw [k317, f' 318 (by decide), f' 319 (by decide), f' 320 (by decide), f' 321 (by decide), f' 322 (by decide), u15, u 0 (by decide), u 11 (by decide), xup_ne (by omega)]
        exact ⟨by omega, this.2⟩
      · intro s hs
        rw [u15] at hs
        rw [k317, k315, k316, u 0 (by decide), u 6 (by decide)]
        by_cases e : s = n
        · subst e
          simp only [xup_eq]
          exact ⟨⟨hV0.1, Int.le_refl _⟩, hc.1, hc.2.1⟩
        · simp only [xup_ne e]
          exact hVs s (by omega)
  · refine st_same (v := (0, -1)) hP ?_ ?_
    · rw [q1]
      repeat' (refine xite (fun _ => ?_) (fun _ => ?_))
      all_goals first | rfl | (exfalso; omega)
    · rw [qM_sheet_0]
      repeat' (refine xite (fun _ => ?_) (fun _ => ?_))
      all_goals first | rfl | (exfalso; omega)
end CALLSD

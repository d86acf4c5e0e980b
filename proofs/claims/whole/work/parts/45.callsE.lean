/-! calls that write one thing -/
section CALLSE
variable {σ : xS}
theorem st_day (hP : pJ σ.1) (a1 : Int) : stOK σ iC_day [(2, 200), (0, a1)] iM_day [(2, 305), (0, a1)] := by
  have e12 := hP.2.2.1.2.1.2.2.2.2.1
  have q1 := qC_day_0 a1 σ
  rw [e12] at q1
  by_cases hc : σ.1 305 0 < a1 ∧ a1 ≤ 1000
  · rw [if_pos hc.1, if_neg (by omega)] at q1
    refine ⟨(0, 1), _, xs (xs σ 216 0 a1) 305 0 a1, q1, ?_, ?_, rfl, fun a ha => by rw [xs_ne (by omega), xs_ne (by omega)], fun k hk => by rw [xs_at, xup_ne (by omega), xs_ne (by decide)]⟩
    · rw [qM_day_0, xs_ne (show 305 ≠ 216 by decide), if_pos hc.1, if_neg (by omega)]
    · have u : ∀ k, k ≠ 0 → (xs (xs σ 216 0 a1) 305 0 a1).1 305 k = σ.1 305 k := fun k hk => by rw [xs_at, xup_ne hk, xs_ne (by decide)]
      have u0 : (xs (xs σ 216 0 a1) 305 0 a1).1 305 0 = a1 := by rw [xs_at, xup_eq]
      have v : ∀ k, k ≠ 0 → (xs (xs σ 216 0 a1) 305 0 a1).1 216 k = σ.1 216 k := fun k hk => by rw [xs_ne (by decide), xs_at, xup_ne hk]
      have v0 : (xs (xs σ 216 0 a1) 305 0 a1).1 216 0 = a1 := by rw [xs_ne (by decide), xs_at, xup_eq]
      have fr : ∀ a, a ≠ 216 → a ≠ 305 → (xs (xs σ 216 0 a1) 305 0 a1).1 a = σ.1 a := fun a h1 h2 => by rw [xs_ne h2, xs_ne h1]
      clear q1
      generalize xs (xs σ 216 0 a1) 305 0 a1 = ω at *
      obtain ⟨hb, ⟨⟨e1, e2, e3, e4, e5, e6⟩, ⟨e7, e8, e9⟩, e10, e11, -, e13⟩, hC, hV0, -, hVm, hVs⟩ := id hP.2.2.1
      have en : bk_n ω.1 = bk_n σ.1 := by unfold bk_n; rw [u 22 (by decide)]
      have ech : ∀ s j, bk_ch ω.1 s j = bk_ch σ.1 s j := fun s j => bk_ch_cg fun i _ => by rw [fr 318 (by decide) (by decide), fr 319 (by decide) (by decide)]; exact ⟨rfl, rfl⟩
      refine pJ_bk hP ⟨?_, ⟨⟨?_, ?_, ?_, ?_, ?_, ?_⟩, ⟨?_, ?_, ?_⟩, ?_, ?_, ?_, ?_⟩, ⟨?_, ?_⟩, ?_, rfl, ?_, ?_⟩ (fun a h1 h2 h3 h4 => fr a h3 h4) (fun k _ _ _ h4 => u k h4) (by rw [u0]; omega)
      · unfold bk_B at *
        rw [u 22 (by decide), u 15 (by decide)]
        exact hb
      · rw [fr 222 (by decide) (by decide), fr 318 (by decide) (by decide), e1]
      · rw [fr 223 (by decide) (by decide), fr 319 (by decide) (by decide), e2]
      · rw [fr 224 (by decide) (by decide), fr 320 (by decide) (by decide), e3]
      · rw [fr 225 (by decide) (by decide), fr 321 (by decide) (by decide), e4]
      · rw [fr 226 (by decide) (by decide), fr 322 (by decide) (by decide), e5]
      · rw [fr 227 (by decide) (by decide), fr 323 (by decide) (by decide), e6]
      · rw [fr 217 (by decide) (by decide), fr 315 (by decide) (by decide), e7]
      · rw [fr 218 (by decide) (by decide), fr 316 (by decide) (by decide), e8]
      · rw [fr 219 (by decide) (by decide), fr 317 (by decide) (by decide), e9]
      · rw [v 14 (by decide), u 22 (by decide), e10]
      · rw [v 6 (by decide), u 15 (by decide), e11]
      · rw [v0, u0]
      · rw [v 15 (by decide), u 23 (by decide), e13]
      · intro s hs
        rw [u 15 (by decide)] at hs
        rw [en, ech, fr 228 (by decide) (by decide), fr 220 (by decide) (by decide)]
        exact hC.1 s hs
      · intro s
        rw [en, ech, fr 221 (by decide) (by decide)]
        exact hC.2 s
      · rw [u0]; omega
      · intro i hi
        rw [en] at hi
        have := hVm i hi
        rw [fr 317 (by decide) (by decide), fr 318 (by decide) (by decide), fr 319 (by decide) (by decide), fr 320 (by decide) (by decide), fr 321 (by decide) (by decide), fr 322 (by decide) (by decide), u 15 (by decide), u0, u 11 (by decide)]
        refine ⟨this.1, ?_, this.2.2.1, ?_, ?_⟩
        all_goals omega
      · intro s hs
        rw [u 15 (by decide)] at hs
        have := hVs s hs
        rw [fr 317 (by decide) (by decide), fr 315 (by decide) (by decide), fr 316 (by decide) (by decide), u0, u 6 (by decide)]
        exact ⟨by omega, this.2⟩
  · refine st_same (v := (0, 0)) hP ?_ ?_
    · rw [q1]
      repeat' (refine xite (fun _ => ?_) (fun _ => ?_))
      all_goals first | rfl | (exfalso; omega)
    · rw [qM_day_0]
      repeat' (refine xite (fun _ => ?_) (fun _ => ?_))
      all_goals first | rfl | (exfalso; omega)
/-- the groups behind the book, when little is written -/
theorem pJ_few {m m' : Nat → Nat → Int} (h : pJ m) (hq : ev_J m' ∧ sp_J m' ∧ ng_J m' ∧ wn_J m') (fr : ∀ a, (200 ≤ a ∧ a ≤ 228) ∨ (239 ≤ a ∧ a ≤ 242) ∨ a = 304 ∨ (306 ≤ a ∧ a ≤ 328) ∨ a = 357 → m' a = m a) (f229 : m' 229 17 = m 229 17) (sl : ∀ k, k ≤ 30 ∨ k = 66 ∨ k = 67 → m' 305 k = m 305 k) : pJ m' := by
  refine pJ_oth h ⟨⟨ht_J_cg (fun a ha => fr a (by omega)) f229 (sl _ (by omega)) h.2.2.2.1, hq.1, hq.2.1, hq.2.2.1⟩, hq.2.2.2, tp_J_cg (fun a ha => fr a (by omega)) (fun k _ => by rw [fr 200 (by omega)]) (fun k hk => sl k (by omega)) h.2.2.2.2.2.2.2.2⟩ (fun a ha => fr a (by omega)) (fun k hk => sl k (by omega))
theorem st_lot (hP : pJ σ.1) (a1 a2 : Int) : stOK σ iC_lot [(2, 200), (0, a1), (0, a2)] iM_lot [(2, 305), (0, a1), (0, a2)] := by
  by_cases hc : (0 ≤ a1 ∧ a1 ≤ 3) ∧ (0 ≤ a2 ∧ a2 ≤ 15)
  · obtain ⟨n, hn⟩ : ∃ n : Nat, a1 = n := ⟨a1.toNat, by omega⟩
    subst hn
    have hx : xin (n : Int) 4 := ⟨by omega, by omega⟩
    refine ⟨(0, 1), xs σ 230 n a2, xs (xs σ 230 n a2) 329 n a2, ?_, ?_, ?_, rfl, fun a ha => by rw [xs_ne (by omega), xs_ne (by omega)], fun k hk => by rw [xs_ne (by decide), xs_ne (by decide)]⟩
    · rw [qC_lot_0, if_neg (by omega), if_neg (by omega), if_neg (by omega), if_neg (by omega), if_pos hx, Int.toNat_natCast]
    · rw [qM_lot_0, if_neg (by omega), if_neg (by omega), if_neg (by omega), if_neg (by omega), if_pos hx, Int.toNat_natCast]
    · have fr : ∀ a, a ≠ 230 → a ≠ 329 → (xs (xs σ 230 n a2) 329 n a2).1 a = σ.1 a := fun a h1 h2 => by rw [xs_ne h2, xs_ne h1]
      have k230 : (xs (xs σ 230 n a2) 329 n a2).1 230 = xup (σ.1 230) n a2 := by rw [xs_ne (by decide), xs_at]
      have k329 : (xs (xs σ 230 n a2) 329 n a2).1 329 = xup (σ.1 329) n a2 := by rw [xs_at, xs_ne (by decide)]
      generalize xs (xs σ 230 n a2) 329 n a2 = ω at *
      obtain ⟨⟨e1, e2, e3, e4, e5, e6⟩, ⟨g1, g2, g3, g4, g5, g6⟩, b1, b2, b3, b4, b5, b6⟩ := id hP.2.2.2.2.1
      refine pJ_few hP ⟨⟨⟨?_, ?_, ?_, ?_, ?_, ?_⟩, ⟨?_, ?_, ?_, ?_, ?_, ?_⟩, ?_, ?_, ?_, fun i hi => ?_, fun i hi => ?_, fun i hi => ?_⟩, sp_J_cg (fun k _ => by rw [fr _ (by omega) (by omega)]) (fun k _ _ => by rw [fr _ (by omega) (by omega)]) hP.2.2.2.2.2.1, ng_J_cg (fun a _ => fr a (by omega) (by omega)) (fun k _ => by rw [fr _ (by omega) (by omega)]) (fun k _ => by rw [fr _ (by omega) (by omega)]) (Int.le_of_eq (by rw [fr _ (by omega) (by omega)])) hP.2.2.2.2.2.2.1, wn_J_cg (fun a _ => fr a (by omega) (by omega)) hP.2.2.2.2.2.2.2.1⟩ (fun a ha => fr a (by omega) (by omega)) (by rw [fr _ (by omega) (by omega)]) (fun k hk => by rw [fr _ (by omega) (by omega)])
      · rw [k230, k329, e1]
      · rw [fr 229 (by decide) (by decide), fr 305 (by decide) (by decide), e2]
      · rw [fr 231 (by decide) (by decide), fr 330 (by decide) (by decide), e3]
      · rw [fr 232 (by decide) (by decide), fr 331 (by decide) (by decide), e4]
      · rw [fr 233 (by decide) (by decide), fr 332 (by decide) (by decide), e5]
      · rw [fr 229 (by decide) (by decide), fr 305 (by decide) (by decide), e6]
      · rw [fr 234 (by decide) (by decide), fr 333 (by decide) (by decide), g1]
      · rw [fr 235 (by decide) (by decide), fr 334 (by decide) (by decide), g2]
      · rw [fr 236 (by decide) (by decide), fr 335 (by decide) (by decide), g3]
      · rw [fr 237 (by decide) (by decide), fr 336 (by decide) (by decide), g4]
      · rw [fr 238 (by decide) (by decide), fr 337 (by decide) (by decide), g5]
      · rw [fr 229 (by decide) (by decide), fr 305 (by decide) (by decide), g6]
      · rw [fr 305 (by decide) (by decide)]; exact b1
      · rw [fr 305 (by decide) (by decide)]; exact b2
      · rw [fr 305 (by decide) (by decide)]; exact b3
      · rw [k329, xup_at]
        by_cases e : i = n
        · rw [if_pos e]; exact hc.2
        · rw [if_neg e]; exact b4 i hi
      · rw [fr 305 (by decide) (by decide)] at *
        rw [fr 330 (by decide) (by decide), fr 331 (by decide) (by decide)]
        exact b5 i hi
      · rw [fr 305 (by decide) (by decide)] at hi
        rw [fr 335 (by decide) (by decide), fr 336 (by decide) (by decide)]
        exact b6 i hi
  · refine st_same (v := (0, 0)) hP ?_ ?_
    · rw [qC_lot_0]
      repeat' (refine xite (fun _ => ?_) (fun _ => ?_))
      all_goals first | rfl | (exfalso; omega)
    · rw [qM_lot_0]
      repeat' (refine xite (fun _ => ?_) (fun _ => ?_))
      all_goals first | rfl | (exfalso; omega)
theorem st_beyond (hP : pJ σ.1) (a1 : Int) : stOK σ iC_beyond [(2, 200), (0, a1)] iM_beyond [(2, 305), (0, a1)] := by
  by_cases hc : 2 ≤ a1 ∧ a1 ≤ 10000
  · refine ⟨(0, 1), xs σ 229 2 a1, xs (xs σ 229 2 a1) 305 32 a1, ?_, ?_, ?_, rfl, fun a ha => by rw [xs_ne (by omega), xs_ne (by omega)], fun k hk => by rw [xs_at, xup_ne (by omega), xs_ne (by decide)]⟩
    · rw [qC_beyond_0, if_neg (by omega), if_neg (by omega)]
    · rw [qM_beyond_0, if_neg (by omega), if_neg (by omega)]
    · have fr : ∀ a, a ≠ 229 → a ≠ 305 → (xs (xs σ 229 2 a1) 305 32 a1).1 a = σ.1 a := fun a h1 h2 => by rw [xs_ne h2, xs_ne h1]
      have k229 : (xs (xs σ 229 2 a1) 305 32 a1).1 229 = xup (σ.1 229) 2 a1 := by rw [xs_ne (by decide), xs_at]
      have k305 : (xs (xs σ 229 2 a1) 305 32 a1).1 305 = xup (σ.1 305) 32 a1 := by rw [xs_at, xs_ne (by decide)]
      generalize xs (xs σ 229 2 a1) 305 32 a1 = ω at *
      obtain ⟨⟨e1, e2, e3, e4, e5, e6⟩, ⟨g1, g2, g3, g4, g5, g6⟩, b1, b2, b3, b4, b5, b6⟩ := id hP.2.2.2.2.1
      refine pJ_few hP ⟨⟨⟨?_, ?_, ?_, ?_, ?_, ?_⟩, ⟨?_, ?_, ?_, ?_, ?_, ?_⟩, ?_, ?_, ?_, fun i hi => ?_, fun i hi => ?_, fun i hi => ?_⟩, sp_J_cg (fun k _ => by rw [fr _ (by omega) (by omega)]) (fun k _ _ => by rw [k305, xup_ne (by omega)]) hP.2.2.2.2.2.1, ng_J_cg (fun a _ => fr a (by omega) (by omega)) (fun k _ => by rw [fr _ (by omega) (by omega)]) (fun k _ => by rw [k305, xup_ne (by omega)]) (Int.le_of_eq (by rw [k305, xup_ne (by decide)])) hP.2.2.2.2.2.2.1, wn_J_cg (fun a _ => fr a (by omega) (by omega)) hP.2.2.2.2.2.2.2.1⟩ (fun a ha => fr a (by omega) (by omega)) (by rw [k229, xup_ne (by decide)]) (fun k hk => by rw [k305, xup_ne (by omega)])
      · rw [fr 230 (by decide) (by decide), fr 329 (by decide) (by decide), e1]
      · rw [k229, k305, xup_eq, xup_eq]
      · rw [fr 231 (by decide) (by decide), fr 330 (by decide) (by decide), e3]
      · rw [fr 232 (by decide) (by decide), fr 331 (by decide) (by decide), e4]
      · rw [fr 233 (by decide) (by decide), fr 332 (by decide) (by decide), e5]
      · rw [k229, k305, xup_ne (by decide), xup_ne (by decide), e6]
      · rw [fr 234 (by decide) (by decide), fr 333 (by decide) (by decide), g1]
      · rw [fr 235 (by decide) (by decide), fr 334 (by decide) (by decide), g2]
      · rw [fr 236 (by decide) (by decide), fr 335 (by decide) (by decide), g3]
      · rw [fr 237 (by decide) (by decide), fr 336 (by decide) (by decide), g4]
      · rw [fr 238 (by decide) (by decide), fr 337 (by decide) (by decide), g5]
      · rw [k229, k305, xup_ne (by decide), xup_ne (by decide), g6]
      · rw [k305, xup_ne (by decide)]; exact b1
      · rw [k305, xup_ne (by decide)]; exact b2
      · rw [k305, xup_eq]; exact hc
      · rw [fr 329 (by decide) (by decide)]; exact b4 i hi
      · rw [k305, xup_ne (by decide)] at hi
        rw [fr 330 (by decide) (by decide), fr 331 (by decide) (by decide), k305, xup_ne (show 11 ≠ 32 by decide), xup_ne (show 0 ≠ 32 by decide)]
        exact b5 i hi
      · rw [k305, xup_ne (by decide)] at hi
        rw [fr 335 (by decide) (by decide), fr 336 (by decide) (by decide)]
        exact b6 i hi
  · refine st_same (v := (0, 0)) hP ?_ ?_
    · rw [qC_beyond_0]
      repeat' (refine xite (fun _ => ?_) (fun _ => ?_))
      all_goals first | rfl | (exfalso; omega)
    · rw [qM_beyond_0]
      repeat' (refine xite (fun _ => ?_) (fun _ => ?_))
      all_goals first | rfl | (exfalso; omega)
theorem ng_same {m m' : Nat → Nat → Int} (h : ng_J m) (fr : ∀ a, (259 ≤ a ∧ a ≤ 264) ∨ (375 ≤ a ∧ a ≤ 380) → m' a = m a) (h2 : m' 258 4 = m 258 4 ∧ m' 305 102 = m 305 102 ∧ m' 305 6 = m 305 6) (h3 : m' 258 5 = m' 305 103 ∧ 1 ≤ m' 305 103 ∧ m' 305 103 ≤ 3) (h4 : m' 258 9 = m' 305 107 ∧ 0 ≤ m' 305 107 ∧ m' 305 107 ≤ m 305 107) : ng_J m' := by
  obtain ⟨⟨e1, e2, e3, e4, e5⟩, ⟨g1, g2, g3, g4⟩, b1, b2, b3, b4, b5⟩ := h
  refine ⟨⟨?_, ?_, ?_, ?_, h3.1⟩, ⟨?_, ?_, ?_, h4.1⟩, ?_, h3.2, by omega, fun i hi => ?_, fun i hi => ?_⟩
  · rw [fr 259 (by omega), fr 375 (by omega), e1]
  · rw [fr 260 (by omega), fr 376 (by omega), e2]
  · rw [fr 261 (by omega), fr 377 (by omega), e3]
  · rw [h2.1, h2.2.1, e4]
  · rw [fr 262 (by omega), fr 378 (by omega), g1]
  · rw [fr 263 (by omega), fr 379 (by omega), g2]
  · rw [fr 264 (by omega), fr 380 (by omega), g3]
  · rw [h2.2.1]; exact b1
  · rw [h2.2.1] at hi
    rw [fr 375 (by omega), fr 376 (by omega), fr 377 (by omega)]
    exact b4 i hi
  · rw [fr 378 (by omega), fr 379 (by omega), fr 380 (by omega), h2.2.2]
    exact b5 i (by omega)
theorem pJ_ng {m m' : Nat → Nat → Int} (h : pJ m) (hn : ng_J m') (fr : ∀ a, a ≠ 258 → a ≠ 305 → m' a = m a) (sl : ∀ k, k ≠ 103 → k ≠ 107 → m' 305 k = m 305 k) : pJ m' :=
  pJ_few h ⟨ev_J_cg (fun a _ => fr a (by omega) (by omega)) (fun k _ => by rw [fr _ (by omega) (by omega)]) (fun k _ => sl k (by omega) (by omega)) (Int.le_of_eq (sl _ (by omega) (by omega)).symm) (Int.le_of_eq (sl _ (by omega) (by omega)).symm) h.2.2.2.2.1, sp_J_cg (fun k _ => by rw [fr _ (by omega) (by omega)]) (fun k _ _ => sl k (by omega) (by omega)) h.2.2.2.2.2.1, hn, wn_J_cg (fun a _ => fr a (by omega) (by omega)) h.2.2.2.2.2.2.2.1⟩ (fun a _ => fr a (by omega) (by omega)) (by rw [fr _ (by omega) (by omega)]) (fun k _ => sl k (by omega) (by omega))
theorem st_dryers (hP : pJ σ.1) (a1 : Int) : stOK σ iC_dryers [(2, 200), (0, a1)] iM_dryers [(2, 305), (0, a1)] := by
  by_cases hc : 1 ≤ a1 ∧ a1 ≤ 3
  · refine ⟨(0, 1), xs σ 258 5 a1, xs (xs σ 258 5 a1) 305 103 a1, ?_, ?_, ?_, rfl, fun a ha => by rw [xs_ne (by omega), xs_ne (by omega)], fun k hk => by rw [xs_at, xup_ne (by omega), xs_ne (by decide)]⟩
    · rw [qC_dryers_0, if_neg (by omega), if_neg (by omega)]
    · rw [qM_dryers_0, if_neg (by omega), if_neg (by omega)]
    · have fr : ∀ a, a ≠ 258 → a ≠ 305 → (xs (xs σ 258 5 a1) 305 103 a1).1 a = σ.1 a := fun a h1 h2 => by rw [xs_ne h2, xs_ne h1]
      have k258 : (xs (xs σ 258 5 a1) 305 103 a1).1 258 = xup (σ.1 258) 5 a1 := by rw [xs_ne (by decide), xs_at]
      have k305 : (xs (xs σ 258 5 a1) 305 103 a1).1 305 = xup (σ.1 305) 103 a1 := by rw [xs_at, xs_ne (by decide)]
      have hN := hP.2.2.2.2.2.2.1
      refine pJ_ng hP (ng_same hN (fun a _ => fr a (by omega) (by omega)) ⟨by rw [k258, xup_ne (by decide)], by rw [k305, xup_ne (by decide)], by rw [k305, xup_ne (by decide)]⟩ ⟨by rw [k258, k305, xup_eq, xup_eq], by rw [k305, xup_eq]; exact hc.1, by rw [k305, xup_eq]; exact hc.2⟩ ⟨?_, ?_, ?_⟩) fr (fun k h1 _ => by rw [k305, xup_ne h1])
      · rw [k258, k305, xup_ne (by decide), xup_ne (by decide)]; exact hN.2.1.2.2.2
      · rw [k305, xup_ne (by decide)]; exact hN.2.2.2.2.1.1
      · rw [k305, xup_ne (by decide)]; exact Int.le_refl _
  · refine st_same (v := (0, 0)) hP ?_ ?_
    · rw [qC_dryers_0]
      repeat' (refine xite (fun _ => ?_) (fun _ => ?_))
      all_goals first | rfl | (exfalso; omega)
    · rw [qM_dryers_0]
      repeat' (refine xite (fun _ => ?_) (fun _ => ?_))
      all_goals first | rfl | (exfalso; omega)
theorem st_clear (hP : pJ σ.1) : stOK σ iC_clear [(2, 200), (9, 0)] iM_clear [(2, 305), (9, 0)] := by
  have hN := hP.2.2.2.2.2.2.1
  refine ⟨(0, σ.1 305 107), xs σ 258 9 0, xs (xs σ 258 9 0) 305 107 0, ?_, ?_, ?_, rfl, fun a ha => by rw [xs_ne (by omega), xs_ne (by omega)], fun k hk => by rw [xs_at, xup_ne (by omega), xs_ne (by decide)]⟩
  · rw [qC_clear_0, hN.2.1.2.2.2]
  · rw [qM_clear_0, xs_ne (show 305 ≠ 258 by decide)]
  · have fr : ∀ a, a ≠ 258 → a ≠ 305 → (xs (xs σ 258 9 0) 305 107 0).1 a = σ.1 a := fun a h1 h2 => by rw [xs_ne h2, xs_ne h1]
    have k258 : (xs (xs σ 258 9 0) 305 107 0).1 258 = xup (σ.1 258) 9 0 := by rw [xs_ne (by decide), xs_at]
    have k305 : (xs (xs σ 258 9 0) 305 107 0).1 305 = xup (σ.1 305) 107 0 := by rw [xs_at, xs_ne (by decide)]
    refine pJ_ng hP (ng_same hN (fun a _ => fr a (by omega) (by omega)) ⟨by rw [k258, xup_ne (by decide)], by rw [k305, xup_ne (by decide)], by rw [k305, xup_ne (by decide)]⟩ ⟨?_, ?_⟩ ⟨by rw [k258, k305, xup_eq, xup_eq], by rw [k305, xup_eq]; exact Int.le_refl _, by rw [k305, xup_eq]; exact hN.2.2.2.2.1.1⟩) fr (fun k _ h2 => by rw [k305, xup_ne h2])
    · rw [k258, k305, xup_ne (by decide), xup_ne (by decide)]; exact hN.1.2.2.2.2
    · rw [k305, xup_ne (by decide)]; exact hN.2.2.2.1
theorem st_supply (hP : pJ σ.1) (a1 a2 a3 a4 : Int) : stOK σ iC_supply [(2, 200), (0, a1), (0, a2), (0, a3), (0, a4)] iM_supply [(2, 305), (0, a1), (0, a2), (0, a3), (0, a4)] := by
  by_cases hc : (1 ≤ a1 ∧ a1 ≤ 20) ∧ (0 ≤ a2 ∧ a2 ≤ 1000) ∧ (0 ≤ a3 ∧ a3 ≤ 100) ∧ (1 ≤ a4 ∧ a4 ≤ 10)
  · refine ⟨(0, 1), xs (xs (xs (xs σ 272 0 a1) 272 1 a2) 272 2 a3) 272 3 a4, xs (xs (xs (xs (xs (xs (xs (xs σ 272 0 a1) 272 1 a2) 272 2 a3) 272 3 a4) 305 121 a1) 305 122 a2) 305 123 a3) 305 124 a4, ?_, ?_, ?_, rfl, fun a ha => ?_, fun k hk => ?_⟩
    · rw [qC_supply_0]
      repeat rw [if_neg (by omega)]
    · rw [qM_supply_0]
      repeat rw [if_neg (by omega)]
    · have fr : ∀ a, a ≠ 272 → a ≠ 305 → (xs (xs (xs (xs (xs (xs (xs (xs σ 272 0 a1) 272 1 a2) 272 2 a3) 272 3 a4) 305 121 a1) 305 122 a2) 305 123 a3) 305 124 a4).1 a = σ.1 a := fun a h1 h2 => by
        rw [xs_ne h2, xs_ne h2, xs_ne h2, xs_ne h2, xs_ne h1, xs_ne h1, xs_ne h1, xs_ne h1]
      have k272 : (xs (xs (xs (xs (xs (xs (xs (xs σ 272 0 a1) 272 1 a2) 272 2 a3) 272 3 a4) 305 121 a1) 305 122 a2) 305 123 a3) 305 124 a4).1 272 = xup (xup (xup (xup (σ.1 272) 0 a1) 1 a2) 2 a3) 3 a4 := by
        rw [xs_ne (by decide), xs_ne (by decide), xs_ne (by decide), xs_ne (by decide), xs_at, xs_at, xs_at, xs_at]
      have k305 : (xs (xs (xs (xs (xs (xs (xs (xs σ 272 0 a1) 272 1 a2) 272 2 a3) 272 3 a4) 305 121 a1) 305 122 a2) 305 123 a3) 305 124 a4).1 305 = xup (xup (xup (xup (σ.1 305) 121 a1) 122 a2) 123 a3) 124 a4 := by
        rw [xs_at, xs_at, xs_at, xs_at, xs_ne (by decide), xs_ne (by decide), xs_ne (by decide), xs_ne (by decide)]
      generalize xs (xs (xs (xs (xs (xs (xs (xs σ 272 0 a1) 272 1 a2) 272 2 a3) 272 3 a4) 305 121 a1) 305 122 a2) 305 123 a3) 305 124 a4 = ω at *
      have u : ∀ k, k < 121 → ω.1 305 k = σ.1 305 k := fun k hk => by rw [k305, xup_ne (by omega), xup_ne (by omega), xup_ne (by omega), xup_ne (by omega)]
      have r1 : ω.1 305 121 = a1 := by rw [k305, xup_ne (by decide), xup_ne (by decide), xup_ne (by decide), xup_eq]
      have r2 : ω.1 305 122 = a2 := by rw [k305, xup_ne (by decide), xup_ne (by decide), xup_eq]
      have r3 : ω.1 305 123 = a3 := by rw [k305, xup_ne (by decide), xup_eq]
      have r4 : ω.1 305 124 = a4 := by rw [k305, xup_eq]
      have s1 : ω.1 272 0 = a1 := by rw [k272, xup_ne (by decide), xup_ne (by decide), xup_ne (by decide), xup_eq]
      have s2 : ω.1 272 1 = a2 := by rw [k272, xup_ne (by decide), xup_ne (by decide), xup_eq]
      have s3 : ω.1 272 2 = a3 := by rw [k272, xup_ne (by decide), xup_eq]
      have s4 : ω.1 272 3 = a4 := by rw [k272, xup_eq]
      refine pJ_few hP ⟨ev_J_cg (fun a _ => fr a (by omega) (by omega)) (fun k _ => by rw [fr _ (by omega) (by omega)]) (fun k _ => u k (by omega)) (Int.le_of_eq (u _ (by omega)).symm) (Int.le_of_eq (u _ (by omega)).symm) hP.2.2.2.2.1, ?_, ng_J_cg (fun a _ => fr a (by omega) (by omega)) (fun k _ => by rw [fr _ (by omega) (by omega)]) (fun k _ => u k (by omega)) (Int.le_of_eq (u _ (by omega)).symm) hP.2.2.2.2.2.2.1, wn_J_cg (fun a _ => fr a (by omega) (by omega)) hP.2.2.2.2.2.2.2.1⟩ (fun a _ => fr a (by omega) (by omega)) (by rw [fr _ (by omega) (by omega)]) (fun k _ => u k (by omega))
      unfold sp_J
      rw [r1, r2, r3, r4, s1, s2, s3, s4]
      exact ⟨⟨rfl, rfl, rfl, rfl⟩, hc⟩
    · rw [xs_ne (by omega), xs_ne (by omega), xs_ne (by omega), xs_ne (by omega), xs_ne (by omega), xs_ne (by omega), xs_ne (by omega), xs_ne (by omega)]
    · rw [xs_at, xup_ne (by omega), xs_at, xup_ne (by omega), xs_at, xup_ne (by omega), xs_at, xup_ne (by omega), xs_ne (by decide), xs_ne (by decide), xs_ne (by decide), xs_ne (by decide)]
  · refine st_same (v := (0, 0)) hP ?_ ?_
    · rw [qC_supply_0]
      repeat' (refine xite (fun _ => ?_) (fun _ => ?_))
      all_goals first | rfl | (exfalso; omega)
    · rw [qM_supply_0]
      repeat' (refine xite (fun _ => ?_) (fun _ => ?_))
      all_goals first | rfl | (exfalso; omega)
end CALLSE

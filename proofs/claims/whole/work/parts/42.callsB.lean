/-! calls: sorts, houses, sheets, days -/
section CALLSB
variable {σ : xS}
theorem st_sort (hP : pJ σ.1) (a1 a2 a3 a4 a5 : Int) : stOK σ iC_sort [(2, 200), (0, a1), (0, a2), (0, a3), (0, a4), (0, a5), (9, 0)] iM_sort [(2, 305), (0, a1), (0, a2), (0, a3), (0, a4), (0, a5)] := by
  obtain ⟨⟨e1, e2, e3, e4, e5, e6⟩, h6, hr⟩ := id hP.1
  by_cases hc : ((1 ≤ a1 ∧ a1 ≤ 60) ∧ (0 ≤ a2 ∧ a2 ≤ 3) ∧ (1 ≤ a3 ∧ a3 ≤ 90) ∧ (1 ≤ a4 ∧ a4 ≤ 250) ∧ (1 ≤ a5 ∧ a5 ≤ 1000)) ∧ σ.1 305 6 < 6
  · obtain ⟨n, hn⟩ : ∃ n : Nat, σ.1 305 6 = n := ⟨(σ.1 305 6).toNat, by omega⟩
    have hx : xin (n : Int) 6 := ⟨by omega, by omega⟩
    have w1 : xw ((n : Int) + 1) = (n : Int) + 1 := xw_id (by omega) (by omega)
    have w2 : xw ((n : Int) + 1 - 1) = (n : Int) := by rw [xw_id (by omega) (by omega)]; omega
    refine ⟨(0, (n : Int)), xs (xs (xs (xs (xs (xs σ 202 n a1) 203 n a2) 204 n a3) 205 n a4) 206 n a5) 201 5 ((n : Int) + 1), xs (xs (xs (xs (xs (xs (xs (xs (xs (xs (xs (xs σ 202 n a1) 203 n a2) 204 n a3) 205 n a4) 206 n a5) 201 5 ((n : Int) + 1)) 306 n a1) 307 n a2) 308 n a3) 309 n a4) 310 n a5) 305 6 ((n : Int) + 1), ?_, ?_, ?_, rfl, fun a ha => ?_, fun k hk => ?_⟩
    · rw [qC_sort_0, if_neg (by omega), if_neg (by omega), if_neg (by omega), if_neg (by omega), if_neg (by omega), if_neg (by omega), if_neg (by omega), if_neg (by omega), if_neg (by omega), if_neg (by omega), if_pos (by rw [xg_1, e6]; omega), qSorts_add_0]
      simp only [xg_1, e6, hn, if_pos hx, Int.toNat_natCast, w1, w2, Option.bind_some, qC_sort_91]
    · rw [qM_sort_0, if_neg (by omega), if_neg (by omega), if_neg (by omega), if_neg (by omega), if_neg (by omega), if_neg (by omega), if_neg (by omega), if_neg (by omega), if_neg (by omega), if_neg (by omega)]
      have f305 : (xs (xs (xs (xs (xs (xs σ 202 n a1) 203 n a2) 204 n a3) 205 n a4) 206 n a5) 201 5 ((n : Int) + 1)).1 305 = σ.1 305 := by
        repeat rw [xs_ne (by decide)]
      simp only [xg_1, f305, hn, if_pos hx, Int.toNat_natCast, w1, w2]
      rw [if_neg (by omega)]
    · refine pJ_st hP ?_ (fun a h1 h2 h3 h4 => ?_) (fun k hk => ?_) ?_
      · have g : ∀ a, (xs (xs (xs (xs (xs (xs (xs (xs (xs (xs (xs (xs σ 202 n a1) 203 n a2) 204 n a3) 205 n a4) 206 n a5) 201 5 ((n : Int) + 1)) 306 n a1) 307 n a2) 308 n a3) 309 n a4) 310 n a5) 305 6 ((n : Int) + 1)).1 a = if a = 305 then xup (σ.1 305) 6 ((n : Int) + 1) else if a = 310 then xup (σ.1 310) n a5 else if a = 309 then xup (σ.1 309) n a4 else if a = 308 then xup (σ.1 308) n a3 else if a = 307 then xup (σ.1 307) n a2 else if a = 306 then xup (σ.1 306) n a1 else if a = 201 then xup (σ.1 201) 5 ((n : Int) + 1) else if a = 206 then xup (σ.1 310) n a5 else if a = 205 then xup (σ.1 309) n a4 else if a = 204 then xup (σ.1 308) n a3 else if a = 203 then xup (σ.1 307) n a2 else if a = 202 then xup (σ.1 306) n a1 else σ.1 a := by
          intro a
          simp only [xs_1]
          repeat' split
          all_goals first | rfl | (exfalso; omega) | simp only [e1, e2, e3, e4, e5]
        generalize (xs (xs (xs (xs (xs (xs (xs (xs (xs (xs (xs (xs σ 202 n a1) 203 n a2) 204 n a3) 205 n a4) 206 n a5) 201 5 ((n : Int) + 1)) 306 n a1) 307 n a2) 308 n a3) 309 n a4) 310 n a5) 305 6 ((n : Int) + 1)) = ω at g
        have r6 : ω.1 305 6 = (n : Int) + 1 := by rw [g 305]; rfl
        refine ⟨⟨by rw [g 202, g 306]; rfl, by rw [g 203, g 307]; rfl, by rw [g 204, g 308]; rfl, by rw [g 205, g 309]; rfl, by rw [g 206, g 310]; rfl, by rw [r6, g 201]; rfl⟩, by rw [r6]; omega, fun i hi => ?_⟩
        rw [r6] at hi
        have k306 : ω.1 306 = xup (σ.1 306) n a1 := g 306
        have k307 : ω.1 307 = xup (σ.1 307) n a2 := g 307
        have k308 : ω.1 308 = xup (σ.1 308) n a3 := g 308
        have k309 : ω.1 309 = xup (σ.1 309) n a4 := g 309
        have k310 : ω.1 310 = xup (σ.1 310) n a5 := g 310
        rw [k306, k307, k308, k309, k310]
        by_cases e : i = n
        · subst e
          simp only [xup_eq]
          exact hc.1
        · simp only [xup_ne e]
          exact hr i (by omega)
      · repeat rw [xs_ne (by omega)]
      · rw [xs_at, xup_ne (by omega)]
        repeat rw [xs_ne (by decide)]
      · rw [xs_at, xup_eq]
        omega
    · repeat rw [xs_ne (by omega)]
    · rw [xs_at, xup_ne (by omega)]
      repeat rw [xs_ne (by decide)]
  · refine st_same (v := (0, -1)) hP ?_ ?_
    · rw [qC_sort_0, xg_1, e6]
      repeat' split
      all_goals first | rfl | (exfalso; omega)
    · rw [qM_sort_0, xg_1]
      repeat' split
      all_goals first | rfl | (exfalso; omega)
end CALLSB

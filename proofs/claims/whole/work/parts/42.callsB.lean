/-! calls: rows added to tables, written by a program (wip/whole/gen/setters.py) -/
section CALLSB
variable {σ : xS}
theorem st_sort (hP : pJ σ.1) (a1 a2 a3 a4 a5 : Int) : stOK σ iC_sort [(2, 200), (0, a1), (0, a2), (0, a3), (0, a4), (0, a5), (9, 0)] iM_sort [(2, 305), (0, a1), (0, a2), (0, a3), (0, a4), (0, a5)] := by
  obtain ⟨⟨e202, e203, e204, e205, e206, e6⟩, h6, hr⟩ := id hP.1
  by_cases hc : ((1 ≤ a1 ∧ a1 ≤ 60) ∧ (0 ≤ a2 ∧ a2 ≤ 3) ∧ (1 ≤ a3 ∧ a3 ≤ 90) ∧ (1 ≤ a4 ∧ a4 ≤ 250) ∧ (1 ≤ a5 ∧ a5 ≤ 1000)) ∧ σ.1 305 6 < 6
  · obtain ⟨n, hn⟩ : ∃ n : Nat, σ.1 305 6 = n := ⟨(σ.1 305 6).toNat, by omega⟩
    have hx : xin (n : Int) 6 := ⟨by omega, by omega⟩
    have qC : X iC_sort 0 [(2, 200), (0, a1), (0, a2), (0, a3), (0, a4), (0, a5), (9, 0)] [] σ = some ((0, (n : Int)), xs (xs (xs (xs (xs (xs σ 202 n a1) 203 n a2) 204 n a3) 205 n a4) 206 n a5) 201 5 ((n : Int) + 1)) := by
      rw [qC_sort_0, e6, hn]
      repeat rw [if_neg (by omega)]
      rw [if_pos (by omega), qSorts_add_0]
      simp (disch := omega) only [e6, hn, if_pos hx, Int.toNat_natCast, xw_id, Int.add_sub_cancel, Option.bind_some, qC_sort_91]
    have f305 : (xs (xs (xs (xs (xs (xs σ 202 n a1) 203 n a2) 204 n a3) 205 n a4) 206 n a5) 201 5 ((n : Int) + 1)).1 305 = σ.1 305 := by
      repeat rw [xs_ne (by decide)]
    have qM : X iM_sort 0 [(2, 305), (0, a1), (0, a2), (0, a3), (0, a4), (0, a5)] [] (xs (xs (xs (xs (xs (xs σ 202 n a1) 203 n a2) 204 n a3) 205 n a4) 206 n a5) 201 5 ((n : Int) + 1)) = some ((0, (n : Int)), xs (xs (xs (xs (xs (xs (xs (xs (xs (xs (xs (xs σ 202 n a1) 203 n a2) 204 n a3) 205 n a4) 206 n a5) 201 5 ((n : Int) + 1)) 306 n a1) 307 n a2) 308 n a3) 309 n a4) 310 n a5) 305 6 ((n : Int) + 1)) := by
      rw [qM_sort_0, f305, hn]
      repeat (first | rw [if_neg (by omega)] | rw [if_pos (by omega)])
      simp (disch := omega) only [if_pos hx, Int.toNat_natCast, Int.add_sub_cancel, xw_id]
    have g : ∀ ω, xs (xs (xs (xs (xs (xs (xs (xs (xs (xs (xs (xs σ 202 n a1) 203 n a2) 204 n a3) 205 n a4) 206 n a5) 201 5 ((n : Int) + 1)) 306 n a1) 307 n a2) 308 n a3) 309 n a4) 310 n a5) 305 6 ((n : Int) + 1) = ω → (∀ a, a ≠ 202 → a ≠ 203 → a ≠ 204 → a ≠ 205 → a ≠ 206 → a ≠ 201 → a ≠ 306 → a ≠ 307 → a ≠ 308 → a ≠ 309 → a ≠ 310 → a ≠ 305 → ω.1 a = σ.1 a) ∧ ω.1 202 = xup (σ.1 306) n a1 ∧ ω.1 203 = xup (σ.1 307) n a2 ∧ ω.1 204 = xup (σ.1 308) n a3 ∧ ω.1 205 = xup (σ.1 309) n a4 ∧ ω.1 206 = xup (σ.1 310) n a5 ∧ ω.1 201 = xup (σ.1 201) 5 ((n : Int) + 1) ∧ ω.1 306 = xup (σ.1 306) n a1 ∧ ω.1 307 = xup (σ.1 307) n a2 ∧ ω.1 308 = xup (σ.1 308) n a3 ∧ ω.1 309 = xup (σ.1 309) n a4 ∧ ω.1 310 = xup (σ.1 310) n a5 ∧ ω.1 305 = xup (σ.1 305) 6 ((n : Int) + 1) := by
      clear qC qM f305 hc hn hx
      rintro ω rfl
      refine ⟨fun a h0 h1 h2 h3 h4 h5 h6 h7 h8 h9 h10 h11 => ?_, ?_, ?_, ?_, ?_, ?_, ?_, ?_, ?_, ?_, ?_, ?_, ?_⟩
      · rw [xs_ne h11, xs_ne h10, xs_ne h9, xs_ne h8, xs_ne h7, xs_ne h6, xs_ne h5, xs_ne h4, xs_ne h3, xs_ne h2, xs_ne h1, xs_ne h0]
      · rw [xs_ne (by decide), xs_ne (by decide), xs_ne (by decide), xs_ne (by decide), xs_ne (by decide), xs_ne (by decide), xs_ne (by decide), xs_ne (by decide), xs_ne (by decide), xs_ne (by decide), xs_ne (by decide), xs_at, e202]
      · rw [xs_ne (by decide), xs_ne (by decide), xs_ne (by decide), xs_ne (by decide), xs_ne (by decide), xs_ne (by decide), xs_ne (by decide), xs_ne (by decide), xs_ne (by decide), xs_ne (by decide), xs_at, xs_ne (by decide), e203]
      · rw [xs_ne (by decide), xs_ne (by decide), xs_ne (by decide), xs_ne (by decide), xs_ne (by decide), xs_ne (by decide), xs_ne (by decide), xs_ne (by decide), xs_ne (by decide), xs_at, xs_ne (by decide), xs_ne (by decide), e204]
      · rw [xs_ne (by decide), xs_ne (by decide), xs_ne (by decide), xs_ne (by decide), xs_ne (by decide), xs_ne (by decide), xs_ne (by decide), xs_ne (by decide), xs_at, xs_ne (by decide), xs_ne (by decide), xs_ne (by decide), e205]
      · rw [xs_ne (by decide), xs_ne (by decide), xs_ne (by decide), xs_ne (by decide), xs_ne (by decide), xs_ne (by decide), xs_ne (by decide), xs_at, xs_ne (by decide), xs_ne (by decide), xs_ne (by decide), xs_ne (by decide), e206]
      · rw [xs_ne (by decide), xs_ne (by decide), xs_ne (by decide), xs_ne (by decide), xs_ne (by decide), xs_ne (by decide), xs_at, xs_ne (by decide), xs_ne (by decide), xs_ne (by decide), xs_ne (by decide), xs_ne (by decide)]
      · rw [xs_ne (by decide), xs_ne (by decide), xs_ne (by decide), xs_ne (by decide), xs_ne (by decide), xs_at, xs_ne (by decide), xs_ne (by decide), xs_ne (by decide), xs_ne (by decide), xs_ne (by decide), xs_ne (by decide)]
      · rw [xs_ne (by decide), xs_ne (by decide), xs_ne (by decide), xs_ne (by decide), xs_at, xs_ne (by decide), xs_ne (by decide), xs_ne (by decide), xs_ne (by decide), xs_ne (by decide), xs_ne (by decide), xs_ne (by decide)]
      · rw [xs_ne (by decide), xs_ne (by decide), xs_ne (by decide), xs_at, xs_ne (by decide), xs_ne (by decide), xs_ne (by decide), xs_ne (by decide), xs_ne (by decide), xs_ne (by decide), xs_ne (by decide), xs_ne (by decide)]
      · rw [xs_ne (by decide), xs_ne (by decide), xs_at, xs_ne (by decide), xs_ne (by decide), xs_ne (by decide), xs_ne (by decide), xs_ne (by decide), xs_ne (by decide), xs_ne (by decide), xs_ne (by decide), xs_ne (by decide)]
      · rw [xs_ne (by decide), xs_at, xs_ne (by decide), xs_ne (by decide), xs_ne (by decide), xs_ne (by decide), xs_ne (by decide), xs_ne (by decide), xs_ne (by decide), xs_ne (by decide), xs_ne (by decide), xs_ne (by decide)]
      · rw [xs_at, xs_ne (by decide), xs_ne (by decide), xs_ne (by decide), xs_ne (by decide), xs_ne (by decide), xs_ne (by decide), xs_ne (by decide), xs_ne (by decide), xs_ne (by decide), xs_ne (by decide), xs_ne (by decide)]
    obtain ⟨fr, k202, k203, k204, k205, k206, k201, k306, k307, k308, k309, k310, k305⟩ := g _ rfl
    refine ⟨(0, (n : Int)), _, _, qC, qM, ?_, rfl, fun a ha => fr a (by omega) (by omega) (by omega) (by omega) (by omega) (by omega) (by omega) (by omega) (by omega) (by omega) (by omega) (by omega), fun k hk => ?_⟩
    · clear g qC qM f305
      generalize xs (xs (xs (xs (xs (xs (xs (xs (xs (xs (xs (xs σ 202 n a1) 203 n a2) 204 n a3) 205 n a4) 206 n a5) 201 5 ((n : Int) + 1)) 306 n a1) 307 n a2) 308 n a3) 309 n a4) 310 n a5) 305 6 ((n : Int) + 1) = ω at *
      have r6 : ω.1 305 6 = (n : Int) + 1 := by rw [k305, xup_eq]
      refine pJ_st hP ?_ (fun a h1 h2 h3 h4 => fr a (by omega) (by omega) (by omega) (by omega) (by omega) (by omega) (by omega) (by omega) (by omega) (by omega) (by omega) (by omega)) (fun k hk => by rw [k305, xup_ne hk]) (by rw [r6]; omega)
      · refine ⟨⟨by rw [k202, k306], by rw [k203, k307], by rw [k204, k308], by rw [k205, k309], by rw [k206, k310], by rw [r6, k201, xup_eq]⟩, by rw [r6]; omega, fun i hi => ?_⟩
        rw [r6] at hi
        rw [k306, k307, k308, k309, k310]
        by_cases e : i = n
        · subst e
          simp only [xup_eq]
          exact hc.1
        · simp only [xup_ne e]
          exact hr i (by omega)
    · rw [k305, xup_ne (by omega)]
  · refine st_same (v := (0, -1)) hP ?_ ?_
    · rw [qC_sort_0, e6]
      repeat' (refine xite (fun _ => ?_) (fun _ => ?_))
      all_goals first | rfl | (exfalso; omega)
    · rw [qM_sort_0]
      repeat' (refine xite (fun _ => ?_) (fun _ => ?_))
      all_goals first | rfl | (exfalso; omega)
theorem st_house (hP : pJ σ.1) (a1 a2 a3 a4 : Int) : stOK σ iC_house [(2, 200), (0, a1), (0, a2), (0, a3), (0, a4), (9, 0)] iM_house [(2, 305), (0, a1), (0, a2), (0, a3), (0, a4)] := by
  obtain ⟨⟨e210, e211, e212, e213, e6⟩, h6, hr⟩ := id hP.2.1
  by_cases hc : ((0 ≤ a1 ∧ a1 ≤ 3) ∧ (0 ≤ a2 ∧ a2 ≤ 99) ∧ (0 ≤ a3 ∧ a3 ≤ 99) ∧ (0 ≤ a4 ∧ a4 ≤ 1440)) ∧ σ.1 305 11 < 8
  · obtain ⟨n, hn⟩ : ∃ n : Nat, σ.1 305 11 = n := ⟨(σ.1 305 11).toNat, by omega⟩
    have hx : xin (n : Int) 8 := ⟨by omega, by omega⟩
    have qC : X iC_house 0 [(2, 200), (0, a1), (0, a2), (0, a3), (0, a4), (9, 0)] [] σ = some ((0, (n : Int)), xs (xs (xs (xs (xs σ 210 n a1) 211 n a2) 212 n a3) 213 n a4) 209 4 ((n : Int) + 1)) := by
      rw [qC_house_0, e6, hn]
      repeat rw [if_neg (by omega)]
      rw [if_pos (by omega), qHouses_add_0]
      simp (disch := omega) only [e6, hn, if_pos hx, Int.toNat_natCast, xw_id, Int.add_sub_cancel, Option.bind_some, qC_house_77]
    have f305 : (xs (xs (xs (xs (xs σ 210 n a1) 211 n a2) 212 n a3) 213 n a4) 209 4 ((n : Int) + 1)).1 305 = σ.1 305 := by
      repeat rw [xs_ne (by decide)]
    have qM : X iM_house 0 [(2, 305), (0, a1), (0, a2), (0, a3), (0, a4)] [] (xs (xs (xs (xs (xs σ 210 n a1) 211 n a2) 212 n a3) 213 n a4) 209 4 ((n : Int) + 1)) = some ((0, (n : Int)), xs (xs (xs (xs (xs (xs (xs (xs (xs (xs σ 210 n a1) 211 n a2) 212 n a3) 213 n a4) 209 4 ((n : Int) + 1)) 311 n a1) 312 n a2) 313 n a3) 314 n a4) 305 11 ((n : Int) + 1)) := by
      rw [qM_house_0, f305, hn]
      repeat (first | rw [if_neg (by omega)] | rw [if_pos (by omega)])
      simp (disch := omega) only [if_pos hx, Int.toNat_natCast, Int.add_sub_cancel, xw_id]
    have g : ∀ ω, xs (xs (xs (xs (xs (xs (xs (xs (xs (xs σ 210 n a1) 211 n a2) 212 n a3) 213 n a4) 209 4 ((n : Int) + 1)) 311 n a1) 312 n a2) 313 n a3) 314 n a4) 305 11 ((n : Int) + 1) = ω → (∀ a, a ≠ 210 → a ≠ 211 → a ≠ 212 → a ≠ 213 → a ≠ 209 → a ≠ 311 → a ≠ 312 → a ≠ 313 → a ≠ 314 → a ≠ 305 → ω.1 a = σ.1 a) ∧ ω.1 210 = xup (σ.1 311) n a1 ∧ ω.1 211 = xup (σ.1 312) n a2 ∧ ω.1 212 = xup (σ.1 313) n a3 ∧ ω.1 213 = xup (σ.1 314) n a4 ∧ ω.1 209 = xup (σ.1 209) 4 ((n : Int) + 1) ∧ ω.1 311 = xup (σ.1 311) n a1 ∧ ω.1 312 = xup (σ.1 312) n a2 ∧ ω.1 313 = xup (σ.1 313) n a3 ∧ ω.1 314 = xup (σ.1 314) n a4 ∧ ω.1 305 = xup (σ.1 305) 11 ((n : Int) + 1) := by
      clear qC qM f305 hc hn hx
      rintro ω rfl
      refine ⟨fun a h0 h1 h2 h3 h4 h5 h6 h7 h8 h9 => ?_, ?_, ?_, ?_, ?_, ?_, ?_, ?_, ?_, ?_, ?_⟩
      · rw [xs_ne h9, xs_ne h8, xs_ne h7, xs_ne h6, xs_ne h5, xs_ne h4, xs_ne h3, xs_ne h2, xs_ne h1, xs_ne h0]
      · rw [xs_ne (by decide), xs_ne (by decide), xs_ne (by decide), xs_ne (by decide), xs_ne (by decide), xs_ne (by decide), xs_ne (by decide), xs_ne (by decide), xs_ne (by decide), xs_at, e210]
      · rw [xs_ne (by decide), xs_ne (by decide), xs_ne (by decide), xs_ne (by decide), xs_ne (by decide), xs_ne (by decide), xs_ne (by decide), xs_ne (by decide), xs_at, xs_ne (by decide), e211]
      · rw [xs_ne (by decide), xs_ne (by decide), xs_ne (by decide), xs_ne (by decide), xs_ne (by decide), xs_ne (by decide), xs_ne (by decide), xs_at, xs_ne (by decide), xs_ne (by decide), e212]
      · rw [xs_ne (by decide), xs_ne (by decide), xs_ne (by decide), xs_ne (by decide), xs_ne (by decide), xs_ne (by decide), xs_at, xs_ne (by decide), xs_ne (by decide), xs_ne (by decide), e213]
      · rw [xs_ne (by decide), xs_ne (by decide), xs_ne (by decide), xs_ne (by decide), xs_ne (by decide), xs_at, xs_ne (by decide), xs_ne (by decide), xs_ne (by decide), xs_ne (by decide)]
      · rw [xs_ne (by decide), xs_ne (by decide), xs_ne (by decide), xs_ne (by decide), xs_at, xs_ne (by decide), xs_ne (by decide), xs_ne (by decide), xs_ne (by decide), xs_ne (by decide)]
      · rw [xs_ne (by decide), xs_ne (by decide), xs_ne (by decide), xs_at, xs_ne (by decide), xs_ne (by decide), xs_ne (by decide), xs_ne (by decide), xs_ne (by decide), xs_ne (by decide)]
      · rw [xs_ne (by decide), xs_ne (by decide), xs_at, xs_ne (by decide), xs_ne (by decide), xs_ne (by decide), xs_ne (by decide), xs_ne (by decide), xs_ne (by decide), xs_ne (by decide)]
      · rw [xs_ne (by decide), xs_at, xs_ne (by decide), xs_ne (by decide), xs_ne (by decide), xs_ne (by decide), xs_ne (by decide), xs_ne (by decide), xs_ne (by decide), xs_ne (by decide)]
      · rw [xs_at, xs_ne (by decide), xs_ne (by decide), xs_ne (by decide), xs_ne (by decide), xs_ne (by decide), xs_ne (by decide), xs_ne (by decide), xs_ne (by decide), xs_ne (by decide)]
    obtain ⟨fr, k210, k211, k212, k213, k209, k311, k312, k313, k314, k305⟩ := g _ rfl
    refine ⟨(0, (n : Int)), _, _, qC, qM, ?_, rfl, fun a ha => fr a (by omega) (by omega) (by omega) (by omega) (by omega) (by omega) (by omega) (by omega) (by omega) (by omega), fun k hk => ?_⟩
    · clear g qC qM f305
      generalize xs (xs (xs (xs (xs (xs (xs (xs (xs (xs σ 210 n a1) 211 n a2) 212 n a3) 213 n a4) 209 4 ((n : Int) + 1)) 311 n a1) 312 n a2) 313 n a3) 314 n a4) 305 11 ((n : Int) + 1) = ω at *
      have r11 : ω.1 305 11 = (n : Int) + 1 := by rw [k305, xup_eq]
      refine pJ_ho hP ?_ (fun a h1 h2 h3 h4 => fr a (by omega) (by omega) (by omega) (by omega) (by omega) (by omega) (by omega) (by omega) (by omega) (by omega)) (fun k hk => by rw [k305, xup_ne hk]) (by rw [r11]; omega)
      · refine ⟨⟨by rw [k210, k311], by rw [k211, k312], by rw [k212, k313], by rw [k213, k314], by rw [r11, k209, xup_eq]⟩, by rw [r11]; omega, fun i hi => ?_⟩
        rw [r11] at hi
        rw [k311, k312, k313, k314]
        by_cases e : i = n
        · subst e
          simp only [xup_eq]
          exact hc.1
        · simp only [xup_ne e]
          exact hr i (by omega)
    · rw [k305, xup_ne (by omega)]
  · refine st_same (v := (0, -1)) hP ?_ ?_
    · rw [qC_house_0, e6]
      repeat' (refine xite (fun _ => ?_) (fun _ => ?_))
      all_goals first | rfl | (exfalso; omega)
    · rw [qM_house_0]
      repeat' (refine xite (fun _ => ?_) (fun _ => ?_))
      all_goals first | rfl | (exfalso; omega)
theorem st_heat (hP : pJ σ.1) (a1 a2 a3 : Int) : stOK σ iC_heat [(2, 200), (0, a1), (0, a2), (0, a3), (9, 0)] iM_heat [(2, 305), (0, a1), (0, a2), (0, a3)] := by
  obtain ⟨⟨e239, e240, e241, e242, e6⟩, h6⟩ := id hP.2.2.2.1
  have e12 := hP.2.2.1.2.1.2.2.2.2.1
  by_cases hc : ((0 ≤ a1 ∧ a1 ≤ σ.1 305 0) ∧ (0 ≤ a2 ∧ a2 ≤ 120) ∧ (0 ≤ a3 ∧ a3 ≤ 200)) ∧ σ.1 305 30 < 60
  · obtain ⟨n, hn⟩ : ∃ n : Nat, σ.1 305 30 = n := ⟨(σ.1 305 30).toNat, by omega⟩
    have hx : xin (n : Int) 60 := ⟨by omega, by omega⟩
    have qC : X iC_heat 0 [(2, 200), (0, a1), (0, a2), (0, a3), (9, 0)] [] σ = some ((0, (n : Int) + 1), xs (xs (xs (xs (xs σ 239 n a1) 240 n a2) 241 n a3) 242 n (σ.1 305 0)) 229 17 ((n : Int) + 1)) := by
      rw [qC_heat_0, e12, e6, hn]
      repeat rw [if_neg (by omega)]
      rw [if_pos (by omega), qEvidence_addHeat_0]
      simp (disch := omega) only [e6, e12, hn, if_pos hx, Int.toNat_natCast, xw_id, Int.add_sub_cancel, Option.bind_some, qC_heat_70]
    have f305 : (xs (xs (xs (xs (xs σ 239 n a1) 240 n a2) 241 n a3) 242 n (σ.1 305 0)) 229 17 ((n : Int) + 1)).1 305 = σ.1 305 := by
      repeat rw [xs_ne (by decide)]
    have qM : X iM_heat 0 [(2, 305), (0, a1), (0, a2), (0, a3)] [] (xs (xs (xs (xs (xs σ 239 n a1) 240 n a2) 241 n a3) 242 n (σ.1 305 0)) 229 17 ((n : Int) + 1)) = some ((0, (n : Int) + 1), xs (xs (xs (xs (xs (xs (xs (xs (xs (xs σ 239 n a1) 240 n a2) 241 n a3) 242 n (σ.1 305 0)) 229 17 ((n : Int) + 1)) 325 n a1) 326 n a2) 327 n a3) 328 n (σ.1 305 0)) 305 30 ((n : Int) + 1)) := by
      rw [qM_heat_0, f305, hn]
      repeat (first | rw [if_neg (by omega)] | rw [if_pos (by omega)])
      simp (disch := omega) only [if_pos hx, Int.toNat_natCast, Int.add_sub_cancel, xw_id]
    have g : ∀ ω, xs (xs (xs (xs (xs (xs (xs (xs (xs (xs σ 239 n a1) 240 n a2) 241 n a3) 242 n (σ.1 305 0)) 229 17 ((n : Int) + 1)) 325 n a1) 326 n a2) 327 n a3) 328 n (σ.1 305 0)) 305 30 ((n : Int) + 1) = ω → (∀ a, a ≠ 239 → a ≠ 240 → a ≠ 241 → a ≠ 242 → a ≠ 229 → a ≠ 325 → a ≠ 326 → a ≠ 327 → a ≠ 328 → a ≠ 305 → ω.1 a = σ.1 a) ∧ ω.1 239 = xup (σ.1 325) n a1 ∧ ω.1 240 = xup (σ.1 326) n a2 ∧ ω.1 241 = xup (σ.1 327) n a3 ∧ ω.1 242 = xup (σ.1 328) n (σ.1 305 0) ∧ ω.1 229 = xup (σ.1 229) 17 ((n : Int) + 1) ∧ ω.1 325 = xup (σ.1 325) n a1 ∧ ω.1 326 = xup (σ.1 326) n a2 ∧ ω.1 327 = xup (σ.1 327) n a3 ∧ ω.1 328 = xup (σ.1 328) n (σ.1 305 0) ∧ ω.1 305 = xup (σ.1 305) 30 ((n : Int) + 1) := by
      clear qC qM f305 hc hn hx
      rintro ω rfl
      refine ⟨fun a h0 h1 h2 h3 h4 h5 h6 h7 h8 h9 => ?_, ?_, ?_, ?_, ?_, ?_, ?_, ?_, ?_, ?_, ?_⟩
      · rw [xs_ne h9, xs_ne h8, xs_ne h7, xs_ne h6, xs_ne h5, xs_ne h4, xs_ne h3, xs_ne h2, xs_ne h1, xs_ne h0]
      · rw [xs_ne (by decide), xs_ne (by decide), xs_ne (by decide), xs_ne (by decide), xs_ne (by decide), xs_ne (by decide), xs_ne (by decide), xs_ne (by decide), xs_ne (by decide), xs_at, e239]
      · rw [xs_ne (by decide), xs_ne (by decide), xs_ne (by decide), xs_ne (by decide), xs_ne (by decide), xs_ne (by decide), xs_ne (by decide), xs_ne (by decide), xs_at, xs_ne (by decide), e240]
      · rw [xs_ne (by decide), xs_ne (by decide), xs_ne (by decide), xs_ne (by decide), xs_ne (by decide), xs_ne (by decide), xs_ne (by decide), xs_at, xs_ne (by decide), xs_ne (by decide), e241]
      · rw [xs_ne (by decide), xs_ne (by decide), xs_ne (by decide), xs_ne (by decide), xs_ne (by decide), xs_ne (by decide), xs_at, xs_ne (by decide), xs_ne (by decide), xs_ne (by decide), e242]
      · rw [xs_ne (by decide), xs_ne (by decide), xs_ne (by decide), xs_ne (by decide), xs_ne (by decide), xs_at, xs_ne (by decide), xs_ne (by decide), xs_ne (by decide), xs_ne (by decide)]
      · rw [xs_ne (by decide), xs_ne (by decide), xs_ne (by decide), xs_ne (by decide), xs_at, xs_ne (by decide), xs_ne (by decide), xs_ne (by decide), xs_ne (by decide), xs_ne (by decide)]
      · rw [xs_ne (by decide), xs_ne (by decide), xs_ne (by decide), xs_at, xs_ne (by decide), xs_ne (by decide), xs_ne (by decide), xs_ne (by decide), xs_ne (by decide), xs_ne (by decide)]
      · rw [xs_ne (by decide), xs_ne (by decide), xs_at, xs_ne (by decide), xs_ne (by decide), xs_ne (by decide), xs_ne (by decide), xs_ne (by decide), xs_ne (by decide), xs_ne (by decide)]
      · rw [xs_ne (by decide), xs_at, xs_ne (by decide), xs_ne (by decide), xs_ne (by decide), xs_ne (by decide), xs_ne (by decide), xs_ne (by decide), xs_ne (by decide), xs_ne (by decide)]
      · rw [xs_at, xs_ne (by decide), xs_ne (by decide), xs_ne (by decide), xs_ne (by decide), xs_ne (by decide), xs_ne (by decide), xs_ne (by decide), xs_ne (by decide), xs_ne (by decide)]
    obtain ⟨fr, k239, k240, k241, k242, k229, k325, k326, k327, k328, k305⟩ := g _ rfl
    refine ⟨(0, (n : Int) + 1), _, _, qC, qM, ?_, rfl, fun a ha => fr a (by omega) (by omega) (by omega) (by omega) (by omega) (by omega) (by omega) (by omega) (by omega) (by omega), fun k hk => ?_⟩
    · clear g qC qM f305
      generalize xs (xs (xs (xs (xs (xs (xs (xs (xs (xs σ 239 n a1) 240 n a2) 241 n a3) 242 n (σ.1 305 0)) 229 17 ((n : Int) + 1)) 325 n a1) 326 n a2) 327 n a3) 328 n (σ.1 305 0)) 305 30 ((n : Int) + 1) = ω at *
      have r30 : ω.1 305 30 = (n : Int) + 1 := by rw [k305, xup_eq]
      refine pJ_oth hP ⟨⟨?_, ev_J_cg (fun a _ => fr a (by omega) (by omega) (by omega) (by omega) (by omega) (by omega) (by omega) (by omega) (by omega) (by omega)) (fun k hk => by rw [k229, xup_ne (by omega)]) (fun k hk => by rw [k305, xup_ne (by omega)]) (Int.le_of_eq (by rw [k305, xup_ne (by decide)])) (Int.le_of_eq (by rw [k305, xup_ne (by decide)])) hP.2.2.2.2.1, sp_J_cg (fun k hk => by rw [fr _ (by omega) (by omega) (by omega) (by omega) (by omega) (by omega) (by omega) (by omega) (by omega) (by omega)]) (fun k h1 h2 => by rw [k305, xup_ne (by omega)]) hP.2.2.2.2.2.1, ng_J_cg (fun a _ => fr a (by omega) (by omega) (by omega) (by omega) (by omega) (by omega) (by omega) (by omega) (by omega) (by omega)) (fun k hk => by rw [fr _ (by omega) (by omega) (by omega) (by omega) (by omega) (by omega) (by omega) (by omega) (by omega) (by omega)]) (fun k hk => by rw [k305, xup_ne (by omega)]) (Int.le_of_eq (by rw [k305, xup_ne (by decide)])) hP.2.2.2.2.2.2.1⟩, wn_J_cg (fun a _ => fr a (by omega) (by omega) (by omega) (by omega) (by omega) (by omega) (by omega) (by omega) (by omega) (by omega)) hP.2.2.2.2.2.2.2.1, tp_J_cg (fun a _ => fr a (by omega) (by omega) (by omega) (by omega) (by omega) (by omega) (by omega) (by omega) (by omega) (by omega)) (fun k hk => by rw [fr _ (by omega) (by omega) (by omega) (by omega) (by omega) (by omega) (by omega) (by omega) (by omega) (by omega)]) (fun k hk => by rw [k305, xup_ne (by omega)]) hP.2.2.2.2.2.2.2.2⟩ (fun a ha => fr a (by omega) (by omega) (by omega) (by omega) (by omega) (by omega) (by omega) (by omega) (by omega) (by omega)) (fun k hk => by rw [k305, xup_ne (by omega)])
      refine ⟨⟨by rw [k239, k325], by rw [k240, k326], by rw [k241, k327], by rw [k242, k328], by rw [r30, k229, xup_eq]⟩, by rw [r30]; omega⟩
    · rw [k305, xup_ne (by omega)]
  · refine st_same (v := (0, -1)) hP ?_ ?_
    · rw [qC_heat_0, e12, e6]
      repeat' (refine xite (fun _ => ?_) (fun _ => ?_))
      all_goals first | rfl | (exfalso; omega)
    · rw [qM_heat_0]
      repeat' (refine xite (fun _ => ?_) (fun _ => ?_))
      all_goals first | rfl | (exfalso; omega)
theorem st_bag (hP : pJ σ.1) (a1 a2 : Int) : stOK σ iC_bag [(2, 200), (0, a1), (0, a2), (9, 0)] iM_bag [(2, 305), (0, a1), (0, a2)] := by
  obtain ⟨⟨e230, eb, e231, e232, e233, e6⟩, ⟨e234, e235, e236, e237, e238, ec⟩, b36, b42, b32, b4, bb, bc⟩ := id hP.2.2.2.2.1
  have e12 := hP.2.2.1.2.1.2.2.2.2.1
  have eh := hP.2.1.1.2.2.2.2
  have h11 := hP.2.1.2.1
  have es := hP.1.1.2.2.2.2.2
  have hs6 := hP.1.2.1
  have hd0 := hP.2.2.1.2.2.2.1
  by_cases hc : ((0 ≤ a1 ∧ a1 < σ.1 305 11) ∧ (0 ≤ a2 ∧ a2 ≤ σ.1 305 0)) ∧ σ.1 305 36 < 60
  · obtain ⟨n, hn⟩ : ∃ n : Nat, σ.1 305 36 = n := ⟨(σ.1 305 36).toNat, by omega⟩
    have hx : xin (n : Int) 60 := ⟨by omega, by omega⟩
    have qC : X iC_bag 0 [(2, 200), (0, a1), (0, a2), (9, 0)] [] σ = some ((0, (n : Int)), xs (xs (xs (xs σ 231 n a1) 232 n a2) 233 n (σ.1 305 0)) 229 6 ((n : Int) + 1)) := by
      rw [qC_bag_0, eh, xw_id (x := σ.1 305 11 - 1) (by omega) (by omega), e12, e6, hn]
      repeat rw [if_neg (by omega)]
      rw [if_pos (by omega), qEvidence_addBag_0]
      simp (disch := omega) only [e6, e12, eh, hn, if_pos hx, Int.toNat_natCast, xw_id, Int.add_sub_cancel, Option.bind_some, qC_bag_57]
    have f305 : (xs (xs (xs (xs σ 231 n a1) 232 n a2) 233 n (σ.1 305 0)) 229 6 ((n : Int) + 1)).1 305 = σ.1 305 := by
      repeat rw [xs_ne (by decide)]
    have qM : X iM_bag 0 [(2, 305), (0, a1), (0, a2)] [] (xs (xs (xs (xs σ 231 n a1) 232 n a2) 233 n (σ.1 305 0)) 229 6 ((n : Int) + 1)) = some ((0, (n : Int)), xs (xs (xs (xs (xs (xs (xs (xs σ 231 n a1) 232 n a2) 233 n (σ.1 305 0)) 229 6 ((n : Int) + 1)) 330 n a1) 331 n a2) 332 n (σ.1 305 0)) 305 36 ((n : Int) + 1)) := by
      rw [qM_bag_0, f305, hn]
      repeat (first | rw [if_neg (by omega)] | rw [if_pos (by omega)])
      simp (disch := omega) only [if_pos hx, Int.toNat_natCast, Int.add_sub_cancel, xw_id]
    have g : ∀ ω, xs (xs (xs (xs (xs (xs (xs (xs σ 231 n a1) 232 n a2) 233 n (σ.1 305 0)) 229 6 ((n : Int) + 1)) 330 n a1) 331 n a2) 332 n (σ.1 305 0)) 305 36 ((n : Int) + 1) = ω → (∀ a, a ≠ 231 → a ≠ 232 → a ≠ 233 → a ≠ 229 → a ≠ 330 → a ≠ 331 → a ≠ 332 → a ≠ 305 → ω.1 a = σ.1 a) ∧ ω.1 231 = xup (σ.1 330) n a1 ∧ ω.1 232 = xup (σ.1 331) n a2 ∧ ω.1 233 = xup (σ.1 332) n (σ.1 305 0) ∧ ω.1 229 = xup (σ.1 229) 6 ((n : Int) + 1) ∧ ω.1 330 = xup (σ.1 330) n a1 ∧ ω.1 331 = xup (σ.1 331) n a2 ∧ ω.1 332 = xup (σ.1 332) n (σ.1 305 0) ∧ ω.1 305 = xup (σ.1 305) 36 ((n : Int) + 1) := by
      clear qC qM f305 hc hn hx
      rintro ω rfl
      refine ⟨fun a h0 h1 h2 h3 h4 h5 h6 h7 => ?_, ?_, ?_, ?_, ?_, ?_, ?_, ?_, ?_⟩
      · rw [xs_ne h7, xs_ne h6, xs_ne h5, xs_ne h4, xs_ne h3, xs_ne h2, xs_ne h1, xs_ne h0]
      · rw [xs_ne (by decide), xs_ne (by decide), xs_ne (by decide), xs_ne (by decide), xs_ne (by decide), xs_ne (by decide), xs_ne (by decide), xs_at, e231]
      · rw [xs_ne (by decide), xs_ne (by decide), xs_ne (by decide), xs_ne (by decide), xs_ne (by decide), xs_ne (by decide), xs_at, xs_ne (by decide), e232]
      · rw [xs_ne (by decide), xs_ne (by decide), xs_ne (by decide), xs_ne (by decide), xs_ne (by decide), xs_at, xs_ne (by decide), xs_ne (by decide), e233]
      · rw [xs_ne (by decide), xs_ne (by decide), xs_ne (by decide), xs_ne (by decide), xs_at, xs_ne (by decide), xs_ne (by decide), xs_ne (by decide)]
      · rw [xs_ne (by decide), xs_ne (by decide), xs_ne (by decide), xs_at, xs_ne (by decide), xs_ne (by decide), xs_ne (by decide), xs_ne (by decide)]
      · rw [xs_ne (by decide), xs_ne (by decide), xs_at, xs_ne (by decide), xs_ne (by decide), xs_ne (by decide), xs_ne (by decide), xs_ne (by decide)]
      · rw [xs_ne (by decide), xs_at, xs_ne (by decide), xs_ne (by decide), xs_ne (by decide), xs_ne (by decide), xs_ne (by decide), xs_ne (by decide)]
      · rw [xs_at, xs_ne (by decide), xs_ne (by decide), xs_ne (by decide), xs_ne (by decide), xs_ne (by decide), xs_ne (by decide), xs_ne (by decide)]
    obtain ⟨fr, k231, k232, k233, k229, k330, k331, k332, k305⟩ := g _ rfl
    refine ⟨(0, (n : Int)), _, _, qC, qM, ?_, rfl, fun a ha => fr a (by omega) (by omega) (by omega) (by omega) (by omega) (by omega) (by omega) (by omega), fun k hk => ?_⟩
    · clear g qC qM f305
      generalize xs (xs (xs (xs (xs (xs (xs (xs σ 231 n a1) 232 n a2) 233 n (σ.1 305 0)) 229 6 ((n : Int) + 1)) 330 n a1) 331 n a2) 332 n (σ.1 305 0)) 305 36 ((n : Int) + 1) = ω at *
      have r36 : ω.1 305 36 = (n : Int) + 1 := by rw [k305, xup_eq]
      have r42 : ω.1 305 42 = σ.1 305 42 := by rw [k305, xup_ne (by decide)]
      refine pJ_oth hP ⟨⟨ht_J_cg (fun a _ => fr a (by omega) (by omega) (by omega) (by omega) (by omega) (by omega) (by omega) (by omega)) (by rw [k229, xup_ne (by decide)]) (by rw [k305, xup_ne (by decide)]) hP.2.2.2.1, ?_, sp_J_cg (fun k hk => by rw [fr _ (by omega) (by omega) (by omega) (by omega) (by omega) (by omega) (by omega) (by omega)]) (fun k h1 h2 => by rw [k305, xup_ne (by omega)]) hP.2.2.2.2.2.1, ng_J_cg (fun a _ => fr a (by omega) (by omega) (by omega) (by omega) (by omega) (by omega) (by omega) (by omega)) (fun k hk => by rw [fr _ (by omega) (by omega) (by omega) (by omega) (by omega) (by omega) (by omega) (by omega)]) (fun k hk => by rw [k305, xup_ne (by omega)]) (Int.le_of_eq (by rw [k305, xup_ne (by decide)])) hP.2.2.2.2.2.2.1⟩, wn_J_cg (fun a _ => fr a (by omega) (by omega) (by omega) (by omega) (by omega) (by omega) (by omega) (by omega)) hP.2.2.2.2.2.2.2.1, tp_J_cg (fun a _ => fr a (by omega) (by omega) (by omega) (by omega) (by omega) (by omega) (by omega) (by omega)) (fun k hk => by rw [fr _ (by omega) (by omega) (by omega) (by omega) (by omega) (by omega) (by omega) (by omega)]) (fun k hk => by rw [k305, xup_ne (by omega)]) hP.2.2.2.2.2.2.2.2⟩ (fun a ha => fr a (by omega) (by omega) (by omega) (by omega) (by omega) (by omega) (by omega) (by omega)) (fun k hk => by rw [k305, xup_ne (by omega)])
      refine ⟨⟨by rw [fr 230 (by decide) (by decide) (by decide) (by decide) (by decide) (by decide) (by decide) (by decide), fr 329 (by decide) (by decide) (by decide) (by decide) (by decide) (by decide) (by decide) (by decide), e230], by rw [k229, xup_ne (by decide), k305, xup_ne (by decide), eb], by rw [k231, k330], by rw [k232, k331], by rw [k233, k332], by rw [k229, xup_eq, r36]⟩, ⟨by rw [fr 234 (by decide) (by decide) (by decide) (by decide) (by decide) (by decide) (by decide) (by decide), fr 333 (by decide) (by decide) (by decide) (by decide) (by decide) (by decide) (by decide) (by decide), e234], by rw [fr 235 (by decide) (by decide) (by decide) (by decide) (by decide) (by decide) (by decide) (by decide), fr 334 (by decide) (by decide) (by decide) (by decide) (by decide) (by decide) (by decide) (by decide), e235], by rw [fr 236 (by decide) (by decide) (by decide) (by decide) (by decide) (by decide) (by decide) (by decide), fr 335 (by decide) (by decide) (by decide) (by decide) (by decide) (by decide) (by decide) (by decide), e236], by rw [fr 237 (by decide) (by decide) (by decide) (by decide) (by decide) (by decide) (by decide) (by decide), fr 336 (by decide) (by decide) (by decide) (by decide) (by decide) (by decide) (by decide) (by decide), e237], by rw [fr 238 (by decide) (by decide) (by decide) (by decide) (by decide) (by decide) (by decide) (by decide), fr 337 (by decide) (by decide) (by decide) (by decide) (by decide) (by decide) (by decide) (by decide), e238], by rw [k229, xup_ne (by decide), k305, xup_ne (by decide), ec]⟩, by rw [r36]; omega, by rw [r42]; omega, by rw [k305, xup_ne (by decide)]; exact b32, fun i hi => by rw [fr 329 (by decide) (by decide) (by decide) (by decide) (by decide) (by decide) (by decide) (by decide)]; exact b4 i hi, fun i hi => ?_, fun i hi => ?_⟩
      · rw [r36] at hi
        rw [k330, k331, k305, xup_ne (show 11 ≠ 36 by decide), xup_ne (show 0 ≠ 36 by decide)]
        by_cases e : i = n
        · subst e
          simp only [xup_eq]
          exact hc.1
        · simp only [xup_ne e]
          exact bb i (by omega)
      · rw [r42] at hi
        rw [fr 335 (by decide) (by decide) (by decide) (by decide) (by decide) (by decide) (by decide) (by decide), fr 336 (by decide) (by decide) (by decide) (by decide) (by decide) (by decide) (by decide) (by decide)]
        exact bc i hi
    · rw [k305, xup_ne (by omega)]
  · refine st_same (v := (0, -1)) hP ?_ ?_
    · rw [qC_bag_0, eh, xw_id (x := σ.1 305 11 - 1) (by omega) (by omega), e12, e6]
      repeat' (refine xite (fun _ => ?_) (fun _ => ?_))
      all_goals first | rfl | (exfalso; omega)
    · rw [qM_bag_0]
      repeat' (refine xite (fun _ => ?_) (fun _ => ?_))
      all_goals first | rfl | (exfalso; omega)
theorem st_counted (hP : pJ σ.1) (a1 a2 a3 a4 : Int) : stOK σ iC_counted [(2, 200), (0, a1), (0, a2), (0, a3), (0, a4), (9, 0)] iM_counted [(2, 305), (0, a1), (0, a2), (0, a3), (0, a4)] := by
  obtain ⟨⟨e230, eb, e231, e232, e233, e6⟩, ⟨e234, e235, e236, e237, e238, ec⟩, b36, b42, b32, b4, bb, bc⟩ := id hP.2.2.2.2.1
  have e12 := hP.2.2.1.2.1.2.2.2.2.1
  have eh := hP.2.1.1.2.2.2.2
  have h11 := hP.2.1.2.1
  have es := hP.1.1.2.2.2.2.2
  have hs6 := hP.1.2.1
  have hd0 := hP.2.2.1.2.2.2.1
  by_cases hc : ((0 ≤ a1 ∧ a1 < σ.1 305 11) ∧ (0 ≤ a2 ∧ a2 < σ.1 305 6) ∧ (0 ≤ a3 ∧ a3 ≤ σ.1 305 0) ∧ (0 ≤ a4 ∧ a4 ≤ 1000)) ∧ σ.1 305 42 < 60
  · obtain ⟨n, hn⟩ : ∃ n : Nat, σ.1 305 42 = n := ⟨(σ.1 305 42).toNat, by omega⟩
    have hx : xin (n : Int) 60 := ⟨by omega, by omega⟩
    have qC : X iC_counted 0 [(2, 200), (0, a1), (0, a2), (0, a3), (0, a4), (9, 0)] [] σ = some ((0, (n : Int) + 1), xs (xs (xs (xs (xs (xs σ 234 n a1) 235 n a2) 236 n a3) 237 n a4) 238 n (σ.1 305 0)) 229 12 ((n : Int) + 1)) := by
      rw [qC_counted_0, eh, xw_id (x := σ.1 305 11 - 1) (by omega) (by omega), es, xw_id (x := σ.1 305 6 - 1) (by omega) (by omega), e12, ec, hn]
      repeat rw [if_neg (by omega)]
      rw [if_pos (by omega), qEvidence_addCount_0]
      simp (disch := omega) only [ec, e12, eh, es, hn, if_pos hx, Int.toNat_natCast, xw_id, Int.add_sub_cancel, Option.bind_some, qC_counted_85]
    have f305 : (xs (xs (xs (xs (xs (xs σ 234 n a1) 235 n a2) 236 n a3) 237 n a4) 238 n (σ.1 305 0)) 229 12 ((n : Int) + 1)).1 305 = σ.1 305 := by
      repeat rw [xs_ne (by decide)]
    have qM : X iM_counted 0 [(2, 305), (0, a1), (0, a2), (0, a3), (0, a4)] [] (xs (xs (xs (xs (xs (xs σ 234 n a1) 235 n a2) 236 n a3) 237 n a4) 238 n (σ.1 305 0)) 229 12 ((n : Int) + 1)) = some ((0, (n : Int) + 1), xs (xs (xs (xs (xs (xs (xs (xs (xs (xs (xs (xs σ 234 n a1) 235 n a2) 236 n a3) 237 n a4) 238 n (σ.1 305 0)) 229 12 ((n : Int) + 1)) 333 n a1) 334 n a2) 335 n a3) 336 n a4) 337 n (σ.1 305 0)) 305 42 ((n : Int) + 1)) := by
      rw [qM_counted_0, f305, hn]
      repeat (first | rw [if_neg (by omega)] | rw [if_pos (by omega)])
      simp (disch := omega) only [if_pos hx, Int.toNat_natCast, Int.add_sub_cancel, xw_id]
    have g : ∀ ω, xs (xs (xs (xs (xs (xs (xs (xs (xs (xs (xs (xs σ 234 n a1) 235 n a2) 236 n a3) 237 n a4) 238 n (σ.1 305 0)) 229 12 ((n : Int) + 1)) 333 n a1) 334 n a2) 335 n a3) 336 n a4) 337 n (σ.1 305 0)) 305 42 ((n : Int) + 1) = ω → (∀ a, a ≠ 234 → a ≠ 235 → a ≠ 236 → a ≠ 237 → a ≠ 238 → a ≠ 229 → a ≠ 333 → a ≠ 334 → a ≠ 335 → a ≠ 336 → a ≠ 337 → a ≠ 305 → ω.1 a = σ.1 a) ∧ ω.1 234 = xup (σ.1 333) n a1 ∧ ω.1 235 = xup (σ.1 334) n a2 ∧ ω.1 236 = xup (σ.1 335) n a3 ∧ ω.1 237 = xup (σ.1 336) n a4 ∧ ω.1 238 = xup (σ.1 337) n (σ.1 305 0) ∧ ω.1 229 = xup (σ.1 229) 12 ((n : Int) + 1) ∧ ω.1 333 = xup (σ.1 333) n a1 ∧ ω.1 334 = xup (σ.1 334) n a2 ∧ ω.1 335 = xup (σ.1 335) n a3 ∧ ω.1 336 = xup (σ.1 336) n a4 ∧ ω.1 337 = xup (σ.1 337) n (σ.1 305 0) ∧ ω.1 305 = xup (σ.1 305) 42 ((n : Int) + 1) := by
      clear qC qM f305 hc hn hx
      rintro ω rfl
      refine ⟨fun a h0 h1 h2 h3 h4 h5 h6 h7 h8 h9 h10 h11 => ?_, ?_, ?_, ?_, ?_, ?_, ?_, ?_, ?_, ?_, ?_, ?_, ?_⟩
      · rw [xs_ne h11, xs_ne h10, xs_ne h9, xs_ne h8, xs_ne h7, xs_ne h6, xs_ne h5, xs_ne h4, xs_ne h3, xs_ne h2, xs_ne h1, xs_ne h0]
      · rw [xs_ne (by decide), xs_ne (by decide), xs_ne (by decide), xs_ne (by decide), xs_ne (by decide), xs_ne (by decide), xs_ne (by decide), xs_ne (by decide), xs_ne (by decide), xs_ne (by decide), xs_ne (by decide), xs_at, e234]
      · rw [xs_ne (by decide), xs_ne (by decide), xs_ne (by decide), xs_ne (by decide), xs_ne (by decide), xs_ne (by decide), xs_ne (by decide), xs_ne (by decide), xs_ne (by decide), xs_ne (by decide), xs_at, xs_ne (by decide), e235]
      · rw [xs_ne (by decide), xs_ne (by decide), xs_ne (by decide), xs_ne (by decide), xs_ne (by decide), xs_ne (by decide), xs_ne (by decide), xs_ne (by decide), xs_ne (by decide), xs_at, xs_ne (by decide), xs_ne (by decide), e236]
      · rw [xs_ne (by decide), xs_ne (by decide), xs_ne (by decide), xs_ne (by decide), xs_ne (by decide), xs_ne (by decide), xs_ne (by decide), xs_ne (by decide), xs_at, xs_ne (by decide), xs_ne (by decide), xs_ne (by decide), e237]
      · rw [xs_ne (by decide), xs_ne (by decide), xs_ne (by decide), xs_ne (by decide), xs_ne (by decide), xs_ne (by decide), xs_ne (by decide), xs_at, xs_ne (by decide), xs_ne (by decide), xs_ne (by decide), xs_ne (by decide), e238]
      · rw [xs_ne (by decide), xs_ne (by decide), xs_ne (by decide), xs_ne (by decide), xs_ne (by decide), xs_ne (by decide), xs_at, xs_ne (by decide), xs_ne (by decide), xs_ne (by decide), xs_ne (by decide), xs_ne (by decide)]
      · rw [xs_ne (by decide), xs_ne (by decide), xs_ne (by decide), xs_ne (by decide), xs_ne (by decide), xs_at, xs_ne (by decide), xs_ne (by decide), xs_ne (by decide), xs_ne (by decide), xs_ne (by decide), xs_ne (by decide)]
      · rw [xs_ne (by decide), xs_ne (by decide), xs_ne (by decide), xs_ne (by decide), xs_at, xs_ne (by decide), xs_ne (by decide), xs_ne (by decide), xs_ne (by decide), xs_ne (by decide), xs_ne (by decide), xs_ne (by decide)]
      · rw [xs_ne (by decide), xs_ne (by decide), xs_ne (by decide), xs_at, xs_ne (by decide), xs_ne (by decide), xs_ne (by decide), xs_ne (by decide), xs_ne (by decide), xs_ne (by decide), xs_ne (by decide), xs_ne (by decide)]
      · rw [xs_ne (by decide), xs_ne (by decide), xs_at, xs_ne (by decide), xs_ne (by decide), xs_ne (by decide), xs_ne (by decide), xs_ne (by decide), xs_ne (by decide), xs_ne (by decide), xs_ne (by decide), xs_ne (by decide)]
      · rw [xs_ne (by decide), xs_at, xs_ne (by decide), xs_ne (by decide), xs_ne (by decide), xs_ne (by decide), xs_ne (by decide), xs_ne (by decide), xs_ne (by decide), xs_ne (by decide), xs_ne (by decide), xs_ne (by decide)]
      · rw [xs_at, xs_ne (by decide), xs_ne (by decide), xs_ne (by decide), xs_ne (by decide), xs_ne (by decide), xs_ne (by decide), xs_ne (by decide), xs_ne (by decide), xs_ne (by decide), xs_ne (by decide), xs_ne (by decide)]
    obtain ⟨fr, k234, k235, k236, k237, k238, k229, k333, k334, k335, k336, k337, k305⟩ := g _ rfl
    refine ⟨(0, (n : Int) + 1), _, _, qC, qM, ?_, rfl, fun a ha => fr a (by omega) (by omega) (by omega) (by omega) (by omega) (by omega) (by omega) (by omega) (by omega) (by omega) (by omega) (by omega), fun k hk => ?_⟩
    · clear g qC qM f305
      generalize xs (xs (xs (xs (xs (xs (xs (xs (xs (xs (xs (xs σ 234 n a1) 235 n a2) 236 n a3) 237 n a4) 238 n (σ.1 305 0)) 229 12 ((n : Int) + 1)) 333 n a1) 334 n a2) 335 n a3) 336 n a4) 337 n (σ.1 305 0)) 305 42 ((n : Int) + 1) = ω at *
      have r42 : ω.1 305 42 = (n : Int) + 1 := by rw [k305, xup_eq]
      have r36 : ω.1 305 36 = σ.1 305 36 := by rw [k305, xup_ne (by decide)]
      refine pJ_oth hP ⟨⟨ht_J_cg (fun a _ => fr a (by omega) (by omega) (by omega) (by omega) (by omega) (by omega) (by omega) (by omega) (by omega) (by omega) (by omega) (by omega)) (by rw [k229, xup_ne (by decide)]) (by rw [k305, xup_ne (by decide)]) hP.2.2.2.1, ?_, sp_J_cg (fun k hk => by rw [fr _ (by omega) (by omega) (by omega) (by omega) (by omega) (by omega) (by omega) (by omega) (by omega) (by omega) (by omega) (by omega)]) (fun k h1 h2 => by rw [k305, xup_ne (by omega)]) hP.2.2.2.2.2.1, ng_J_cg (fun a _ => fr a (by omega) (by omega) (by omega) (by omega) (by omega) (by omega) (by omega) (by omega) (by omega) (by omega) (by omega) (by omega)) (fun k hk => by rw [fr _ (by omega) (by omega) (by omega) (by omega) (by omega) (by omega) (by omega) (by omega) (by omega) (by omega) (by omega) (by omega)]) (fun k hk => by rw [k305, xup_ne (by omega)]) (Int.le_of_eq (by rw [k305, xup_ne (by decide)])) hP.2.2.2.2.2.2.1⟩, wn_J_cg (fun a _ => fr a (by omega) (by omega) (by omega) (by omega) (by omega) (by omega) (by omega) (by omega) (by omega) (by omega) (by omega) (by omega)) hP.2.2.2.2.2.2.2.1, tp_J_cg (fun a _ => fr a (by omega) (by omega) (by omega) (by omega) (by omega) (by omega) (by omega) (by omega) (by omega) (by omega) (by omega) (by omega)) (fun k hk => by rw [fr _ (by omega) (by omega) (by omega) (by omega) (by omega) (by omega) (by omega) (by omega) (by omega) (by omega) (by omega) (by omega)]) (fun k hk => by rw [k305, xup_ne (by omega)]) hP.2.2.2.2.2.2.2.2⟩ (fun a ha => fr a (by omega) (by omega) (by omega) (by omega) (by omega) (by omega) (by omega) (by omega) (by omega) (by omega) (by omega) (by omega)) (fun k hk => by rw [k305, xup_ne (by omega)])
      refine ⟨⟨by rw [fr 230 (by decide) (by decide) (by decide) (by decide) (by decide) (by decide) (by decide) (by decide) (by decide) (by decide) (by decide) (by decide), fr 329 (by decide) (by decide) (by decide) (by decide) (by decide) (by decide) (by decide) (by decide) (by decide) (by decide) (by decide) (by decide), e230], by rw [k229, xup_ne (by decide), k305, xup_ne (by decide), eb], by rw [fr 231 (by decide) (by decide) (by decide) (by decide) (by decide) (by decide) (by decide) (by decide) (by decide) (by decide) (by decide) (by decide), fr 330 (by decide) (by decide) (by decide) (by decide) (by decide) (by decide) (by decide) (by decide) (by decide) (by decide) (by decide) (by decide), e231], by rw [fr 232 (by decide) (by decide) (by decide) (by decide) (by decide) (by decide) (by decide) (by decide) (by decide) (by decide) (by decide) (by decide), fr 331 (by decide) (by decide) (by decide) (by decide) (by decide) (by decide) (by decide) (by decide) (by decide) (by decide) (by decide) (by decide), e232], by rw [fr 233 (by decide) (by decide) (by decide) (by decide) (by decide) (by decide) (by decide) (by decide) (by decide) (by decide) (by decide) (by decide), fr 332 (by decide) (by decide) (by decide) (by decide) (by decide) (by decide) (by decide) (by decide) (by decide) (by decide) (by decide) (by decide), e233], by rw [k229, xup_ne (by decide), k305, xup_ne (by decide), e6]⟩, ⟨by rw [k234, k333], by rw [k235, k334], by rw [k236, k335], by rw [k237, k336], by rw [k238, k337], by rw [k229, xup_eq, r42]⟩, by rw [r36]; omega, by rw [r42]; omega, by rw [k305, xup_ne (by decide)]; exact b32, fun i hi => by rw [fr 329 (by decide) (by decide) (by decide) (by decide) (by decide) (by decide) (by decide) (by decide) (by decide) (by decide) (by decide) (by decide)]; exact b4 i hi, fun i hi => ?_, fun i hi => ?_⟩
      · rw [r36] at hi
        rw [fr 330 (by decide) (by decide) (by decide) (by decide) (by decide) (by decide) (by decide) (by decide) (by decide) (by decide) (by decide) (by decide), fr 331 (by decide) (by decide) (by decide) (by decide) (by decide) (by decide) (by decide) (by decide) (by decide) (by decide) (by decide) (by decide), k305, xup_ne (show 11 ≠ 42 by decide), xup_ne (show 0 ≠ 42 by decide)]
        exact bb i hi
      · rw [r42] at hi
        rw [k335, k336]
        by_cases e : i = n
        · subst e
          simp only [xup_eq]
          exact ⟨by omega, hc.1.2.2.2⟩
        · simp only [xup_ne e]
          exact bc i (by omega)
    · rw [k305, xup_ne (by omega)]
  · refine st_same (v := (0, -1)) hP ?_ ?_
    · rw [qC_counted_0, eh, xw_id (x := σ.1 305 11 - 1) (by omega) (by omega), es, xw_id (x := σ.1 305 6 - 1) (by omega) (by omega), e12, ec]
      repeat' (refine xite (fun _ => ?_) (fun _ => ?_))
      all_goals first | rfl | (exfalso; omega)
    · rw [qM_counted_0]
      repeat' (refine xite (fun _ => ?_) (fun _ => ?_))
      all_goals first | rfl | (exfalso; omega)
theorem st_washer (hP : pJ σ.1) (a1 a2 a3 : Int) : stOK σ iC_washer [(2, 200), (0, a1), (0, a2), (0, a3), (9, 0)] iM_washer [(2, 305), (0, a1), (0, a2), (0, a3)] := by
  obtain ⟨⟨e259, e260, e261, ew, ed⟩, ⟨e262, e263, e264, ej⟩, b102, b103, b107, bw, bj⟩ := id hP.2.2.2.2.2.2.1
  have es := hP.1.1.2.2.2.2.2
  have hs6 := hP.1.2.1
  by_cases hc : ((1 ≤ a1 ∧ a1 ≤ 5000) ∧ (1 ≤ a2 ∧ a2 ≤ 200) ∧ (0 ≤ a3 ∧ a3 ≤ 100)) ∧ σ.1 305 102 < 3
  · obtain ⟨n, hn⟩ : ∃ n : Nat, σ.1 305 102 = n := ⟨(σ.1 305 102).toNat, by omega⟩
    have hx : xin (n : Int) 3 := ⟨by omega, by omega⟩
    have qC : X iC_washer 0 [(2, 200), (0, a1), (0, a2), (0, a3), (9, 0)] [] σ = some ((0, (n : Int)), xs (xs (xs (xs σ 259 n a1) 260 n a2) 261 n a3) 258 4 ((n : Int) + 1)) := by
      rw [qC_washer_0, ew, hn]
      repeat rw [if_neg (by omega)]
      rw [if_pos (by omega), qNight_addWasher_0]
      simp (disch := omega) only [ew, hn, if_pos hx, Int.toNat_natCast, xw_id, Int.add_sub_cancel, Option.bind_some, qC_washer_65]
    have f305 : (xs (xs (xs (xs σ 259 n a1) 260 n a2) 261 n a3) 258 4 ((n : Int) + 1)).1 305 = σ.1 305 := by
      repeat rw [xs_ne (by decide)]
    have qM : X iM_washer 0 [(2, 305), (0, a1), (0, a2), (0, a3)] [] (xs (xs (xs (xs σ 259 n a1) 260 n a2) 261 n a3) 258 4 ((n : Int) + 1)) = some ((0, (n : Int)), xs (xs (xs (xs (xs (xs (xs (xs σ 259 n a1) 260 n a2) 261 n a3) 258 4 ((n : Int) + 1)) 375 n a1) 376 n a2) 377 n a3) 305 102 ((n : Int) + 1)) := by
      rw [qM_washer_0, f305, hn]
      repeat (first | rw [if_neg (by omega)] | rw [if_pos (by omega)])
      simp (disch := omega) only [if_pos hx, Int.toNat_natCast, Int.add_sub_cancel, xw_id]
    have g : ∀ ω, xs (xs (xs (xs (xs (xs (xs (xs σ 259 n a1) 260 n a2) 261 n a3) 258 4 ((n : Int) + 1)) 375 n a1) 376 n a2) 377 n a3) 305 102 ((n : Int) + 1) = ω → (∀ a, a ≠ 259 → a ≠ 260 → a ≠ 261 → a ≠ 258 → a ≠ 375 → a ≠ 376 → a ≠ 377 → a ≠ 305 → ω.1 a = σ.1 a) ∧ ω.1 259 = xup (σ.1 375) n a1 ∧ ω.1 260 = xup (σ.1 376) n a2 ∧ ω.1 261 = xup (σ.1 377) n a3 ∧ ω.1 258 = xup (σ.1 258) 4 ((n : Int) + 1) ∧ ω.1 375 = xup (σ.1 375) n a1 ∧ ω.1 376 = xup (σ.1 376) n a2 ∧ ω.1 377 = xup (σ.1 377) n a3 ∧ ω.1 305 = xup (σ.1 305) 102 ((n : Int) + 1) := by
      clear qC qM f305 hc hn hx
      rintro ω rfl
      refine ⟨fun a h0 h1 h2 h3 h4 h5 h6 h7 => ?_, ?_, ?_, ?_, ?_, ?_, ?_, ?_, ?_⟩
      · rw [xs_ne h7, xs_ne h6, xs_ne h5, xs_ne h4, xs_ne h3, xs_ne h2, xs_ne h1, xs_ne h0]
      · rw [xs_ne (by decide), xs_ne (by decide), xs_ne (by decide), xs_ne (by decide), xs_ne (by decide), xs_ne (by decide), xs_ne (by decide), xs_at, e259]
      · rw [xs_ne (by decide), xs_ne (by decide), xs_ne (by decide), xs_ne (by decide), xs_ne (by decide), xs_ne (by decide), xs_at, xs_ne (by decide), e260]
      · rw [xs_ne (by decide), xs_ne (by decide), xs_ne (by decide), xs_ne (by decide), xs_ne (by decide), xs_at, xs_ne (by decide), xs_ne (by decide), e261]
      · rw [xs_ne (by decide), xs_ne (by decide), xs_ne (by decide), xs_ne (by decide), xs_at, xs_ne (by decide), xs_ne (by decide), xs_ne (by decide)]
      · rw [xs_ne (by decide), xs_ne (by decide), xs_ne (by decide), xs_at, xs_ne (by decide), xs_ne (by decide), xs_ne (by decide), xs_ne (by decide)]
      · rw [xs_ne (by decide), xs_ne (by decide), xs_at, xs_ne (by decide), xs_ne (by decide), xs_ne (by decide), xs_ne (by decide), xs_ne (by decide)]
      · rw [xs_ne (by decide), xs_at, xs_ne (by decide), xs_ne (by decide), xs_ne (by decide), xs_ne (by decide), xs_ne (by decide), xs_ne (by decide)]
      · rw [xs_at, xs_ne (by decide), xs_ne (by decide), xs_ne (by decide), xs_ne (by decide), xs_ne (by decide), xs_ne (by decide), xs_ne (by decide)]
    obtain ⟨fr, k259, k260, k261, k258, k375, k376, k377, k305⟩ := g _ rfl
    refine ⟨(0, (n : Int)), _, _, qC, qM, ?_, rfl, fun a ha => fr a (by omega) (by omega) (by omega) (by omega) (by omega) (by omega) (by omega) (by omega), fun k hk => ?_⟩
    · clear g qC qM f305
      generalize xs (xs (xs (xs (xs (xs (xs (xs σ 259 n a1) 260 n a2) 261 n a3) 258 4 ((n : Int) + 1)) 375 n a1) 376 n a2) 377 n a3) 305 102 ((n : Int) + 1) = ω at *
      have r102 : ω.1 305 102 = (n : Int) + 1 := by rw [k305, xup_eq]
      have r107 : ω.1 305 107 = σ.1 305 107 := by rw [k305, xup_ne (by decide)]
      refine pJ_oth hP ⟨⟨ht_J_cg (fun a _ => fr a (by omega) (by omega) (by omega) (by omega) (by omega) (by omega) (by omega) (by omega)) (by rw [fr _ (by omega) (by omega) (by omega) (by omega) (by omega) (by omega) (by omega) (by omega)]) (by rw [k305, xup_ne (by decide)]) hP.2.2.2.1, ev_J_cg (fun a _ => fr a (by omega) (by omega) (by omega) (by omega) (by omega) (by omega) (by omega) (by omega)) (fun k hk => by rw [fr _ (by omega) (by omega) (by omega) (by omega) (by omega) (by omega) (by omega) (by omega)]) (fun k hk => by rw [k305, xup_ne (by omega)]) (Int.le_of_eq (by rw [k305, xup_ne (by decide)])) (Int.le_of_eq (by rw [k305, xup_ne (by decide)])) hP.2.2.2.2.1, sp_J_cg (fun k hk => by rw [fr _ (by omega) (by omega) (by omega) (by omega) (by omega) (by omega) (by omega) (by omega)]) (fun k h1 h2 => by rw [k305, xup_ne (by omega)]) hP.2.2.2.2.2.1, ?_⟩, wn_J_cg (fun a _ => fr a (by omega) (by omega) (by omega) (by omega) (by omega) (by omega) (by omega) (by omega)) hP.2.2.2.2.2.2.2.1, tp_J_cg (fun a _ => fr a (by omega) (by omega) (by omega) (by omega) (by omega) (by omega) (by omega) (by omega)) (fun k hk => by rw [fr _ (by omega) (by omega) (by omega) (by omega) (by omega) (by omega) (by omega) (by omega)]) (fun k hk => by rw [k305, xup_ne (by omega)]) hP.2.2.2.2.2.2.2.2⟩ (fun a ha => fr a (by omega) (by omega) (by omega) (by omega) (by omega) (by omega) (by omega) (by omega)) (fun k hk => by rw [k305, xup_ne (by omega)])
      refine ⟨⟨by rw [k259, k375], by rw [k260, k376], by rw [k261, k377], by rw [k258, xup_eq, r102], by rw [k258, xup_ne (by decide), k305, xup_ne (by decide), ed]⟩, ⟨by rw [fr 262 (by decide) (by decide) (by decide) (by decide) (by decide) (by decide) (by decide) (by decide), fr 378 (by decide) (by decide) (by decide) (by decide) (by decide) (by decide) (by decide) (by decide), e262], by rw [fr 263 (by decide) (by decide) (by decide) (by decide) (by decide) (by decide) (by decide) (by decide), fr 379 (by decide) (by decide) (by decide) (by decide) (by decide) (by decide) (by decide) (by decide), e263], by rw [fr 264 (by decide) (by decide) (by decide) (by decide) (by decide) (by decide) (by decide) (by decide), fr 380 (by decide) (by decide) (by decide) (by decide) (by decide) (by decide) (by decide) (by decide), e264], by rw [k258, xup_ne (by decide), k305, xup_ne (by decide), ej]⟩, by rw [r102]; omega, by rw [k305, xup_ne (by decide)]; exact b103, by rw [r107]; exact b107, fun i hi => ?_, fun i hi => ?_⟩
      · rw [r102] at hi
        rw [k375, k376, k377]
        by_cases e : i = n
        · subst e
          simp only [xup_eq]
          exact hc.1
        · simp only [xup_ne e]
          exact bw i (by omega)
      · rw [r107] at hi
        rw [fr 378 (by decide) (by decide) (by decide) (by decide) (by decide) (by decide) (by decide) (by decide), fr 379 (by decide) (by decide) (by decide) (by decide) (by decide) (by decide) (by decide) (by decide), fr 380 (by decide) (by decide) (by decide) (by decide) (by decide) (by decide) (by decide) (by decide), k305, xup_ne (show 6 ≠ 102 by decide)]
        exact bj i hi
    · rw [k305, xup_ne (by omega)]
  · refine st_same (v := (0, -1)) hP ?_ ?_
    · rw [qC_washer_0, ew]
      repeat' (refine xite (fun _ => ?_) (fun _ => ?_))
      all_goals first | rfl | (exfalso; omega)
    · rw [qM_washer_0]
      repeat' (refine xite (fun _ => ?_) (fun _ => ?_))
      all_goals first | rfl | (exfalso; omega)
theorem st_job (hP : pJ σ.1) (a1 a2 a3 : Int) : stOK σ iC_job [(2, 200), (0, a1), (0, a2), (0, a3), (9, 0)] iM_job [(2, 305), (0, a1), (0, a2), (0, a3)] := by
  obtain ⟨⟨e259, e260, e261, ew, ed⟩, ⟨e262, e263, e264, ej⟩, b102, b103, b107, bw, bj⟩ := id hP.2.2.2.2.2.2.1
  have es := hP.1.1.2.2.2.2.2
  have hs6 := hP.1.2.1
  by_cases hc : ((0 ≤ a1 ∧ a1 < σ.1 305 6) ∧ (1 ≤ a2 ∧ a2 ≤ 200) ∧ (0 ≤ a3 ∧ a3 ≤ 1440)) ∧ σ.1 305 107 < 7
  · obtain ⟨n, hn⟩ : ∃ n : Nat, σ.1 305 107 = n := ⟨(σ.1 305 107).toNat, by omega⟩
    have hx : xin (n : Int) 7 := ⟨by omega, by omega⟩
    have qC : X iC_job 0 [(2, 200), (0, a1), (0, a2), (0, a3), (9, 0)] [] σ = some ((0, (n : Int)), xs (xs (xs (xs σ 262 n a1) 263 n a2) 264 n a3) 258 9 ((n : Int) + 1)) := by
      rw [qC_job_0, es, xw_id (x := σ.1 305 6 - 1) (by omega) (by omega), ej, hn]
      repeat rw [if_neg (by omega)]
      rw [if_pos (by omega), qNight_addJob_0]
      simp (disch := omega) only [ej, es, hn, if_pos hx, Int.toNat_natCast, xw_id, Int.add_sub_cancel, Option.bind_some, qC_job_67]
    have f305 : (xs (xs (xs (xs σ 262 n a1) 263 n a2) 264 n a3) 258 9 ((n : Int) + 1)).1 305 = σ.1 305 := by
      repeat rw [xs_ne (by decide)]
    have qM : X iM_job 0 [(2, 305), (0, a1), (0, a2), (0, a3)] [] (xs (xs (xs (xs σ 262 n a1) 263 n a2) 264 n a3) 258 9 ((n : Int) + 1)) = some ((0, (n : Int)), xs (xs (xs (xs (xs (xs (xs (xs σ 262 n a1) 263 n a2) 264 n a3) 258 9 ((n : Int) + 1)) 378 n a1) 379 n a2) 380 n a3) 305 107 ((n : Int) + 1)) := by
      rw [qM_job_0, f305, hn]
      repeat (first | rw [if_neg (by omega)] | rw [if_pos (by omega)])
      simp (disch := omega) only [if_pos hx, Int.toNat_natCast, Int.add_sub_cancel, xw_id]
    have g : ∀ ω, xs (xs (xs (xs (xs (xs (xs (xs σ 262 n a1) 263 n a2) 264 n a3) 258 9 ((n : Int) + 1)) 378 n a1) 379 n a2) 380 n a3) 305 107 ((n : Int) + 1) = ω → (∀ a, a ≠ 262 → a ≠ 263 → a ≠ 264 → a ≠ 258 → a ≠ 378 → a ≠ 379 → a ≠ 380 → a ≠ 305 → ω.1 a = σ.1 a) ∧ ω.1 262 = xup (σ.1 378) n a1 ∧ ω.1 263 = xup (σ.1 379) n a2 ∧ ω.1 264 = xup (σ.1 380) n a3 ∧ ω.1 258 = xup (σ.1 258) 9 ((n : Int) + 1) ∧ ω.1 378 = xup (σ.1 378) n a1 ∧ ω.1 379 = xup (σ.1 379) n a2 ∧ ω.1 380 = xup (σ.1 380) n a3 ∧ ω.1 305 = xup (σ.1 305) 107 ((n : Int) + 1) := by
      clear qC qM f305 hc hn hx
      rintro ω rfl
      refine ⟨fun a h0 h1 h2 h3 h4 h5 h6 h7 => ?_, ?_, ?_, ?_, ?_, ?_, ?_, ?_, ?_⟩
      · rw [xs_ne h7, xs_ne h6, xs_ne h5, xs_ne h4, xs_ne h3, xs_ne h2, xs_ne h1, xs_ne h0]
      · rw [xs_ne (by decide), xs_ne (by decide), xs_ne (by decide), xs_ne (by decide), xs_ne (by decide), xs_ne (by decide), xs_ne (by decide), xs_at, e262]
      · rw [xs_ne (by decide), xs_ne (by decide), xs_ne (by decide), xs_ne (by decide), xs_ne (by decide), xs_ne (by decide), xs_at, xs_ne (by decide), e263]
      · rw [xs_ne (by decide), xs_ne (by decide), xs_ne (by decide), xs_ne (by decide), xs_ne (by decide), xs_at, xs_ne (by decide), xs_ne (by decide), e264]
      · rw [xs_ne (by decide), xs_ne (by decide), xs_ne (by decide), xs_ne (by decide), xs_at, xs_ne (by decide), xs_ne (by decide), xs_ne (by decide)]
      · rw [xs_ne (by decide), xs_ne (by decide), xs_ne (by decide), xs_at, xs_ne (by decide), xs_ne (by decide), xs_ne (by decide), xs_ne (by decide)]
      · rw [xs_ne (by decide), xs_ne (by decide), xs_at, xs_ne (by decide), xs_ne (by decide), xs_ne (by decide), xs_ne (by decide), xs_ne (by decide)]
      · rw [xs_ne (by decide), xs_at, xs_ne (by decide), xs_ne (by decide), xs_ne (by decide), xs_ne (by decide), xs_ne (by decide), xs_ne (by decide)]
      · rw [xs_at, xs_ne (by decide), xs_ne (by decide), xs_ne (by decide), xs_ne (by decide), xs_ne (by decide), xs_ne (by decide), xs_ne (by decide)]
    obtain ⟨fr, k262, k263, k264, k258, k378, k379, k380, k305⟩ := g _ rfl
    refine ⟨(0, (n : Int)), _, _, qC, qM, ?_, rfl, fun a ha => fr a (by omega) (by omega) (by omega) (by omega) (by omega) (by omega) (by omega) (by omega), fun k hk => ?_⟩
    · clear g qC qM f305
      generalize xs (xs (xs (xs (xs (xs (xs (xs σ 262 n a1) 263 n a2) 264 n a3) 258 9 ((n : Int) + 1)) 378 n a1) 379 n a2) 380 n a3) 305 107 ((n : Int) + 1) = ω at *
      have r107 : ω.1 305 107 = (n : Int) + 1 := by rw [k305, xup_eq]
      have r102 : ω.1 305 102 = σ.1 305 102 := by rw [k305, xup_ne (by decide)]
      refine pJ_oth hP ⟨⟨ht_J_cg (fun a _ => fr a (by omega) (by omega) (by omega) (by omega) (by omega) (by omega) (by omega) (by omega)) (by rw [fr _ (by omega) (by omega) (by omega) (by omega) (by omega) (by omega) (by omega) (by omega)]) (by rw [k305, xup_ne (by decide)]) hP.2.2.2.1, ev_J_cg (fun a _ => fr a (by omega) (by omega) (by omega) (by omega) (by omega) (by omega) (by omega) (by omega)) (fun k hk => by rw [fr _ (by omega) (by omega) (by omega) (by omega) (by omega) (by omega) (by omega) (by omega)]) (fun k hk => by rw [k305, xup_ne (by omega)]) (Int.le_of_eq (by rw [k305, xup_ne (by decide)])) (Int.le_of_eq (by rw [k305, xup_ne (by decide)])) hP.2.2.2.2.1, sp_J_cg (fun k hk => by rw [fr _ (by omega) (by omega) (by omega) (by omega) (by omega) (by omega) (by omega) (by omega)]) (fun k h1 h2 => by rw [k305, xup_ne (by omega)]) hP.2.2.2.2.2.1, ?_⟩, wn_J_cg (fun a _ => fr a (by omega) (by omega) (by omega) (by omega) (by omega) (by omega) (by omega) (by omega)) hP.2.2.2.2.2.2.2.1, tp_J_cg (fun a _ => fr a (by omega) (by omega) (by omega) (by omega) (by omega) (by omega) (by omega) (by omega)) (fun k hk => by rw [fr _ (by omega) (by omega) (by omega) (by omega) (by omega) (by omega) (by omega) (by omega)]) (fun k hk => by rw [k305, xup_ne (by omega)]) hP.2.2.2.2.2.2.2.2⟩ (fun a ha => fr a (by omega) (by omega) (by omega) (by omega) (by omega) (by omega) (by omega) (by omega)) (fun k hk => by rw [k305, xup_ne (by omega)])
      refine ⟨⟨by rw [fr 259 (by decide) (by decide) (by decide) (by decide) (by decide) (by decide) (by decide) (by decide), fr 375 (by decide) (by decide) (by decide) (by decide) (by decide) (by decide) (by decide) (by decide), e259], by rw [fr 260 (by decide) (by decide) (by decide) (by decide) (by decide) (by decide) (by decide) (by decide), fr 376 (by decide) (by decide) (by decide) (by decide) (by decide) (by decide) (by decide) (by decide), e260], by rw [fr 261 (by decide) (by decide) (by decide) (by decide) (by decide) (by decide) (by decide) (by decide), fr 377 (by decide) (by decide) (by decide) (by decide) (by decide) (by decide) (by decide) (by decide), e261], by rw [k258, xup_ne (by decide), k305, xup_ne (by decide), ew], by rw [k258, xup_ne (by decide), k305, xup_ne (by decide), ed]⟩, ⟨by rw [k262, k378], by rw [k263, k379], by rw [k264, k380], by rw [k258, xup_eq, r107]⟩, by rw [r102]; omega, by rw [k305, xup_ne (by decide)]; exact b103, by rw [r107]; omega, fun i hi => ?_, fun i hi => ?_⟩
      · rw [r102] at hi
        rw [fr 375 (by decide) (by decide) (by decide) (by decide) (by decide) (by decide) (by decide) (by decide), fr 376 (by decide) (by decide) (by decide) (by decide) (by decide) (by decide) (by decide) (by decide), fr 377 (by decide) (by decide) (by decide) (by decide) (by decide) (by decide) (by decide) (by decide)]
        exact bw i hi
      · rw [r107] at hi
        rw [k378, k379, k380, k305, xup_ne (show 6 ≠ 107 by decide)]
        by_cases e : i = n
        · subst e
          simp only [xup_eq]
          exact hc.1
        · simp only [xup_ne e]
          exact bj i (by omega)
    · rw [k305, xup_ne (by omega)]
  · refine st_same (v := (0, -1)) hP ?_ ?_
    · rw [qC_job_0, es, xw_id (x := σ.1 305 6 - 1) (by omega) (by omega), ej]
      repeat' (refine xite (fun _ => ?_) (fun _ => ?_))
      all_goals first | rfl | (exfalso; omega)
    · rw [qM_job_0]
      repeat' (refine xite (fun _ => ?_) (fun _ => ?_))
      all_goals first | rfl | (exfalso; omega)
end CALLSB

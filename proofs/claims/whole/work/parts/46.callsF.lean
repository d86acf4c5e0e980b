/-! wants; reading -/
theorem xob_some {α X : Type} {v : α} {b : X} {f : α → X} : xob (some v) b f = f v := rfl
theorem wn_ic {s w : Nat} (hs : s < 6) (hw : w < 7) : xw (xw ((s : Int) * 7) + w) = ((7 * s + w : Nat) : Int) := by
  rw [xw_id (x := (s : Int) * 7) (by omega) (by omega), xw_id (by omega) (by omega)]
  omega
theorem wn_im {h s w : Nat} (hh : h < 8) (hs : s < 6) (hw : w < 7) : xw (xw (xw (42 * (h : Int)) + xw (7 * (s : Int))) + w) = ((42 * h + (7 * s + w) : Nat) : Int) := by
  rw [xw_id (x := 42 * (h : Int)) (by omega) (by omega), xw_id (x := 7 * (s : Int)) (by omega) (by omega), xw_id (x := 42 * (h : Int) + 7 * (s : Int)) (by omega) (by omega), xw_id (by omega) (by omega)]
  omega
section CALLSF
variable {σ : xS}
theorem wn_row {h : Nat} (hh : h < 8) : xag xE1 σ 245 h = ((246 + h : Nat) : Int) ∧ xarr xE1 σ ((246 + h : Nat) : Int) 0 = some 42 ∧ ∀ k v, xwr xE1 σ ((246 + h : Nat) : Int) k v = some (xs σ (246 + h) k v) := by
  match h, hh with
  | 0, _ => exact ⟨rfl, rfl, fun _ _ => rfl⟩
  | 1, _ => exact ⟨rfl, rfl, fun _ _ => rfl⟩
  | 2, _ => exact ⟨rfl, rfl, fun _ _ => rfl⟩
  | 3, _ => exact ⟨rfl, rfl, fun _ _ => rfl⟩
  | 4, _ => exact ⟨rfl, rfl, fun _ _ => rfl⟩
  | 5, _ => exact ⟨rfl, rfl, fun _ _ => rfl⟩
  | 6, _ => exact ⟨rfl, rfl, fun _ _ => rfl⟩
  | 7, _ => exact ⟨rfl, rfl, fun _ _ => rfl⟩
  | n + 8, h => omega
theorem st_want (hP : pJ σ.1) (a1 a2 a3 a4 : Int) : stOK σ iC_want [(2, 200), (0, a1), (0, a2), (0, a3), (0, a4)] iM_want [(2, 305), (0, a1), (0, a2), (0, a3), (0, a4)] := by
  have eh := hP.2.1.1.2.2.2.2
  have h11 := hP.2.1.2.1
  have es := hP.1.1.2.2.2.2.2
  have h6 := hP.1.2.1
  have q1 := qC_want_0 a1 a2 a3 a4 σ
  rw [eh, es, xw_id (x := σ.1 305 11 - 1) (by omega) (by omega), xw_id (x := σ.1 305 6 - 1) (by omega) (by omega)] at q1
  by_cases hc : (0 ≤ a1 ∧ a1 < σ.1 305 11) ∧ (0 ≤ a2 ∧ a2 < σ.1 305 6) ∧ (0 ≤ a3 ∧ a3 ≤ 6) ∧ (0 ≤ a4 ∧ a4 ≤ 50)
  · obtain ⟨h, e1⟩ : ∃ h : Nat, a1 = h := ⟨a1.toNat, by omega⟩
    obtain ⟨s, e2⟩ : ∃ s : Nat, a2 = s := ⟨a2.toNat, by omega⟩
    obtain ⟨w, e3⟩ : ∃ w : Nat, a3 = w := ⟨a3.toNat, by omega⟩
    subst e1 e2 e3
    have hh : h < 8 := by omega
    obtain ⟨r1, r2, r3⟩ := wn_row (σ := σ) hh
    have hs6 : s < 6 := by omega
    have hw7 : w < 7 := by omega
    repeat rw [if_neg (by omega)] at q1
    rw [if_pos (xin_of (by omega) (by omega)), Int.toNat_natCast, r1, r2] at q1
    have q2 : X iC_want 0 [(2, 200), (0, (h : Int)), (0, (s : Int)), (0, (w : Int)), (0, a4)] [] σ = some ((0, 1), xs σ (246 + h) (7 * s + w) a4) := by
      rw [q1, xob_some, wn_ic hs6 hw7, if_pos (xin_of (by omega) (by omega)), Int.toNat_natCast, r3, xob_some]
    have qm := qM_want_0 (h : Int) (s : Int) (w : Int) a4 (xs σ (246 + h) (7 * s + w) a4)
    rw [xs_ne (show 305 ≠ 246 + h by omega), wn_im hh hs6 hw7] at qm
    clear q1 r1 r2 r3
    repeat (first | rw [if_neg (by omega)] at qm | rw [if_pos (by omega)] at qm)
    rw [Int.toNat_natCast] at qm
    refine ⟨(0, 1), _, _, q2, qm, ?_, rfl, fun a ha => by rw [xs_ne (by omega), xs_ne (by omega)], fun k hk => by rw [xs_ne (by omega), xs_ne (by omega)]⟩
    have fr : ∀ a, a ≠ 246 + h → a ≠ 369 → (xs (xs σ (246 + h) (7 * s + w) a4) 369 (42 * h + (7 * s + w)) a4).1 a = σ.1 a := fun a h1 h2 => by rw [xs_ne h2, xs_ne h1]
    have k1 : (xs (xs σ (246 + h) (7 * s + w) a4) 369 (42 * h + (7 * s + w)) a4).1 (246 + h) = xup (σ.1 (246 + h)) (7 * s + w) a4 := by rw [xs_ne (by omega), xs_at]
    have k2 : (xs (xs σ (246 + h) (7 * s + w) a4) 369 (42 * h + (7 * s + w)) a4).1 369 = xup (σ.1 369) (42 * h + (7 * s + w)) a4 := by rw [xs_at, xs_ne (by omega)]
    clear q2 qm
    generalize xs (xs σ (246 + h) (7 * s + w) a4) 369 (42 * h + (7 * s + w)) a4 = ω at *
    refine pJ_few hP ⟨ev_J_cg (fun a _ => fr a (by omega) (by omega)) (fun k _ => by rw [fr _ (by omega) (by omega)]) (fun k _ => by rw [fr _ (by omega) (by omega)]) (Int.le_of_eq (by rw [fr _ (by omega) (by omega)])) (Int.le_of_eq (by rw [fr _ (by omega) (by omega)])) hP.2.2.2.2.1, sp_J_cg (fun k _ => by rw [fr _ (by omega) (by omega)]) (fun k _ _ => by rw [fr _ (by omega) (by omega)]) hP.2.2.2.2.2.1, ng_J_cg (fun a _ => fr a (by omega) (by omega)) (fun k _ => by rw [fr _ (by omega) (by omega)]) (fun k _ => by rw [fr _ (by omega) (by omega)]) (Int.le_of_eq (by rw [fr _ (by omega) (by omega)])) hP.2.2.2.2.2.2.1, fun i j hi hj => ?_⟩ (fun a _ => fr a (by omega) (by omega)) (by rw [fr _ (by omega) (by omega)]) (fun k _ => by rw [fr _ (by omega) (by omega)])
    have h0 := hP.2.2.2.2.2.2.2.1 i j hi hj
    rw [k2, xup_at]
    by_cases e : i = h
    · subst e
      rw [k1, xup_at]
      by_cases e2 : j = 7 * s + w
      · rw [if_pos e2, if_pos (by omega)]
        exact ⟨rfl, hc.2.2.2⟩
      · rw [if_neg e2, if_neg (by omega)]
        exact h0
    · rw [fr (246 + i) (by omega) (by omega), if_neg (by omega)]
      exact h0
  · refine st_same (v := (0, 0)) hP ?_ ?_
    · rw [q1]
      repeat' (refine xite (fun _ => ?_) (fun _ => ?_))
      all_goals first | rfl | (exfalso; omega)
    · rw [qM_want_0]
      have hw : (0 ≤ a1 ∧ a1 < σ.1 305 11) ∧ (0 ≤ a2 ∧ a2 < σ.1 305 6) ∧ (0 ≤ a3 ∧ a3 ≤ 6) ∧ (0 ≤ a4 ∧ a4 ≤ 50) → False := hc
      repeat' (refine xite (fun _ => ?_) (fun _ => ?_))
      all_goals first | rfl | (exfalso; omega)
/-- whether a sheet was read in a bag -/
abbrev rd_F (m : Nat → Nat → Int) (s b : Int) (j : Nat) : Prop := m 323 j = b ∧ m 318 j = s ∧ m 322 j < 0
theorem B_isRead_10 (hJ : bk_J σ.1) {s : Int} (hs : 0 ≤ s ∧ s < σ.1 305 15) (b : Int) : ∀ (l l0 : List Nat) (v : Int), bk_ch σ.1 s (bk_n σ.1) = l0 ++ l → lnk (σ.1 228) l v →
    ((∃ i ∈ l, rd_F σ.1 s b i) ∧ X iBook_isRead 10 [(2, 216), (0, s), (0, b), (0, v), (0, (l0.length : Int))] [] σ = some ((0, 1), σ)) ∨ ((∀ i ∈ l, ¬ rd_F σ.1 s b i) ∧ X iBook_isRead 10 [(2, 216), (0, s), (0, b), (0, v), (0, (l0.length : Int))] [] σ = some ((0, 0), σ)) := by
  intro l
  have hlen := (hJ.fst hs).2
  have hx := hJ.xs hs
  obtain ⟨⟨e1, e2, e3, e4, e5, e6⟩, -⟩ := hJ.2.1
  have h600 : (bk_ch σ.1 s (bk_n σ.1)).length ≤ 600 := by
    have := bk_ch_len (m := σ.1) (s := s) (n := bk_n σ.1)
    have := hJ.1.1
    unfold bk_n at *
    omega
  induction l with
  | nil =>
    intro l0 v he hv
    rw [List.append_nil] at he
    refine Or.inr ⟨fun i h => absurd h List.not_mem_nil, ?_⟩
    rw [qBook_isRead_10, if_pos hx, hlen, he, if_neg (by omega)]
  | cons i l ih =>
    intro l0 v he hv
    obtain ⟨rfl, hv⟩ := hv
    have hi : i ∈ bk_ch σ.1 s (bk_n σ.1) := by rw [he]; simp
    have hi6 := hJ.lt hi
    have hun := hJ.un hi
    have hsi := (bk_ch_mem.mp hi).2
    rw [he, List.length_append, List.length_cons] at hlen h600
    have hxi : xin (i : Int) 600 := ⟨by omega, by omega⟩
    have nx : xw ((l0.length : Int) + 1) = (((l0 ++ [i]).length : Nat) : Int) := by rw [List.length_append, xw_id (by omega) (by omega)]; simp
    have k1 := ih (l0 ++ [i]) (σ.1 228 i) (by rw [he]; simp) hv
    rw [qBook_isRead_10, if_pos hx, if_pos (by rw [hlen]; omega), if_neg (by omega)]
    simp only [if_pos hxi, Int.toNat_natCast, e5, e6, nx]
    clear nx
    by_cases c : σ.1 323 i = b ∧ σ.1 322 i = -1
    · rw [if_pos c.1, if_pos c.2]
      exact Or.inl ⟨⟨i, List.mem_cons_self, c.1, hsi, by omega⟩, rfl⟩
    · have hno : ¬ rd_F σ.1 s b i := fun q => c ⟨q.1, by have := q.2.2; omega⟩
      have e0 : (if σ.1 323 i = b then if σ.1 322 i = -1 then some ((0, 1), σ) else X iBook_isRead 10 [(2, 216), (0, s), (0, b), (0, σ.1 228 i), (0, (((l0 ++ [i]).length : Nat) : Int))] [] σ else X iBook_isRead 10 [(2, 216), (0, s), (0, b), (0, σ.1 228 i), (0, (((l0 ++ [i]).length : Nat) : Int))] [] σ) = X iBook_isRead 10 [(2, 216), (0, s), (0, b), (0, σ.1 228 i), (0, (((l0 ++ [i]).length : Nat) : Int))] [] σ := by
        refine xite (fun h1 => xite (fun h2 => absurd ⟨h1, h2⟩ c) fun _ => rfl) fun _ => rfl
      rw [e0]
      rcases k1 with ⟨⟨j, j1, j2⟩, k1⟩ | ⟨k2, k1⟩
      · exact Or.inl ⟨⟨j, List.mem_cons_of_mem _ j1, j2⟩, k1⟩
      · refine Or.inr ⟨fun j hj => ?_, k1⟩
        rcases List.mem_cons.mp hj with rfl | hj
        · exact hno
        · exact k2 j hj
theorem M_read_24 (hB : bk_B σ.1) (b s : Int) : ∀ (t i : Nat), i + t = bk_n σ.1 → ((∃ j, j < bk_n σ.1 ∧ rd_F σ.1 s b j) ∧ X iM_read 24 [(2, 305), (0, b), (0, s), (0, (i : Int))] [] σ = some ((0, -2), σ)) ∨ ((∀ j, i ≤ j → j < bk_n σ.1 → ¬ rd_F σ.1 s b j) ∧ X iM_read 24 [(2, 305), (0, b), (0, s), (0, (i : Int))] [] σ = X iM_read 24 [(2, 305), (0, b), (0, s), (0, ((bk_n σ.1 : Nat) : Int))] [] σ) := by
  intro t
  have hN : ((bk_n σ.1 : Nat) : Int) = σ.1 305 22 := Int.toNat_of_nonneg hB.1.1
  have h6 := hB.1.2
  induction t with
  | zero =>
    intro i hi
    rw [show i = bk_n σ.1 by omega]
    exact Or.inr ⟨fun j h1 h2 => absurd h1 (by omega), rfl⟩
  | succ t ih =>
    intro i hi
    have hx : xin (i : Int) 600 := ⟨by omega, by omega⟩
    have e : X iM_read 24 [(2, 305), (0, b), (0, s), (0, (i : Int))] [] σ = if σ.1 323 i = b then (if σ.1 318 i = s then (if σ.1 322 i < 0 then some ((0, -2), σ) else X iM_read 24 [(2, 305), (0, b), (0, s), (0, ((i + 1 : Nat) : Int))] [] σ) else X iM_read 24 [(2, 305), (0, b), (0, s), (0, ((i + 1 : Nat) : Int))] [] σ) else X iM_read 24 [(2, 305), (0, b), (0, s), (0, ((i + 1 : Nat) : Int))] [] σ := by
      rw [qM_read_24, if_pos (by omega), if_pos hx, if_pos hx, if_pos hx, Int.toNat_natCast, xw_s (by omega)]
      rfl
    rw [e]
    by_cases c : rd_F σ.1 s b i
    · rw [if_pos c.1, if_pos c.2.1, if_pos c.2.2]
      exact Or.inl ⟨⟨i, by omega, c⟩, rfl⟩
    · have e0 : (if σ.1 323 i = b then (if σ.1 318 i = s then (if σ.1 322 i < 0 then some ((0, -2), σ) else X iM_read 24 [(2, 305), (0, b), (0, s), (0, ((i + 1 : Nat) : Int))] [] σ) else X iM_read 24 [(2, 305), (0, b), (0, s), (0, ((i + 1 : Nat) : Int))] [] σ) else X iM_read 24 [(2, 305), (0, b), (0, s), (0, ((i + 1 : Nat) : Int))] [] σ) = X iM_read 24 [(2, 305), (0, b), (0, s), (0, ((i + 1 : Nat) : Int))] [] σ :=
        xite (fun h1 => xite (fun h2 => xite (fun h3 => absurd ⟨h1, h2, h3⟩ c) fun _ => rfl) fun _ => rfl) fun _ => rfl
      rw [e0]
      rcases ih (i + 1) (by omega) with ⟨k1, k2⟩ | ⟨k1, k2⟩
      · exact Or.inl ⟨k1, k2⟩
      · refine Or.inr ⟨fun j h1 h2 => ?_, k2⟩
        by_cases ej : j = i
        · rw [ej]; exact c
        · exact k1 j (by omega) h2
theorem st_read (hP : pJ σ.1) (a1 a2 : Int) : stOK σ iC_read [(2, 200), (0, a1), (0, a2), (9, 0)] iM_read [(2, 305), (0, a1), (0, a2), (9, 0)] := by
  have hJ := hP.2.2.1
  have hb := hJ.1
  unfold bk_B at hb
  have hE := hP.2.2.2.2.1
  have h36 := hE.2.2.1
  have hN : ((bk_n σ.1 : Nat) : Int) = σ.1 305 22 := Int.toNat_of_nonneg hJ.1.1.1
  obtain ⟨-, ⟨-, -, e9⟩, e10, e11, -, -⟩ := hJ.2.1
  have q1 := qC_read_0 a1 a2 σ
  rw [hE.1.2.2.2.2.2, e11, xw_id (x := σ.1 305 36 - 1) (by omega) (by omega), xw_id (x := σ.1 305 15 - 1) (by omega) (by omega)] at q1
  by_cases hc : (0 ≤ a1 ∧ a1 < σ.1 305 36) ∧ (0 ≤ a2 ∧ a2 < σ.1 305 15)
  · have hx1 : xin a1 60 := ⟨hc.1.1, by omega⟩
    have hx2 := hJ.xs hc.2
    have hbag := hE.2.2.2.2.2.2.1 a1.toNat (by omega)
    have q2 : X iM_read 0 [(2, 305), (0, a1), (0, a2), (9, 0)] [] σ = X iM_read 24 [(2, 305), (0, a1), (0, a2), (0, 0)] [] σ := by
      rw [qM_read_0, if_neg (by omega), if_pos hc.1.2, if_neg (by omega), if_pos hc.2.2]
    rw [if_neg (by omega), if_neg (by omega), if_neg (by omega), if_neg (by omega), qBook_isRead_0, if_pos hx2] at q1
    rcases B_isRead_10 hJ hc.2 a1 _ [] _ rfl (hJ.fst hc.2).1 with ⟨⟨j, j1, j2⟩, k1⟩ | ⟨k0, k1⟩
    · have k1 : X iBook_isRead 10 [(2, 216), (0, a2), (0, a1), (0, σ.1 220 a2.toNat), (0, 0)] [] σ = some ((0, 1), σ) := k1
      rw [k1, Option.bind_some, qC_read_39, if_neg (by decide)] at q1
      refine st_same hP q1 ?_
      rw [q2]
      rcases M_read_24 hJ.1 a1 a2 (bk_n σ.1) 0 (by omega) with ⟨-, m1⟩ | ⟨m0, -⟩
      · exact m1
      · exact absurd j2 (m0 j (Nat.zero_le _) (bk_ch_mem.mp j1).1)
    · have k1 : X iBook_isRead 10 [(2, 216), (0, a2), (0, a1), (0, σ.1 220 a2.toNat), (0, 0)] [] σ = some ((0, 0), σ) := k1
      rw [k1, Option.bind_some, qC_read_39, if_pos rfl, if_pos hx1, if_pos hx2, hE.1.2.2.2.1, e9, e10] at q1
      rcases M_read_24 hJ.1 a1 a2 (bk_n σ.1) 0 (by omega) with ⟨⟨j, j1, j2⟩, -⟩ | ⟨-, m1⟩
      · exact absurd j2 (k0 j (bk_ch_mem.mpr ⟨j1, j2.2.1⟩))
      · have m1 : X iM_read 24 [(2, 305), (0, a1), (0, a2), (0, 0)] [] σ = X iM_read 24 [(2, 305), (0, a1), (0, a2), (0, ((bk_n σ.1 : Nat) : Int))] [] σ := m1
        by_cases c3 : σ.1 331 a1.toNat < σ.1 317 a2.toNat
        · rw [if_pos c3] at q1
          refine st_same hP q1 ?_
          rw [q2, m1, qM_read_24, if_neg (by omega), if_pos hx2, if_pos hx1, if_pos c3]
        · rw [if_neg c3] at q1
          by_cases c4 : σ.1 305 22 < 600
          · obtain ⟨τ, τ', t1, t2, t3, t4, t5, t6, t7, t8, t9⟩ := bk_addMove hJ (d := σ.1 331 a1.toNat) (p := 1) (b := a1) hc.2 ⟨by omega, hbag.2.2⟩ (Or.inl ⟨by decide, by decide⟩) c4
            rw [if_pos c4, t1, Option.bind_some, qC_read_97] at q1
            have f305 : τ.1 305 = σ.1 305 := t6 305 (by decide) (by decide)
            have en : bk_n τ.1 = bk_n σ.1 := by unfold bk_n; rw [f305]
            have f317 : τ.1 317 = σ.1 317 := t6 317 (by decide) (by decide)
            have f318 : τ.1 318 = σ.1 318 := t6 318 (by decide) (by decide)
            have f322 : τ.1 322 = σ.1 322 := t6 322 (by decide) (by decide)
            have f323 : τ.1 323 = σ.1 323 := t6 323 (by decide) (by decide)
            have f331 : τ.1 331 = σ.1 331 := t6 331 (by decide) (by decide)
            refine ⟨(0, σ.1 305 22), τ, τ', q1, ?_, pJ_mv hP t5 t8 t9, t4, fun a ha => t9 a (by omega) (by omega) (by omega) (by omega), fun k hk => t8 k (by omega)⟩
            have hBt : bk_B τ.1 := by
              unfold bk_B
              rw [f305]
              exact hb
            have eF : ∀ j, rd_F τ.1 a2 a1 j → rd_F σ.1 a2 a1 j := fun j h => by
              unfold rd_F at *
              rw [f323, f318, f322] at h
              exact h
            have q3 : X iM_read 0 [(2, 305), (0, a1), (0, a2), (9, 0)] [] τ = X iM_read 24 [(2, 305), (0, a1), (0, a2), (0, 0)] [] τ := by
              rw [qM_read_0, f305, if_neg (by omega), if_pos hc.1.2, if_neg (by omega), if_pos hc.2.2]
            rw [q3]
            rcases M_read_24 hBt a1 a2 (bk_n τ.1) 0 (by omega) with ⟨⟨j, j1, j2⟩, -⟩ | ⟨-, m2⟩
            · exact absurd (eF j j2) (k0 j (bk_ch_mem.mpr ⟨by rw [en] at j1; exact j1, (eF j j2).2.1⟩))
            · have m2 : X iM_read 24 [(2, 305), (0, a1), (0, a2), (0, 0)] [] τ = X iM_read 24 [(2, 305), (0, a1), (0, a2), (0, ((bk_n τ.1 : Nat) : Int))] [] τ := m2
              rw [m2, en, qM_read_24, f305, f331, f317, if_neg (by omega), if_pos hx2, if_pos hx1, if_neg c3, if_neg (by omega), if_pos hx1, t2, Option.bind_some, qM_read_114]
          · rw [if_neg c4, qC_read_97] at q1
            refine st_same hP q1 ?_
            rw [q2, m1, qM_read_24, if_neg (by omega), if_pos hx2, if_pos hx1, if_neg c3, if_pos (by omega)]
  · refine st_same (v := (0, -1)) hP ?_ ?_
    · rw [q1]
      repeat' (refine xite (fun _ => ?_) (fun _ => ?_))
      all_goals first | rfl | (exfalso; omega)
    · rw [qM_read_0]
      repeat' (refine xite (fun _ => ?_) (fun _ => ?_))
      all_goals first | rfl | (exfalso; omega)
end CALLSF

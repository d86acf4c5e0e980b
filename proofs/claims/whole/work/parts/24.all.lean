/-! all checks together -/
def yhi (i : Nat) : Bool := match xnth yMl i, xnth yMw i with
  | some y, some q => (match ywd q.1 q.2 with
    | some w' => decide (w' = Cond.code y.1 y.2.1 y.2.2.1 y.2.2.2.1) && goodWord w'
    | none => false)
  | _, _ => false
def ycmi (i : Nat) : Bool := match xnth yMl i, xnth xPg i with
  | some y, some m => plainName y.1.cls && Nat.beq m.2 y.2.2.1 && !(Nat.beq (yrk y.2.2.2.1) 10)
  | _, _ => false
theorem yh_0 : ((List.range 24).all fun i => yhi (24 * 0 + i) || Nat.ble 423 (24 * 0 + i)) = true := by decide +kernel
theorem yc_0 : ((List.range 24).all fun i => ycmi (24 * 0 + i) || Nat.ble 424 (24 * 0 + i)) = true := by decide +kernel
theorem yh_1 : ((List.range 24).all fun i => yhi (24 * 1 + i) || Nat.ble 423 (24 * 1 + i)) = true := by decide +kernel
theorem yc_1 : ((List.range 24).all fun i => ycmi (24 * 1 + i) || Nat.ble 424 (24 * 1 + i)) = true := by decide +kernel
theorem yh_2 : ((List.range 24).all fun i => yhi (24 * 2 + i) || Nat.ble 423 (24 * 2 + i)) = true := by decide +kernel
theorem yc_2 : ((List.range 24).all fun i => ycmi (24 * 2 + i) || Nat.ble 424 (24 * 2 + i)) = true := by decide +kernel
theorem yh_3 : ((List.range 24).all fun i => yhi (24 * 3 + i) || Nat.ble 423 (24 * 3 + i)) = true := by decide +kernel
theorem yc_3 : ((List.range 24).all fun i => ycmi (24 * 3 + i) || Nat.ble 424 (24 * 3 + i)) = true := by decide +kernel
theorem yh_4 : ((List.range 24).all fun i => yhi (24 * 4 + i) || Nat.ble 423 (24 * 4 + i)) = true := by decide +kernel
theorem yc_4 : ((List.range 24).all fun i => ycmi (24 * 4 + i) || Nat.ble 424 (24 * 4 + i)) = true := by decide +kernel
theorem yh_5 : ((List.range 24).all fun i => yhi (24 * 5 + i) || Nat.ble 423 (24 * 5 + i)) = true := by decide +kernel
theorem yc_5 : ((List.range 24).all fun i => ycmi (24 * 5 + i) || Nat.ble 424 (24 * 5 + i)) = true := by decide +kernel
theorem yh_6 : ((List.range 24).all fun i => yhi (24 * 6 + i) || Nat.ble 423 (24 * 6 + i)) = true := by decide +kernel
theorem yc_6 : ((List.range 24).all fun i => ycmi (24 * 6 + i) || Nat.ble 424 (24 * 6 + i)) = true := by decide +kernel
theorem yh_7 : ((List.range 24).all fun i => yhi (24 * 7 + i) || Nat.ble 423 (24 * 7 + i)) = true := by decide +kernel
theorem yc_7 : ((List.range 24).all fun i => ycmi (24 * 7 + i) || Nat.ble 424 (24 * 7 + i)) = true := by decide +kernel
theorem yh_8 : ((List.range 24).all fun i => yhi (24 * 8 + i) || Nat.ble 423 (24 * 8 + i)) = true := by decide +kernel
theorem yc_8 : ((List.range 24).all fun i => ycmi (24 * 8 + i) || Nat.ble 424 (24 * 8 + i)) = true := by decide +kernel
theorem yh_9 : ((List.range 24).all fun i => yhi (24 * 9 + i) || Nat.ble 423 (24 * 9 + i)) = true := by decide +kernel
theorem yc_9 : ((List.range 24).all fun i => ycmi (24 * 9 + i) || Nat.ble 424 (24 * 9 + i)) = true := by decide +kernel
theorem yh_10 : ((List.range 24).all fun i => yhi (24 * 10 + i) || Nat.ble 423 (24 * 10 + i)) = true := by decide +kernel
theorem yc_10 : ((List.range 24).all fun i => ycmi (24 * 10 + i) || Nat.ble 424 (24 * 10 + i)) = true := by decide +kernel
theorem yh_11 : ((List.range 24).all fun i => yhi (24 * 11 + i) || Nat.ble 423 (24 * 11 + i)) = true := by decide +kernel
theorem yc_11 : ((List.range 24).all fun i => ycmi (24 * 11 + i) || Nat.ble 424 (24 * 11 + i)) = true := by decide +kernel
theorem yh_12 : ((List.range 24).all fun i => yhi (24 * 12 + i) || Nat.ble 423 (24 * 12 + i)) = true := by decide +kernel
theorem yc_12 : ((List.range 24).all fun i => ycmi (24 * 12 + i) || Nat.ble 424 (24 * 12 + i)) = true := by decide +kernel
theorem yh_13 : ((List.range 24).all fun i => yhi (24 * 13 + i) || Nat.ble 423 (24 * 13 + i)) = true := by decide +kernel
theorem yc_13 : ((List.range 24).all fun i => ycmi (24 * 13 + i) || Nat.ble 424 (24 * 13 + i)) = true := by decide +kernel
theorem yh_14 : ((List.range 24).all fun i => yhi (24 * 14 + i) || Nat.ble 423 (24 * 14 + i)) = true := by decide +kernel
theorem yc_14 : ((List.range 24).all fun i => ycmi (24 * 14 + i) || Nat.ble 424 (24 * 14 + i)) = true := by decide +kernel
theorem yh_15 : ((List.range 24).all fun i => yhi (24 * 15 + i) || Nat.ble 423 (24 * 15 + i)) = true := by decide +kernel
theorem yc_15 : ((List.range 24).all fun i => ycmi (24 * 15 + i) || Nat.ble 424 (24 * 15 + i)) = true := by decide +kernel
theorem yh_16 : ((List.range 24).all fun i => yhi (24 * 16 + i) || Nat.ble 423 (24 * 16 + i)) = true := by decide +kernel
theorem yc_16 : ((List.range 24).all fun i => ycmi (24 * 16 + i) || Nat.ble 424 (24 * 16 + i)) = true := by decide +kernel
theorem yh_17 : ((List.range 24).all fun i => yhi (24 * 17 + i) || Nat.ble 423 (24 * 17 + i)) = true := by decide +kernel
theorem yc_17 : ((List.range 24).all fun i => ycmi (24 * 17 + i) || Nat.ble 424 (24 * 17 + i)) = true := by decide +kernel
theorem yall_of {f : Nat → Bool} {n k : Nat} (h : ∀ j, j < n → ((List.range 24).all fun i => f (24 * j + i)) = true) : ∀ i, i < 24 * n → f i = true := by
  intro i hi
  have h1 := List.all_eq_true.mp (h (i / 24) (by omega)) (i % 24) (List.mem_range.mpr (by omega))
  rwa [show 24 * (i / 24) + i % 24 = i by omega] at h1
theorem yMl_len : yMl.length = 424 := by decide +kernel
theorem yMw_len : yMw.length = 423 := by decide +kernel
theorem xnth_some {α : Type} : ∀ {l : List α} {i : Nat}, i < l.length → ∃ v, xnth l i = some v
  | [], _, h => absurd h (Nat.not_lt_zero _)
  | v :: _, 0, _ => ⟨v, rfl⟩
  | _ :: l, i + 1, h => xnth_some (l := l) (i := i) (Nat.lt_of_succ_lt_succ h)
theorem yM_at {i : Nat} {y : yMt} (h : xnth yMl i = some y) : yM i = y := by unfold yM; rw [h]
theorem yh_all : ∀ i, i < 24 * 18 → (yhi i || Nat.ble 423 i) = true := by
  intro i hi
  refine yall_of (n := 18) (k := 0) (f := fun i => yhi i || Nat.ble 423 i) (fun j hj => ?_) i hi
  match j, hj with
  | 0, _ => exact yh_0
  | 1, _ => exact yh_1
  | 2, _ => exact yh_2
  | 3, _ => exact yh_3
  | 4, _ => exact yh_4
  | 5, _ => exact yh_5
  | 6, _ => exact yh_6
  | 7, _ => exact yh_7
  | 8, _ => exact yh_8
  | 9, _ => exact yh_9
  | 10, _ => exact yh_10
  | 11, _ => exact yh_11
  | 12, _ => exact yh_12
  | 13, _ => exact yh_13
  | 14, _ => exact yh_14
  | 15, _ => exact yh_15
  | 16, _ => exact yh_16
  | 17, _ => exact yh_17
  | _ + 18, hj => omega
theorem yc_all : ∀ i, i < 24 * 18 → (ycmi i || Nat.ble 424 i) = true := by
  intro i hi
  refine yall_of (n := 18) (k := 0) (f := fun i => ycmi i || Nat.ble 424 i) (fun j hj => ?_) i hi
  match j, hj with
  | 0, _ => exact yc_0
  | 1, _ => exact yc_1
  | 2, _ => exact yc_2
  | 3, _ => exact yc_3
  | 4, _ => exact yc_4
  | 5, _ => exact yc_5
  | 6, _ => exact yc_6
  | 7, _ => exact yc_7
  | 8, _ => exact yc_8
  | 9, _ => exact yc_9
  | 10, _ => exact yc_10
  | 11, _ => exact yc_11
  | 12, _ => exact yc_12
  | 13, _ => exact yc_13
  | 14, _ => exact yc_14
  | 15, _ => exact yc_15
  | 16, _ => exact yc_16
  | 17, _ => exact yc_17
  | _ + 18, hj => omega
theorem ycode : ∀ a, a < 423 → Cond.code (yM a).1 (yM a).2.1 (yM a).2.2.1 (yM a).2.2.2.1 ∈ yWL := by
  intro a ha
  have h := yh_all a (by omega)
  have h : (yhi a || Nat.ble 423 a) = true := h
  have hb : Nat.ble 423 a = false := by
    cases hq : Nat.ble 423 a with
    | false => rfl
    | true => exact absurd (Nat.le_of_ble_eq_true hq) (by omega)
  rw [hb, Bool.or_false] at h
  unfold yhi at h
  cases hy : xnth yMl a with
  | none => rw [hy] at h; cases h
  | some y =>
    cases hq : xnth yMw a with
    | none => rw [hy, hq] at h; cases h
    | some q =>
      rw [hy, hq] at h
      rw [yM_at hy]
      simp only at h
      cases hw : ywd q.1 q.2 with
      | none => rw [hw] at h; cases h
      | some w' =>
        rw [hw] at h
        simp only [Bool.and_eq_true, decide_eq_true_eq] at h
        obtain ⟨e1, e2⟩ := h
        subst e1
        exact List.mem_filter.mpr ⟨ywd_in hw, e2⟩
def yGd (mi pc0 : Nat) (rs : List xR) : Prop := ∀ k r, xnth rs k = some r → r.1 < 38 → ∃ u, decode (yM mi).2.1 (pc0 + k) = .ok (yi (pc0 + k) r u) ∧ yok xFk yM mi (pc0 + k) r u = true ∧ (∀ w ∈ yw xFk yM (yM mi).1.cls r u, w ∈ yWL) ∧ (r.1 = 32 → u.1 = 4 → ∃ b0 m0 r0, Cond.code ⟨"java/lang/AbstractStringBuilder", (yM r.2.1).1.name, (yM r.2.1).1.desc⟩ b0 m0 r0 ∈ yWL)
theorem yGd_of {mi pc0 : Nat} {a : List xR} {vs : List ((Nat × Nat × Nat) × List (Nat × Nat))} (h : (ychk xFk yM 4 226 mi (yM mi) pc0 a vs && a.all (fun r => !Nat.beq r.1 32 || Nat.blt r.2.1 423)) = true) : yGd mi pc0 a := by
  rw [Bool.and_eq_true] at h
  refine ychk_P ycode a pc0 vs h.1 fun r hr e => ?_
  have h1 := List.all_eq_true.mp h.2 r hr
  rw [e] at h1
  exact Nat.le_of_ble_eq_true h1
theorem xnth_app {α : Type} : ∀ (l1 l2 : List α) (k : Nat), xnth (l1 ++ l2) k = if k < l1.length then xnth l1 k else xnth l2 (k - l1.length)
  | [], l2, k => by simp
  | a :: l1, l2, 0 => by simp [xnth]
  | a :: l1, l2, k + 1 => by
    show xnth (l1 ++ l2) k = _
    rw [xnth_app l1 l2 k]
    simp [xnth]
theorem yGd_app {mi pc0 pc1 : Nat} {a a' : List xR} (e : pc1 = pc0 + a.length) (h : yGd mi pc0 a) (h' : yGd mi pc1 a') : yGd mi pc0 (a ++ a') := by
  intro k r hk h38
  rw [xnth_app] at hk
  by_cases hl : k < a.length
  · rw [if_pos hl] at hk
    exact h k r hk h38
  · rw [if_neg hl] at hk
    have := h' (k - a.length) r hk h38
    rwa [show pc1 + (k - a.length) = pc0 + k by omega] at this
def yG (k : Nat) (l : xP) : Prop := ∀ i m, xnth l i = some m → yGd (k + i) 0 m.1
theorem yG_nil {k : Nat} : yG k [] := fun i m h => by cases h
theorem yG_cons {k k' n : Nat} {a : List xR} {l : xP} (e : k' = k + 1) (h : yGd k 0 a) (t : yG k' l) : yG k ((a, n) :: l) := by
  intro i m hm
  match i, hm with
  | 0, hm =>
    cases hm
    exact h
  | i + 1, hm =>
    have h' := t i m hm
    subst e
    rw [show k + (i + 1) = k + 1 + i by omega]
    exact h'

theorem yGd_td {mi pc0 pc1 n : Nat} {a : List xR} (hn : n ≤ a.length) (e : pc1 = pc0 + n) (h : yGd mi pc0 (a.take n)) (h' : yGd mi pc1 (a.drop n)) : yGd mi pc0 a := by
  have := yGd_app (pc1 := pc1) (by rw [List.length_take, Nat.min_eq_left hn]; exact e) h h'
  rwa [List.take_append_drop] at this
theorem ygL0 : yGd 423 0 itiL_law_0 := (yGd_td (n := 100) (pc1 := 100) (by decide +kernel) rfl (yGd_of yt423_0_take) (yGd_of yt423_0_drop))
theorem ygL1 : yGd 423 200 itiL_law_1 := (yGd_td (n := 100) (pc1 := 300) (by decide +kernel) rfl (yGd_of yt423_1_take) (yGd_of yt423_1_drop))
theorem ygL2 : yGd 423 400 itiL_law_2 := (yGd_td (n := 100) (pc1 := 500) (by decide +kernel) rfl (yGd_of yt423_2_take) (yGd_of yt423_2_drop))
theorem ygL3 : yGd 423 600 itiL_law_3 := (yGd_td (n := 100) (pc1 := 700) (by decide +kernel) rfl (yGd_of yt423_3_take) (yGd_of yt423_3_drop))
theorem ygL4 : yGd 423 800 itiL_law_4 := (yGd_td (n := 100) (pc1 := 900) (by decide +kernel) rfl (yGd_of yt423_4_take) (yGd_of yt423_4_drop))
theorem ygL5 : yGd 423 1000 itiL_law_5 := (yGd_td (n := 100) (pc1 := 1100) (by decide +kernel) rfl (yGd_of yt423_5_take) (yGd_of yt423_5_drop))
theorem ygL6 : yGd 423 1200 itiL_law_6 := (yGd_td (n := 100) (pc1 := 1300) (by decide +kernel) rfl (yGd_of yt423_6_take) (yGd_of yt423_6_drop))
theorem ygL7 : yGd 423 1400 itiL_law_7 := (yGd_td (n := 100) (pc1 := 1500) (by decide +kernel) rfl (yGd_of yt423_7_take) (yGd_of yt423_7_drop))
theorem ygL8 : yGd 423 1600 itiL_law_8 := (yGd_td (n := 100) (pc1 := 1700) (by decide +kernel) rfl (yGd_of yt423_8_take) (yGd_of yt423_8_drop))
theorem ygL9 : yGd 423 1800 itiL_law_9 := (yGd_td (n := 100) (pc1 := 1900) (by decide +kernel) rfl (yGd_of yt423_9_take) (yGd_of yt423_9_drop))
theorem ygL10 : yGd 423 2000 itiL_law_10 := (yGd_of yt423_10_all)
set_option maxRecDepth 100000 in
theorem ygL : yGd 423 0 itiL_law := yGd_app (pc1 := 200) (by decide +kernel) ygL0 (yGd_app (pc1 := 400) (by decide +kernel) ygL1 (yGd_app (pc1 := 600) (by decide +kernel) ygL2 (yGd_app (pc1 := 800) (by decide +kernel) ygL3 (yGd_app (pc1 := 1000) (by decide +kernel) ygL4 (yGd_app (pc1 := 1200) (by decide +kernel) ygL5 (yGd_app (pc1 := 1400) (by decide +kernel) ygL6 (yGd_app (pc1 := 1600) (by decide +kernel) ygL7 (yGd_app (pc1 := 1800) (by decide +kernel) ygL8 (yGd_app (pc1 := 2000) (by decide +kernel) ygL9 (ygL10))))))))))
set_option maxRecDepth 100000 in
noncomputable def yPz7 : xP := (itiJS_checkIndex, 2) :: (itiJS_coder, 1) :: (itiJS_getBytes, 4) :: (itiJS_indexOf1, 2) :: (itiJS_indexOf2, 3) :: (itiJS_isLatin1, 1) :: (itiJS_length, 1) :: (itiJB_init, 1) :: (itiJB_append1, 2) :: (itiJB_append2, 2) :: (itiJB_append3, 2) :: (itiJB_charAt, 2) :: (itiJB_length, 1) :: (itiJB_toString, 1) :: (itiJL_canEncode1, 1) :: (itiJL_canEncode2, 1) :: (itiJL_charAt, 2) :: (itiJL_indexOf, 4) :: (itiJL_indexOfChar, 6) :: (itiJL_inflate, 5) :: (itiJU_charAt, 2) :: (itiJU_checkBoundsBeginEnd, 3) :: (itiJU_checkBoundsOffCount, 3) :: (itiJU_checkIndex, 2) :: (itiJU_coderFromArrayLen, 2) :: (itiJU_compress1, 6) :: (itiJU_compress2, 7) :: (itiJU_getChar, 2) :: (itiJU_getChars1, 5) :: (itiJU_getChars2, 7) :: (itiJU_indexOf, 4) :: (itiJU_indexOfChar, 4) :: (itiJU_indexOfCharUnsafe, 5) :: (itiJU_indexOfSupplementary, 7) :: (itiJU_inflate, 6) :: (itiJU_length, 1) :: (itiJU_newBytesFor, 1) :: (itiJU_newBytesLength, 1) :: (itiJU_putChar, 3) :: (itiJU_putCharSB, 3) :: (itiJU_putCharsAt, 7) :: (itiJR_checkLength, 2) :: (itiJR_copyOf, 3) :: (itiJR_copyOfRange, 3) :: (itiJR_copyOfRangeByte, 5) :: (itiJR_fill1, 4) :: (itiJR_fill2, 5) :: (itiJX_hugeLength, 3) :: (itiJX_newLength, 4) :: (itiJP_checkFromIndexSize, 4) :: (itiJP_checkFromToIndex, 4) :: (itiJP_checkIndex, 3) :: (itiL_law, 4) :: []
set_option maxRecDepth 100000 in
theorem yGz7 : yG 371 yPz7 := yG_cons (k := 371) (k' := 372) rfl (yGd_of yt371) (yG_cons (k := 372) (k' := 373) rfl (yGd_of yt372) (yG_cons (k := 373) (k' := 374) rfl (yGd_of yt373) (yG_cons (k := 374) (k' := 375) rfl (yGd_of yt374) (yG_cons (k := 375) (k' := 376) rfl (yGd_of yt375) (yG_cons (k := 376) (k' := 377) rfl (yGd_of yt376) (yG_cons (k := 377) (k' := 378) rfl (yGd_of yt377) (yG_cons (k := 378) (k' := 379) rfl (yGd_of yt378) (yG_cons (k := 379) (k' := 380) rfl (yGd_of yt379) (yG_cons (k := 380) (k' := 381) rfl (yGd_of yt380) (yG_cons (k := 381) (k' := 382) rfl (yGd_of yt381) (yG_cons (k := 382) (k' := 383) rfl (yGd_of yt382) (yG_cons (k := 383) (k' := 384) rfl (yGd_of yt383) (yG_cons (k := 384) (k' := 385) rfl (yGd_of yt384) (yG_cons (k := 385) (k' := 386) rfl (yGd_of yt385) (yG_cons (k := 386) (k' := 387) rfl (yGd_of yt386) (yG_cons (k := 387) (k' := 388) rfl (yGd_of yt387) (yG_cons (k := 388) (k' := 389) rfl (yGd_of yt388) (yG_cons (k := 389) (k' := 390) rfl (yGd_of yt389) (yG_cons (k := 390) (k' := 391) rfl (yGd_of yt390) (yG_cons (k := 391) (k' := 392) rfl (yGd_of yt391) (yG_cons (k := 392) (k' := 393) rfl (yGd_of yt392) (yG_cons (k := 393) (k' := 394) rfl (yGd_of yt393) (yG_cons (k := 394) (k' := 395) rfl (yGd_of yt394) (yG_cons (k := 395) (k' := 396) rfl (yGd_of yt395) (yG_cons (k := 396) (k' := 397) rfl (yGd_of yt396) (yG_cons (k := 397) (k' := 398) rfl (yGd_of yt397) (yG_cons (k := 398) (k' := 399) rfl (yGd_of yt398) (yG_cons (k := 399) (k' := 400) rfl (yGd_of yt399) (yG_cons (k := 400) (k' := 401) rfl (yGd_of yt400) (yG_cons (k := 401) (k' := 402) rfl (yGd_of yt401) (yG_cons (k := 402) (k' := 403) rfl (yGd_of yt402) (yG_cons (k := 403) (k' := 404) rfl (yGd_of yt403) (yG_cons (k := 404) (k' := 405) rfl (yGd_of yt404) (yG_cons (k := 405) (k' := 406) rfl (yGd_of yt405) (yG_cons (k := 406) (k' := 407) rfl (yGd_of yt406) (yG_cons (k := 407) (k' := 408) rfl (yGd_of yt407) (yG_cons (k := 408) (k' := 409) rfl (yGd_of yt408) (yG_cons (k := 409) (k' := 410) rfl (yGd_of yt409) (yG_cons (k := 410) (k' := 411) rfl (yGd_of yt410) (yG_cons (k := 411) (k' := 412) rfl (yGd_of yt411) (yG_cons (k := 412) (k' := 413) rfl (yGd_of yt412) (yG_cons (k := 413) (k' := 414) rfl (yGd_of yt413) (yG_cons (k := 414) (k' := 415) rfl (yGd_of yt414) (yG_cons (k := 415) (k' := 416) rfl (yGd_of yt415) (yG_cons (k := 416) (k' := 417) rfl (yGd_of yt416) (yG_cons (k := 417) (k' := 418) rfl (yGd_of yt417) (yG_cons (k := 418) (k' := 419) rfl (yGd_of yt418) (yG_cons (k := 419) (k' := 420) rfl (yGd_of yt419) (yG_cons (k := 420) (k' := 421) rfl (yGd_of yt420) (yG_cons (k := 421) (k' := 422) rfl (yGd_of yt421) (yG_cons (k := 422) (k' := 423) rfl (yGd_of yt422) (yG_cons (k := 423) (k' := 424) rfl ygL (yG_nil)))))))))))))))))))))))))))))))))))))))))))))))))))))
set_option maxRecDepth 100000 in
noncomputable def yPz6 : xP := (itiSupply_canBe, 1) :: (itiSupply_fewestCoins, 1) :: (itiSupply_lotsOn, 4) :: (itiTerms_init, 6) :: (itiTerms_lastOf, 4) :: (itiTerms_lastPrice, 5) :: (itiTerms_lastLoss, 4) :: (itiTerms_firstFeast, 3) :: (itiTerms_hasName, 2) :: (itiTerms_nameOf, 2) :: (itiTerms_exOfStatement, 2) :: (itiTerms_nameAll, 3) :: (itiTerms_exOf, 2) :: (itiTerms_exOfIf, 3) :: (itiTerms_exOfParts, 8) :: (itiTerms_joined, 5) :: (itiTerms_heldTo, 2) :: (itiTerms_times, 4) :: (itiTerms_holds, 2) :: (itiTerms_hasPart, 4) :: (itiTerms_compares, 6) :: (itiJA_init, 2) :: (itiJA_append1, 2) :: (itiJA_append2, 4) :: (itiJA_append3, 3) :: (itiJA_appendNull, 3) :: (itiJA_charAt, 5) :: (itiJA_ensureCapacityInternal, 3) :: (itiJA_getValue, 1) :: (itiJA_inflate, 2) :: (itiJA_inflateIfNeededFor, 2) :: (itiJA_isLatin1, 1) :: (itiJA_length, 1) :: (itiJA_newCapacity, 6) :: (itiJA_putStringAt, 3) :: (itiJC_highSurrogate, 1) :: (itiJC_isValidCodePoint, 2) :: (itiJC_lowSurrogate, 1) :: (itiJE_ordinal, 1) :: (itiJI_bitCount, 1) :: (itiJI_getChars, 7) :: (itiJI_stringSize, 4) :: (itiJM_abs1, 1) :: (itiJM_abs2, 2) :: (itiJM_max1, 2) :: (itiJM_max2, 4) :: (itiJM_min1, 2) :: (itiJM_min2, 4) :: (itiJS_init1, 5) :: (itiJS_init2, 2) :: (itiJS_charAt, 2) :: (itiJS_checkBoundsBeginEnd, 3) :: (itiJS_checkBoundsOffCount, 3) :: yPz7
set_option maxRecDepth 100000 in
theorem yGz6 : yG 318 yPz6 := yG_cons (k := 318) (k' := 319) rfl (yGd_of yt318) (yG_cons (k := 319) (k' := 320) rfl (yGd_of yt319) (yG_cons (k := 320) (k' := 321) rfl (yGd_of yt320) (yG_cons (k := 321) (k' := 322) rfl (yGd_of yt321) (yG_cons (k := 322) (k' := 323) rfl (yGd_of yt322) (yG_cons (k := 323) (k' := 324) rfl (yGd_of yt323) (yG_cons (k := 324) (k' := 325) rfl (yGd_of yt324) (yG_cons (k := 325) (k' := 326) rfl (yGd_of yt325) (yG_cons (k := 326) (k' := 327) rfl (yGd_of yt326) (yG_cons (k := 327) (k' := 328) rfl (yGd_of yt327) (yG_cons (k := 328) (k' := 329) rfl (yGd_of yt328) (yG_cons (k := 329) (k' := 330) rfl (yGd_of yt329) (yG_cons (k := 330) (k' := 331) rfl (yGd_of yt330) (yG_cons (k := 331) (k' := 332) rfl (yGd_of yt331) (yG_cons (k := 332) (k' := 333) rfl (yGd_of yt332) (yG_cons (k := 333) (k' := 334) rfl (yGd_of yt333) (yG_cons (k := 334) (k' := 335) rfl (yGd_of yt334) (yG_cons (k := 335) (k' := 336) rfl (yGd_of yt335) (yG_cons (k := 336) (k' := 337) rfl (yGd_of yt336) (yG_cons (k := 337) (k' := 338) rfl (yGd_of yt337) (yG_cons (k := 338) (k' := 339) rfl (yGd_of yt338) (yG_cons (k := 339) (k' := 340) rfl (yGd_of yt339) (yG_cons (k := 340) (k' := 341) rfl (yGd_of yt340) (yG_cons (k := 341) (k' := 342) rfl (yGd_of yt341) (yG_cons (k := 342) (k' := 343) rfl (yGd_of yt342) (yG_cons (k := 343) (k' := 344) rfl (yGd_of yt343) (yG_cons (k := 344) (k' := 345) rfl (yGd_of yt344) (yG_cons (k := 345) (k' := 346) rfl (yGd_of yt345) (yG_cons (k := 346) (k' := 347) rfl (yGd_of yt346) (yG_cons (k := 347) (k' := 348) rfl (yGd_of yt347) (yG_cons (k := 348) (k' := 349) rfl (yGd_of yt348) (yG_cons (k := 349) (k' := 350) rfl (yGd_of yt349) (yG_cons (k := 350) (k' := 351) rfl (yGd_of yt350) (yG_cons (k := 351) (k' := 352) rfl (yGd_of yt351) (yG_cons (k := 352) (k' := 353) rfl (yGd_of yt352) (yG_cons (k := 353) (k' := 354) rfl (yGd_of yt353) (yG_cons (k := 354) (k' := 355) rfl (yGd_of yt354) (yG_cons (k := 355) (k' := 356) rfl (yGd_of yt355) (yG_cons (k := 356) (k' := 357) rfl (yGd_of yt356) (yG_cons (k := 357) (k' := 358) rfl (yGd_of yt357) (yG_cons (k := 358) (k' := 359) rfl (yGd_of yt358) (yG_cons (k := 359) (k' := 360) rfl (yGd_of yt359) (yG_cons (k := 360) (k' := 361) rfl (yGd_of yt360) (yG_cons (k := 361) (k' := 362) rfl (yGd_of yt361) (yG_cons (k := 362) (k' := 363) rfl (yGd_of yt362) (yG_cons (k := 363) (k' := 364) rfl (yGd_of yt363) (yG_cons (k := 364) (k' := 365) rfl (yGd_of yt364) (yG_cons (k := 365) (k' := 366) rfl (yGd_of yt365) (yG_cons (k := 366) (k' := 367) rfl (yGd_of yt366) (yG_cons (k := 367) (k' := 368) rfl (yGd_of yt367) (yG_cons (k := 368) (k' := 369) rfl (yGd_of yt368) (yG_cons (k := 369) (k' := 370) rfl (yGd_of yt369) (yG_cons (k := 370) (k' := 371) rfl (yGd_of yt370) (yGz7)))))))))))))))))))))))))))))))))))))))))))))))))))))
set_option maxRecDepth 100000 in
noncomputable def yPz5 : xP := (itiNode_writeWord, 2) :: (itiNode_writeNumber, 2) :: (itiNode_partFromWord, 2) :: (itiReader_init, 1) :: (itiReader_readAll1, 5) :: (itiReader_chain, 2) :: (itiReader_isLetter, 1) :: (itiReader_isDigit, 1) :: (itiReader_scanAll, 5) :: (itiReader_kindOf, 1) :: (itiReader_wordOf, 3) :: (itiReader_readDigits, 3) :: (itiReader_isWritten, 5) :: (itiReader_begin, 1) :: (itiReader_step, 1) :: (itiReader_fail, 1) :: (itiReader_pass, 2) :: (itiReader_passWord, 2) :: (itiReader_passNumber, 2) :: (itiReader_opens, 1) :: (itiReader_closes, 2) :: (itiReader_readStatement, 2) :: (itiReader_readRest, 3) :: (itiReader_readNewName, 5) :: (itiReader_readParty, 2) :: (itiReader_readPair, 3) :: (itiReader_letHere, 2) :: (itiReader_readEx, 1) :: (itiReader_readIf, 4) :: (itiReader_readSum, 5) :: (itiReader_readProd, 5) :: (itiReader_isTimes, 1) :: (itiReader_append, 3) :: (itiReader_readAtom, 2) :: (itiReader_readToParen, 2) :: (itiReader_readList, 5) :: (itiReader_readWord, 4) :: (itiReader_readCond, 4) :: (itiReader_readAll2, 4) :: (itiReader_readTest, 4) :: (itiReader_readToBracket, 2) :: (itiSorts_init, 1) :: (itiSorts_has, 2) :: (itiSorts_add, 6) :: (itiSorts_waysOrPieces, 5) :: (itiSorts_fewest, 5) :: (itiSorts_greatest, 5) :: (itiSorts_waysWithin, 5) :: (itiSorts_spread, 6) :: (itiSorts_addPieces, 6) :: (itiSupply_init, 1) :: (itiSupply_plan, 6) :: (itiSupply_choose, 7) :: yPz6
set_option maxRecDepth 100000 in
theorem yGz5 : yG 265 yPz5 := yG_cons (k := 265) (k' := 266) rfl (yGd_of yt265) (yG_cons (k := 266) (k' := 267) rfl (yGd_of yt266) (yG_cons (k := 267) (k' := 268) rfl (yGd_of yt267) (yG_cons (k := 268) (k' := 269) rfl (yGd_of yt268) (yG_cons (k := 269) (k' := 270) rfl (yGd_of yt269) (yG_cons (k := 270) (k' := 271) rfl (yGd_of yt270) (yG_cons (k := 271) (k' := 272) rfl (yGd_of yt271) (yG_cons (k := 272) (k' := 273) rfl (yGd_of yt272) (yG_cons (k := 273) (k' := 274) rfl (yGd_of yt273) (yG_cons (k := 274) (k' := 275) rfl (yGd_of yt274) (yG_cons (k := 275) (k' := 276) rfl (yGd_of yt275) (yG_cons (k := 276) (k' := 277) rfl (yGd_of yt276) (yG_cons (k := 277) (k' := 278) rfl (yGd_of yt277) (yG_cons (k := 278) (k' := 279) rfl (yGd_of yt278) (yG_cons (k := 279) (k' := 280) rfl (yGd_of yt279) (yG_cons (k := 280) (k' := 281) rfl (yGd_of yt280) (yG_cons (k := 281) (k' := 282) rfl (yGd_of yt281) (yG_cons (k := 282) (k' := 283) rfl (yGd_of yt282) (yG_cons (k := 283) (k' := 284) rfl (yGd_of yt283) (yG_cons (k := 284) (k' := 285) rfl (yGd_of yt284) (yG_cons (k := 285) (k' := 286) rfl (yGd_of yt285) (yG_cons (k := 286) (k' := 287) rfl (yGd_of yt286) (yG_cons (k := 287) (k' := 288) rfl (yGd_of yt287) (yG_cons (k := 288) (k' := 289) rfl (yGd_of yt288) (yG_cons (k := 289) (k' := 290) rfl (yGd_of yt289) (yG_cons (k := 290) (k' := 291) rfl (yGd_of yt290) (yG_cons (k := 291) (k' := 292) rfl (yGd_of yt291) (yG_cons (k := 292) (k' := 293) rfl (yGd_of yt292) (yG_cons (k := 293) (k' := 294) rfl (yGd_of yt293) (yG_cons (k := 294) (k' := 295) rfl (yGd_of yt294) (yG_cons (k := 295) (k' := 296) rfl (yGd_of yt295) (yG_cons (k := 296) (k' := 297) rfl (yGd_of yt296) (yG_cons (k := 297) (k' := 298) rfl (yGd_of yt297) (yG_cons (k := 298) (k' := 299) rfl (yGd_of yt298) (yG_cons (k := 299) (k' := 300) rfl (yGd_of yt299) (yG_cons (k := 300) (k' := 301) rfl (yGd_of yt300) (yG_cons (k := 301) (k' := 302) rfl (yGd_of yt301) (yG_cons (k := 302) (k' := 303) rfl (yGd_of yt302) (yG_cons (k := 303) (k' := 304) rfl (yGd_of yt303) (yG_cons (k := 304) (k' := 305) rfl (yGd_of yt304) (yG_cons (k := 305) (k' := 306) rfl (yGd_of yt305) (yG_cons (k := 306) (k' := 307) rfl (yGd_of yt306) (yG_cons (k := 307) (k' := 308) rfl (yGd_of yt307) (yG_cons (k := 308) (k' := 309) rfl (yGd_of yt308) (yG_cons (k := 309) (k' := 310) rfl (yGd_of yt309) (yG_cons (k := 310) (k' := 311) rfl (yGd_of yt310) (yG_cons (k := 311) (k' := 312) rfl (yGd_of yt311) (yG_cons (k := 312) (k' := 313) rfl (yGd_of yt312) (yG_cons (k := 313) (k' := 314) rfl (yGd_of yt313) (yG_cons (k := 314) (k' := 315) rfl (yGd_of yt314) (yG_cons (k := 315) (k' := 316) rfl (yGd_of yt315) (yG_cons (k := 316) (k' := 317) rfl (yGd_of yt316) (yG_cons (k := 317) (k' := 318) rfl (yGd_of yt317) (yGz6)))))))))))))))))))))))))))))))))))))))))))))))))))))
set_option maxRecDepth 100000 in
noncomputable def yPz4 : xP := (itiHouses_add, 5) :: (itiHouses_planRound, 3) :: (itiHouses_visitRest, 7) :: (itiHouses_visitNext, 9) :: (itiHouses_goBack, 6) :: (itiHouses_isBetter, 3) :: (itiHouses_minutesApart, 5) :: (itiLedger_init, 5) :: (itiLedger_isFull, 1) :: (itiLedger_take, 4) :: (itiLedger_inForce, 3) :: (itiLedger_holdDay, 2) :: (itiLedger_holdSort, 2) :: (itiLedger_holdHouse, 2) :: (itiLedger_holdSheet, 4) :: (itiLedger_holdSheetInPlace, 5) :: (itiLedger_isProven, 7) :: (itiLedger_isUnsafe, 5) :: (itiLedger_unsafeSheet, 5) :: (itiLedger_valueNow, 4) :: (itiLedger_priceOn, 8) :: (itiLedger_billOf, 9) :: (itiLedger_partOf, 9) :: (itiLedger_shareBy, 5) :: (itiLedger_lostValue, 6) :: (itiLedger_partOfValue, 9) :: (itiLedger_greatestRest, 3) :: (itiLedger_isDue, 5) :: (itiLedger_dueSheet, 4) :: (itiLedger_wantedOn, 10) :: (itiLedger_mixes, 4) :: (itiNight_init, 2) :: (itiNight_addWasher, 4) :: (itiNight_addJob, 4) :: (itiNight_plan, 2) :: (itiNight_search, 7) :: (itiNight_tryNext, 14) :: (itiNight_firstReady, 4) :: (itiNight_firstDryer, 3) :: (itiNight_readyOn, 6) :: (itiNight_needsChange, 3) :: (itiNode_init, 2) :: (itiNode_of, 3) :: (itiNode_textOf, 3) :: (itiNode_writeStatement, 2) :: (itiNode_writePair, 3) :: (itiNode_write, 2) :: (itiNode_writeJoined, 3) :: (itiNode_writeConds, 3) :: (itiNode_writeIf, 4) :: (itiNode_writeList, 3) :: (itiNode_writePart, 5) :: (itiNode_isHeldApart, 3) :: yPz5
set_option maxRecDepth 100000 in
theorem yGz4 : yG 212 yPz4 := yG_cons (k := 212) (k' := 213) rfl (yGd_of yt212) (yG_cons (k := 213) (k' := 214) rfl (yGd_of yt213) (yG_cons (k := 214) (k' := 215) rfl (yGd_of yt214) (yG_cons (k := 215) (k' := 216) rfl (yGd_of yt215) (yG_cons (k := 216) (k' := 217) rfl (yGd_of yt216) (yG_cons (k := 217) (k' := 218) rfl (yGd_of yt217) (yG_cons (k := 218) (k' := 219) rfl (yGd_of yt218) (yG_cons (k := 219) (k' := 220) rfl (yGd_of yt219) (yG_cons (k := 220) (k' := 221) rfl (yGd_of yt220) (yG_cons (k := 221) (k' := 222) rfl (yGd_of yt221) (yG_cons (k := 222) (k' := 223) rfl (yGd_of yt222) (yG_cons (k := 223) (k' := 224) rfl (yGd_of yt223) (yG_cons (k := 224) (k' := 225) rfl (yGd_of yt224) (yG_cons (k := 225) (k' := 226) rfl (yGd_of yt225) (yG_cons (k := 226) (k' := 227) rfl (yGd_of yt226) (yG_cons (k := 227) (k' := 228) rfl (yGd_of yt227) (yG_cons (k := 228) (k' := 229) rfl (yGd_of yt228) (yG_cons (k := 229) (k' := 230) rfl (yGd_of yt229) (yG_cons (k := 230) (k' := 231) rfl (yGd_of yt230) (yG_cons (k := 231) (k' := 232) rfl (yGd_of yt231) (yG_cons (k := 232) (k' := 233) rfl (yGd_of yt232) (yG_cons (k := 233) (k' := 234) rfl (yGd_of yt233) (yG_cons (k := 234) (k' := 235) rfl (yGd_of yt234) (yG_cons (k := 235) (k' := 236) rfl (yGd_of yt235) (yG_cons (k := 236) (k' := 237) rfl (yGd_of yt236) (yG_cons (k := 237) (k' := 238) rfl (yGd_of yt237) (yG_cons (k := 238) (k' := 239) rfl (yGd_of yt238) (yG_cons (k := 239) (k' := 240) rfl (yGd_of yt239) (yG_cons (k := 240) (k' := 241) rfl (yGd_of yt240) (yG_cons (k := 241) (k' := 242) rfl (yGd_of yt241) (yG_cons (k := 242) (k' := 243) rfl (yGd_of yt242) (yG_cons (k := 243) (k' := 244) rfl (yGd_of yt243) (yG_cons (k := 244) (k' := 245) rfl (yGd_of yt244) (yG_cons (k := 245) (k' := 246) rfl (yGd_of yt245) (yG_cons (k := 246) (k' := 247) rfl (yGd_of yt246) (yG_cons (k := 247) (k' := 248) rfl (yGd_of yt247) (yG_cons (k := 248) (k' := 249) rfl (yGd_of yt248) (yG_cons (k := 249) (k' := 250) rfl (yGd_of yt249) (yG_cons (k := 250) (k' := 251) rfl (yGd_of yt250) (yG_cons (k := 251) (k' := 252) rfl (yGd_of yt251) (yG_cons (k := 252) (k' := 253) rfl (yGd_of yt252) (yG_cons (k := 253) (k' := 254) rfl (yGd_of yt253) (yG_cons (k := 254) (k' := 255) rfl (yGd_of yt254) (yG_cons (k := 255) (k' := 256) rfl (yGd_of yt255) (yG_cons (k := 256) (k' := 257) rfl (yGd_of yt256) (yG_cons (k := 257) (k' := 258) rfl (yGd_of yt257) (yG_cons (k := 258) (k' := 259) rfl (yGd_of yt258) (yG_cons (k := 259) (k' := 260) rfl (yGd_of yt259) (yG_cons (k := 260) (k' := 261) rfl (yGd_of yt260) (yG_cons (k := 261) (k' := 262) rfl (yGd_of yt261) (yG_cons (k := 262) (k' := 263) rfl (yGd_of yt262) (yG_cons (k := 263) (k' := 264) rfl (yGd_of yt263) (yG_cons (k := 264) (k' := 265) rfl (yGd_of yt264) (yGz5)))))))))))))))))))))))))))))))))))))))))))))))))))))
set_option maxRecDepth 100000 in
noncomputable def yPz3 : xP := (itiC_due, 2) :: (itiC_want, 5) :: (itiC_wanted, 3) :: (itiC_washer, 5) :: (itiC_dryers, 2) :: (itiC_job, 5) :: (itiC_clear, 2) :: (itiC_night, 4) :: (itiC_round, 5) :: (itiC_supply, 5) :: (itiC_buy, 5) :: (itiC_told, 3) :: (itiC_count, 2) :: (itiC_within, 3) :: (itiC_asNumber, 1) :: (itiC_isDay, 1) :: (itiC_areDays, 2) :: (itiC_isPlace, 2) :: (itiC_isAsked, 4) :: (itiC_feedNumber, 3) :: (itiBook_init, 1) :: (itiBook_has, 2) :: (itiBook_isFull, 1) :: (itiBook_addSheet, 3) :: (itiBook_addMove, 6) :: (itiBook_putInOrder, 6) :: (itiBook_takeBack, 2) :: (itiBook_isRead, 5) :: (itiBook_hasCome, 4) :: (itiBook_isKnown, 3) :: (itiBook_isInHistory, 4) :: (itiBook_lastOf, 7) :: (itiBook_lastInto, 8) :: (itiBook_placeAt, 5) :: (itiBook_sinceAt, 5) :: (itiBook_washesAt, 8) :: (itiBook_nightsAt, 10) :: (itiBook_isAt, 5) :: (itiBook_manyAt, 7) :: (itiBook_toldOfSheet, 3) :: (itiBook_toldOfMove, 3) :: (itiEvidence_init, 2) :: (itiEvidence_addBag, 3) :: (itiEvidence_addCount, 5) :: (itiEvidence_addHeat, 4) :: (itiEvidence_hasHeat, 6) :: (itiEvidence_missesOf, 8) :: (itiEvidence_isDoubted, 10) :: (itiEvidence_isLostAt, 5) :: (itiEvidence_lostAt, 7) :: (itiEvidence_shortAt, 8) :: (itiHouses_init, 1) :: (itiHouses_has, 2) :: yPz4
set_option maxRecDepth 100000 in
theorem yGz3 : yG 159 yPz3 := yG_cons (k := 159) (k' := 160) rfl (yGd_of yt159) (yG_cons (k := 160) (k' := 161) rfl (yGd_of yt160) (yG_cons (k := 161) (k' := 162) rfl (yGd_of yt161) (yG_cons (k := 162) (k' := 163) rfl (yGd_of yt162) (yG_cons (k := 163) (k' := 164) rfl (yGd_of yt163) (yG_cons (k := 164) (k' := 165) rfl (yGd_of yt164) (yG_cons (k := 165) (k' := 166) rfl (yGd_of yt165) (yG_cons (k := 166) (k' := 167) rfl (yGd_of yt166) (yG_cons (k := 167) (k' := 168) rfl (yGd_of yt167) (yG_cons (k := 168) (k' := 169) rfl (yGd_of yt168) (yG_cons (k := 169) (k' := 170) rfl (yGd_of yt169) (yG_cons (k := 170) (k' := 171) rfl (yGd_of yt170) (yG_cons (k := 171) (k' := 172) rfl (yGd_of yt171) (yG_cons (k := 172) (k' := 173) rfl (yGd_of yt172) (yG_cons (k := 173) (k' := 174) rfl (yGd_of yt173) (yG_cons (k := 174) (k' := 175) rfl (yGd_of yt174) (yG_cons (k := 175) (k' := 176) rfl (yGd_of yt175) (yG_cons (k := 176) (k' := 177) rfl (yGd_of yt176) (yG_cons (k := 177) (k' := 178) rfl (yGd_of yt177) (yG_cons (k := 178) (k' := 179) rfl (yGd_of yt178) (yG_cons (k := 179) (k' := 180) rfl (yGd_of yt179) (yG_cons (k := 180) (k' := 181) rfl (yGd_of yt180) (yG_cons (k := 181) (k' := 182) rfl (yGd_of yt181) (yG_cons (k := 182) (k' := 183) rfl (yGd_of yt182) (yG_cons (k := 183) (k' := 184) rfl (yGd_of yt183) (yG_cons (k := 184) (k' := 185) rfl (yGd_of yt184) (yG_cons (k := 185) (k' := 186) rfl (yGd_of yt185) (yG_cons (k := 186) (k' := 187) rfl (yGd_of yt186) (yG_cons (k := 187) (k' := 188) rfl (yGd_of yt187) (yG_cons (k := 188) (k' := 189) rfl (yGd_of yt188) (yG_cons (k := 189) (k' := 190) rfl (yGd_of yt189) (yG_cons (k := 190) (k' := 191) rfl (yGd_of yt190) (yG_cons (k := 191) (k' := 192) rfl (yGd_of yt191) (yG_cons (k := 192) (k' := 193) rfl (yGd_of yt192) (yG_cons (k := 193) (k' := 194) rfl (yGd_of yt193) (yG_cons (k := 194) (k' := 195) rfl (yGd_of yt194) (yG_cons (k := 195) (k' := 196) rfl (yGd_of yt195) (yG_cons (k := 196) (k' := 197) rfl (yGd_of yt196) (yG_cons (k := 197) (k' := 198) rfl (yGd_of yt197) (yG_cons (k := 198) (k' := 199) rfl (yGd_of yt198) (yG_cons (k := 199) (k' := 200) rfl (yGd_of yt199) (yG_cons (k := 200) (k' := 201) rfl (yGd_of yt200) (yG_cons (k := 201) (k' := 202) rfl (yGd_of yt201) (yG_cons (k := 202) (k' := 203) rfl (yGd_of yt202) (yG_cons (k := 203) (k' := 204) rfl (yGd_of yt203) (yG_cons (k := 204) (k' := 205) rfl (yGd_of yt204) (yG_cons (k := 205) (k' := 206) rfl (yGd_of yt205) (yG_cons (k := 206) (k' := 207) rfl (yGd_of yt206) (yG_cons (k := 207) (k' := 208) rfl (yGd_of yt207) (yG_cons (k := 208) (k' := 209) rfl (yGd_of yt208) (yG_cons (k := 209) (k' := 210) rfl (yGd_of yt209) (yG_cons (k := 210) (k' := 211) rfl (yGd_of yt210) (yG_cons (k := 211) (k' := 212) rfl (yGd_of yt211) (yGz4)))))))))))))))))))))))))))))))))))))))))))))))))))))
set_option maxRecDepth 100000 in
noncomputable def yPz2 : xP := (itiM_writesNode, 6) :: (itiM_writesStatement, 4) :: (itiM_written, 4) :: (itiM_washer, 4) :: (itiM_dryers, 2) :: (itiM_job, 4) :: (itiM_clear, 2) :: (itiM_isMixed, 5) :: (itiM_first, 3) :: (itiM_follows, 7) :: (itiM_readyOn, 6) :: (itiM_works, 7) :: (itiM_night, 5) :: (itiM_apart, 4) :: (itiM_round, 13) :: (itiM_supply, 5) :: (itiM_costOf, 7) :: (itiM_buy, 12) :: (itiM_told, 5) :: (itiM_count, 2) :: (itiC_init, 1) :: (itiC_sort, 7) :: (itiC_house, 6) :: (itiC_sheet, 4) :: (itiC_day, 2) :: (itiC_move, 5) :: (itiC_undo, 2) :: (itiC_where, 4) :: (itiC_since, 4) :: (itiC_washes, 4) :: (itiC_nights, 6) :: (itiC_many, 6) :: (itiC_heat, 5) :: (itiC_proven, 3) :: (itiC_unsafe, 3) :: (itiC_lot, 3) :: (itiC_beyond, 2) :: (itiC_bag, 4) :: (itiC_read, 4) :: (itiC_misses, 4) :: (itiC_doubt, 4) :: (itiC_lost, 6) :: (itiC_counted, 6) :: (itiC_shortOf, 6) :: (itiC_load, 9) :: (itiC_feed, 6) :: (itiC_terms, 3) :: (itiC_fault, 1) :: (itiC_written, 4) :: (itiC_value, 3) :: (itiC_price, 4) :: (itiC_bill, 6) :: (itiC_part, 6) :: yPz3
set_option maxRecDepth 100000 in
theorem yGz2 : yG 106 yPz2 := yG_cons (k := 106) (k' := 107) rfl (yGd_of yt106) (yG_cons (k := 107) (k' := 108) rfl (yGd_of yt107) (yG_cons (k := 108) (k' := 109) rfl (yGd_of yt108) (yG_cons (k := 109) (k' := 110) rfl (yGd_of yt109) (yG_cons (k := 110) (k' := 111) rfl (yGd_of yt110) (yG_cons (k := 111) (k' := 112) rfl (yGd_of yt111) (yG_cons (k := 112) (k' := 113) rfl (yGd_of yt112) (yG_cons (k := 113) (k' := 114) rfl (yGd_of yt113) (yG_cons (k := 114) (k' := 115) rfl (yGd_of yt114) (yG_cons (k := 115) (k' := 116) rfl (yGd_of yt115) (yG_cons (k := 116) (k' := 117) rfl (yGd_of yt116) (yG_cons (k := 117) (k' := 118) rfl (yGd_of yt117) (yG_cons (k := 118) (k' := 119) rfl (yGd_of yt118) (yG_cons (k := 119) (k' := 120) rfl (yGd_of yt119) (yG_cons (k := 120) (k' := 121) rfl (yGd_of yt120) (yG_cons (k := 121) (k' := 122) rfl (yGd_of yt121) (yG_cons (k := 122) (k' := 123) rfl (yGd_of yt122) (yG_cons (k := 123) (k' := 124) rfl (yGd_of yt123) (yG_cons (k := 124) (k' := 125) rfl (yGd_of yt124) (yG_cons (k := 125) (k' := 126) rfl (yGd_of yt125) (yG_cons (k := 126) (k' := 127) rfl (yGd_of yt126) (yG_cons (k := 127) (k' := 128) rfl (yGd_of yt127) (yG_cons (k := 128) (k' := 129) rfl (yGd_of yt128) (yG_cons (k := 129) (k' := 130) rfl (yGd_of yt129) (yG_cons (k := 130) (k' := 131) rfl (yGd_of yt130) (yG_cons (k := 131) (k' := 132) rfl (yGd_of yt131) (yG_cons (k := 132) (k' := 133) rfl (yGd_of yt132) (yG_cons (k := 133) (k' := 134) rfl (yGd_of yt133) (yG_cons (k := 134) (k' := 135) rfl (yGd_of yt134) (yG_cons (k := 135) (k' := 136) rfl (yGd_of yt135) (yG_cons (k := 136) (k' := 137) rfl (yGd_of yt136) (yG_cons (k := 137) (k' := 138) rfl (yGd_of yt137) (yG_cons (k := 138) (k' := 139) rfl (yGd_of yt138) (yG_cons (k := 139) (k' := 140) rfl (yGd_of yt139) (yG_cons (k := 140) (k' := 141) rfl (yGd_of yt140) (yG_cons (k := 141) (k' := 142) rfl (yGd_of yt141) (yG_cons (k := 142) (k' := 143) rfl (yGd_of yt142) (yG_cons (k := 143) (k' := 144) rfl (yGd_of yt143) (yG_cons (k := 144) (k' := 145) rfl (yGd_of yt144) (yG_cons (k := 145) (k' := 146) rfl (yGd_of yt145) (yG_cons (k := 146) (k' := 147) rfl (yGd_of yt146) (yG_cons (k := 147) (k' := 148) rfl (yGd_of yt147) (yG_cons (k := 148) (k' := 149) rfl (yGd_of yt148) (yG_cons (k := 149) (k' := 150) rfl (yGd_of yt149) (yG_cons (k := 150) (k' := 151) rfl (yGd_of yt150) (yG_cons (k := 151) (k' := 152) rfl (yGd_of yt151) (yG_cons (k := 152) (k' := 153) rfl (yGd_of yt152) (yG_cons (k := 153) (k' := 154) rfl (yGd_of yt153) (yG_cons (k := 154) (k' := 155) rfl (yGd_of yt154) (yG_cons (k := 155) (k' := 156) rfl (yGd_of yt155) (yG_cons (k := 156) (k' := 157) rfl (yGd_of yt156) (yG_cons (k := 157) (k' := 158) rfl (yGd_of yt157) (yG_cons (k := 158) (k' := 159) rfl (yGd_of yt158) (yGz3)))))))))))))))))))))))))))))))))))))))))))))))))))))
set_option maxRecDepth 100000 in
noncomputable def yPz1 : xP := (itiM_fails, 1) :: (itiM_isWord, 3) :: (itiM_isSign, 2) :: (itiM_word, 3) :: (itiM_sign, 2) :: (itiM_number, 2) :: (itiM_node, 7) :: (itiM_opens, 1) :: (itiM_wordOf, 4) :: (itiM_isName, 3) :: (itiM_begin, 2) :: (itiM_expression, 2) :: (itiM_ends, 2) :: (itiM_ex, 2) :: (itiM_sum, 2) :: (itiM_prod, 2) :: (itiM_atom, 4) :: (itiM_cond, 2) :: (itiM_all, 2) :: (itiM_test, 2) :: (itiM_tells, 2) :: (itiM_terms, 3) :: (itiM_fault, 1) :: (itiM_held, 2) :: (itiM_times, 9) :: (itiM_rooted, 11) :: (itiM_worked, 4) :: (itiM_bare, 3) :: (itiM_ofSort, 2) :: (itiM_ofSheet, 4) :: (itiM_atHouse, 5) :: (itiM_value, 6) :: (itiM_lastOf, 6) :: (itiM_priceOf, 9) :: (itiM_price, 3) :: (itiM_bill, 8) :: (itiM_parts, 14) :: (itiM_part, 8) :: (itiM_due, 6) :: (itiM_want, 5) :: (itiM_wantedOn, 9) :: (itiM_wanted, 3) :: (itiM_writesSign, 2) :: (itiM_blanks, 1) :: (itiM_writesWord, 5) :: (itiM_writesNumber, 5) :: (itiM_wordAt, 3) :: (itiM_isSum, 1) :: (itiM_isProd, 1) :: (itiM_around, 5) :: (itiM_begins, 3) :: (itiM_writesOp, 2) :: (itiM_closes, 2) :: yPz2
set_option maxRecDepth 100000 in
theorem yGz1 : yG 53 yPz1 := yG_cons (k := 53) (k' := 54) rfl (yGd_of yt53) (yG_cons (k := 54) (k' := 55) rfl (yGd_of yt54) (yG_cons (k := 55) (k' := 56) rfl (yGd_of yt55) (yG_cons (k := 56) (k' := 57) rfl (yGd_of yt56) (yG_cons (k := 57) (k' := 58) rfl (yGd_of yt57) (yG_cons (k := 58) (k' := 59) rfl (yGd_of yt58) (yG_cons (k := 59) (k' := 60) rfl (yGd_of yt59) (yG_cons (k := 60) (k' := 61) rfl (yGd_of yt60) (yG_cons (k := 61) (k' := 62) rfl (yGd_of yt61) (yG_cons (k := 62) (k' := 63) rfl (yGd_of yt62) (yG_cons (k := 63) (k' := 64) rfl (yGd_of yt63) (yG_cons (k := 64) (k' := 65) rfl (yGd_of yt64) (yG_cons (k := 65) (k' := 66) rfl (yGd_of yt65) (yG_cons (k := 66) (k' := 67) rfl (yGd_of yt66) (yG_cons (k := 67) (k' := 68) rfl (yGd_of yt67) (yG_cons (k := 68) (k' := 69) rfl (yGd_of yt68) (yG_cons (k := 69) (k' := 70) rfl (yGd_of yt69) (yG_cons (k := 70) (k' := 71) rfl (yGd_of yt70) (yG_cons (k := 71) (k' := 72) rfl (yGd_of yt71) (yG_cons (k := 72) (k' := 73) rfl (yGd_of yt72) (yG_cons (k := 73) (k' := 74) rfl (yGd_of yt73) (yG_cons (k := 74) (k' := 75) rfl (yGd_of yt74) (yG_cons (k := 75) (k' := 76) rfl (yGd_of yt75) (yG_cons (k := 76) (k' := 77) rfl (yGd_of yt76) (yG_cons (k := 77) (k' := 78) rfl (yGd_of yt77) (yG_cons (k := 78) (k' := 79) rfl (yGd_of yt78) (yG_cons (k := 79) (k' := 80) rfl (yGd_of yt79) (yG_cons (k := 80) (k' := 81) rfl (yGd_of yt80) (yG_cons (k := 81) (k' := 82) rfl (yGd_of yt81) (yG_cons (k := 82) (k' := 83) rfl (yGd_of yt82) (yG_cons (k := 83) (k' := 84) rfl (yGd_of yt83) (yG_cons (k := 84) (k' := 85) rfl (yGd_of yt84) (yG_cons (k := 85) (k' := 86) rfl (yGd_of yt85) (yG_cons (k := 86) (k' := 87) rfl (yGd_of yt86) (yG_cons (k := 87) (k' := 88) rfl (yGd_of yt87) (yG_cons (k := 88) (k' := 89) rfl (yGd_of yt88) (yG_cons (k := 89) (k' := 90) rfl (yGd_of yt89) (yG_cons (k := 90) (k' := 91) rfl (yGd_of yt90) (yG_cons (k := 91) (k' := 92) rfl (yGd_of yt91) (yG_cons (k := 92) (k' := 93) rfl (yGd_of yt92) (yG_cons (k := 93) (k' := 94) rfl (yGd_of yt93) (yG_cons (k := 94) (k' := 95) rfl (yGd_of yt94) (yG_cons (k := 95) (k' := 96) rfl (yGd_of yt95) (yG_cons (k := 96) (k' := 97) rfl (yGd_of yt96) (yG_cons (k := 97) (k' := 98) rfl (yGd_of yt97) (yG_cons (k := 98) (k' := 99) rfl (yGd_of yt98) (yG_cons (k := 99) (k' := 100) rfl (yGd_of yt99) (yG_cons (k := 100) (k' := 101) rfl (yGd_of yt100) (yG_cons (k := 101) (k' := 102) rfl (yGd_of yt101) (yG_cons (k := 102) (k' := 103) rfl (yGd_of yt102) (yG_cons (k := 103) (k' := 104) rfl (yGd_of yt103) (yG_cons (k := 104) (k' := 105) rfl (yGd_of yt104) (yG_cons (k := 105) (k' := 106) rfl (yGd_of yt105) (yGz2)))))))))))))))))))))))))))))))))))))))))))))))))))))
set_option maxRecDepth 100000 in
noncomputable def yPz0 : xP := (itiM_init, 1) :: (itiM_in, 3) :: (itiM_max, 2) :: (itiM_min, 2) :: (itiM_abs, 1) :: (itiM_isSort, 2) :: (itiM_isHouse, 2) :: (itiM_isSheet, 2) :: (itiM_isDay, 1) :: (itiM_sort, 6) :: (itiM_house, 5) :: (itiM_sheet, 3) :: (itiM_day, 2) :: (itiM_isPlace, 2) :: (itiM_addMove, 5) :: (itiM_move, 4) :: (itiM_undo, 2) :: (itiM_isKnown, 3) :: (itiM_last, 6) :: (itiM_isAsked, 4) :: (itiM_placeOf, 5) :: (itiM_sinceOf, 5) :: (itiM_where, 4) :: (itiM_since, 4) :: (itiM_gather, 6) :: (itiM_washesOf, 6) :: (itiM_washes, 4) :: (itiM_nights, 7) :: (itiM_manyAt, 7) :: (itiM_many, 5) :: (itiM_heat, 4) :: (itiM_isProven, 7) :: (itiM_proven, 3) :: (itiM_unsafe, 8) :: (itiM_lot, 3) :: (itiM_beyond, 2) :: (itiM_bag, 3) :: (itiM_read, 4) :: (itiM_missesOf, 8) :: (itiM_misses, 4) :: (itiM_isDoubt, 10) :: (itiM_doubt, 4) :: (itiM_isLost, 5) :: (itiM_lost, 7) :: (itiM_counted, 5) :: (itiM_shortOf, 7) :: (itiM_sums, 7) :: (itiM_isReached, 4) :: (itiM_load, 11) :: (itiM_termsOn, 4) :: (itiM_feed, 8) :: (itiM_here, 1) :: (itiM_next, 2) :: yPz1
set_option maxRecDepth 100000 in
theorem yGz0 : yG 0 yPz0 := yG_cons (k := 0) (k' := 1) rfl (yGd_of yt0) (yG_cons (k := 1) (k' := 2) rfl (yGd_of yt1) (yG_cons (k := 2) (k' := 3) rfl (yGd_of yt2) (yG_cons (k := 3) (k' := 4) rfl (yGd_of yt3) (yG_cons (k := 4) (k' := 5) rfl (yGd_of yt4) (yG_cons (k := 5) (k' := 6) rfl (yGd_of yt5) (yG_cons (k := 6) (k' := 7) rfl (yGd_of yt6) (yG_cons (k := 7) (k' := 8) rfl (yGd_of yt7) (yG_cons (k := 8) (k' := 9) rfl (yGd_of yt8) (yG_cons (k := 9) (k' := 10) rfl (yGd_of yt9) (yG_cons (k := 10) (k' := 11) rfl (yGd_of yt10) (yG_cons (k := 11) (k' := 12) rfl (yGd_of yt11) (yG_cons (k := 12) (k' := 13) rfl (yGd_of yt12) (yG_cons (k := 13) (k' := 14) rfl (yGd_of yt13) (yG_cons (k := 14) (k' := 15) rfl (yGd_of yt14) (yG_cons (k := 15) (k' := 16) rfl (yGd_of yt15) (yG_cons (k := 16) (k' := 17) rfl (yGd_of yt16) (yG_cons (k := 17) (k' := 18) rfl (yGd_of yt17) (yG_cons (k := 18) (k' := 19) rfl (yGd_of yt18) (yG_cons (k := 19) (k' := 20) rfl (yGd_of yt19) (yG_cons (k := 20) (k' := 21) rfl (yGd_of yt20) (yG_cons (k := 21) (k' := 22) rfl (yGd_of yt21) (yG_cons (k := 22) (k' := 23) rfl (yGd_of yt22) (yG_cons (k := 23) (k' := 24) rfl (yGd_of yt23) (yG_cons (k := 24) (k' := 25) rfl (yGd_of yt24) (yG_cons (k := 25) (k' := 26) rfl (yGd_of yt25) (yG_cons (k := 26) (k' := 27) rfl (yGd_of yt26) (yG_cons (k := 27) (k' := 28) rfl (yGd_of yt27) (yG_cons (k := 28) (k' := 29) rfl (yGd_of yt28) (yG_cons (k := 29) (k' := 30) rfl (yGd_of yt29) (yG_cons (k := 30) (k' := 31) rfl (yGd_of yt30) (yG_cons (k := 31) (k' := 32) rfl (yGd_of yt31) (yG_cons (k := 32) (k' := 33) rfl (yGd_of yt32) (yG_cons (k := 33) (k' := 34) rfl (yGd_of yt33) (yG_cons (k := 34) (k' := 35) rfl (yGd_of yt34) (yG_cons (k := 35) (k' := 36) rfl (yGd_of yt35) (yG_cons (k := 36) (k' := 37) rfl (yGd_of yt36) (yG_cons (k := 37) (k' := 38) rfl (yGd_of yt37) (yG_cons (k := 38) (k' := 39) rfl (yGd_of yt38) (yG_cons (k := 39) (k' := 40) rfl (yGd_of yt39) (yG_cons (k := 40) (k' := 41) rfl (yGd_of yt40) (yG_cons (k := 41) (k' := 42) rfl (yGd_of yt41) (yG_cons (k := 42) (k' := 43) rfl (yGd_of yt42) (yG_cons (k := 43) (k' := 44) rfl (yGd_of yt43) (yG_cons (k := 44) (k' := 45) rfl (yGd_of yt44) (yG_cons (k := 45) (k' := 46) rfl (yGd_of yt45) (yG_cons (k := 46) (k' := 47) rfl (yGd_of yt46) (yG_cons (k := 47) (k' := 48) rfl (yGd_of yt47) (yG_cons (k := 48) (k' := 49) rfl (yGd_of yt48) (yG_cons (k := 49) (k' := 50) rfl (yGd_of yt49) (yG_cons (k := 50) (k' := 51) rfl (yGd_of yt50) (yG_cons (k := 51) (k' := 52) rfl (yGd_of yt51) (yG_cons (k := 52) (k' := 53) rfl (yGd_of yt52) (yGz1)))))))))))))))))))))))))))))))))))))))))))))))))))))
set_option maxRecDepth 100000 in
theorem yPz_eq : xPg = yPz0 := rfl
theorem ySel_0 : Cond.selects "java/lang/StringBuilder" ⟨"java/lang/AbstractStringBuilder", "isLatin1", "()Z"⟩ ⟨"java/lang/AbstractStringBuilder", "isLatin1", "()Z"⟩ ∈ tables_1 := List.mem_of_getElem? (i := 1131) (by decide +kernel)
theorem ySel_in : ∀ q ∈ yPs, Cond.privateMethod (yPm q) ∈ tables_1 ∧ Cond.instanceMethod (yPm q) ∈ tables_1 := List.forall_mem_cons.mpr ⟨⟨List.mem_of_getElem? (i := 1098) (by decide +kernel), List.mem_of_getElem? (i := 1099) (by decide +kernel)⟩, List.forall_mem_cons.mpr ⟨⟨List.mem_of_getElem? (i := 1137) (by decide +kernel), List.mem_of_getElem? (i := 1138) (by decide +kernel)⟩, List.forall_mem_cons.mpr ⟨⟨List.mem_of_getElem? (i := 1398) (by decide +kernel), List.mem_of_getElem? (i := 1399) (by decide +kernel)⟩, List.forall_mem_cons.mpr ⟨⟨List.mem_of_getElem? (i := 1406) (by decide +kernel), List.mem_of_getElem? (i := 1407) (by decide +kernel)⟩, List.forall_mem_cons.mpr ⟨⟨List.mem_of_getElem? (i := 1102) (by decide +kernel), List.mem_of_getElem? (i := 1103) (by decide +kernel)⟩, List.forall_mem_cons.mpr ⟨⟨List.mem_of_getElem? (i := 1410) (by decide +kernel), List.mem_of_getElem? (i := 1411) (by decide +kernel)⟩, fun _ h => absurd h List.not_mem_nil⟩⟩⟩⟩⟩⟩
theorem yCk_ok : yCk xFk yM xPg yWL := by
  intro mi pc r hr h38
  unfold xcode at hr
  cases hm : xnth xPg mi with
  | none => rw [hm] at hr; cases hr
  | some m =>
    rw [hm] at hr
    have hr : xnth m.1 pc = some r := hr
    rw [yPz_eq] at hm
    have h := yGz0 mi m hm
    rw [Nat.zero_add] at h
    have := h pc r hr h38
    rwa [Nat.zero_add] at this
theorem xnth_len {α : Type} : ∀ {l : List α} {i : Nat} {v : α}, xnth l i = some v → i < l.length := xnth_lt
theorem yPg_len : xPg.length = 424 := by decide +kernel
theorem yCm_ok : yCm yM xPg := by
  intro mi m hm
  have hl := xnth_lt hm
  rw [yPg_len] at hl
  have h : (ycmi mi || Nat.ble 424 mi) = true := yc_all mi (by omega)
  have hb : Nat.ble 424 mi = false := by
    cases hq : Nat.ble 424 mi with
    | false => rfl
    | true => exact absurd (Nat.le_of_ble_eq_true hq) (by omega)
  rw [hb, Bool.or_false] at h
  unfold ycmi at h
  cases hy : xnth yMl mi with
  | none => rw [hy] at h; cases h
  | some y =>
    rw [hy, hm] at h
    rw [yM_at hy]
    simp only [Bool.and_eq_true, Bool.not_eq_true'] at h
    refine ⟨h.1.1, Nat.eq_of_beq_eq_true h.1.2, fun q => ?_⟩
    have := h.2
    rw [q] at this
    cases this
/-- the words hold -/
theorem yWL_hts {args : Array Value} {s : State} (h : ∀ w ∈ lw_tbl, w.before args s = true) : ∀ w ∈ yWL, w.before args s = true := by
  intro w hw
  have hw := (List.mem_filter.mp hw).1
  rcases List.mem_append.mp hw with hw | hw
  · obtain ⟨q, hq, rfl⟩ := List.mem_map.mp hw
    obtain ⟨h1, h2⟩ := ySel_in q hq
    have hne : (yPm q).cls ≠ "java/lang/invoke/MethodHandle" ∧ (yPm q).cls ≠ "java/lang/invoke/VarHandle" := by
      show ("java/lang/AbstractStringBuilder" : String) ≠ _ ∧ ("java/lang/AbstractStringBuilder" : String) ≠ _
      decide
    exact y_selP hne (h _ (List.mem_append_right _ ySel_0)) rfl (h _ (List.mem_append_right _ h1)) (h _ (List.mem_append_right _ h2))
  · exact h w hw

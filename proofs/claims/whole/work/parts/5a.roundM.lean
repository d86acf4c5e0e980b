/-! the lorry's round: the reference's -/
theorem take_snoc : ∀ {l : List Nat} {i : Nat}, i < l.length → l.take (i + 1) = l.take i ++ [l.getD i 0]
  | [], _, h => absurd h (Nat.not_lt_zero _)
  | _ :: _, 0, _ => rfl
  | x :: l, i + 1, h => by
    show x :: l.take (i + 1) = x :: (l.take i ++ [l.getD i 0])
    rw [take_snoc (Nat.lt_of_succ_lt_succ h)]
theorem getD_map {g : Nat → Nat} : ∀ {l : List Nat} {i : Nat}, i < l.length → (l.map g).getD i 0 = g (l.getD i 0)
  | [], _, h => absurd h (Nat.not_lt_zero _)
  | _ :: _, 0, _ => rfl
  | _ :: l, i + 1, h => getD_map (l := l) (i := i) (Nat.lt_of_succ_lt_succ h)
theorem getD_mem : ∀ {l : List Nat} {i : Nat}, i < l.length → l.getD i 0 ∈ l
  | [], _, h => absurd h (Nat.not_lt_zero _)
  | _ :: _, 0, _ => List.mem_cons_self
  | _ :: l, i + 1, h => List.mem_cons_of_mem _ (getD_mem (l := l) (i := i) (Nat.lt_of_succ_lt_succ h))
theorem asc_getD : ∀ {l : List Nat} {a b : Nat}, asc l → a < b → b < l.length → l.getD a 0 < l.getD b 0
  | [], _, _, _, _, h => absurd h (Nat.not_lt_zero _)
  | x :: l, 0, b + 1, h, _, hb => h.1 _ (getD_mem (l := l) (i := b) (Nat.lt_of_succ_lt_succ hb))
  | x :: l, a + 1, b + 1, h, hab, hb => asc_getD (l := l) (a := a) (b := b) h.2 (Nat.lt_of_succ_lt_succ hab) (Nat.lt_of_succ_lt_succ hb)
  | _ :: _, _, 0, _, h, _ => absurd h (Nat.not_lt_zero _)
theorem asc_range : ∀ {n : Nat}, asc (List.range n)
  | 0 => trivial
  | n + 1 => by
    rw [List.range_succ]
    exact asc_snoc.mpr ⟨asc_range, fun y hy => List.mem_range.mp hy⟩
theorem range_getD {n i : Nat} (h : i < n) : (List.range n).getD i 0 = i := by
  rw [List.getD_eq_getElem?_getD, List.getElem?_range h]
  rfl
theorem range_map (l : List Nat) : (List.range l.length).map (fun i => l.getD i 0) = l := by
  induction l using snocRec with
  | nil => rfl
  | append_singleton l a ih =>
    rw [List.length_append]
    show (List.range (l.length + 1)).map _ = _
    rw [List.range_succ, List.map_append]
    have e : (List.range l.length).map (fun i => (l ++ [a]).getD i 0) = (List.range l.length).map (fun i => l.getD i 0) := by
      refine List.map_congr_left fun i hi => ?_
      rw [getD_app, if_pos (List.mem_range.mp hi)]
    rw [e, ih]
    show l ++ [(l ++ [a]).getD l.length 0] = l ++ [a]
    rw [getD_app, if_neg (Nat.lt_irrefl _), Nat.sub_self]
    rfl
theorem M_abs {σ : xS} {x : Int} (h : -1000 ≤ x ∧ x ≤ 1000) : X iM_abs 0 [(0, x)] [] σ = some ((0, ab x), σ) := by
  rw [qM_abs_0]
  unfold ab
  by_cases c : x < 0
  · rw [if_pos c, if_neg (by omega), xw_id (by omega) (by omega)]
  · rw [if_neg c, if_pos (by omega)]
theorem M_apart {σ : xS} {a b c d : Int} (h1 : -1000 ≤ a - c ∧ a - c ≤ 1000) (h2 : -1000 ≤ b - d ∧ b - d ≤ 1000) : X iM_apart 0 [(0, a), (0, b), (0, c), (0, d)] [] σ = some ((0, ab (a - c) + ab (b - d)), σ) := by
  have a1 := ab_le h1
  have a2 := ab_le h2
  rw [qM_apart_0, xw_id (x := a - c) (by omega) (by omega), M_abs h1]
  simp only [Option.bind_some]
  rw [qM_apart_6, xw_id (x := b - d) (by omega) (by omega), M_abs h2]
  simp only [Option.bind_some]
  rw [qM_apart_12, xw_id (by omega) (by omega)]
section ROUNDM
variable {σ : xS}
def mf (σ τ : xS) : Prop := τ.2 = σ.2 ∧ (∀ a, a ≠ 381 → a ≠ 382 → a ≠ 305 → τ.1 a = σ.1 a) ∧ ∀ k, k ≠ 118 → k ≠ 119 → τ.1 305 k = σ.1 305 k
def mb (τ : xS) (b : (Int × Int) × List Nat) : Prop := τ.1 305 118 = b.1.1 ∧ τ.1 305 119 = b.1.2 ∧ ∀ i, i < b.2.length → τ.1 382 i = ((b.2.getD i 0 : Nat) : Int)
def b0 : (Int × Int) × List Nat := ((1000000000, 1000000000), [])
theorem M_walk (hH : ho_J σ.1) {t0 : Int} (ht0 : 0 ≤ t0 ∧ t0 ≤ 1440) {l p : List Nat} {n : Nat} (hl : ∀ x ∈ l, (x : Int) < σ.1 305 11) (hln : l.length = n) (hn8 : n ≤ 8) (hpn : p.length = n) (hp : ∀ x ∈ p, x < n) (h389 : ∀ i, i < n → σ.1 389 i = ((l.getD i 0 : Nat) : Int)) {τ : xS} (hτ : mf σ τ) (ho : od τ p) (v3 v6 : Int) (w1 w5 : xAV) :
    ∀ (u j : Nat) (w12 : xAV) (P : (Int × Int) × (Int × Int)), j + u = n → P = ro_p σ.1 t0 ((p.map fun i => l.getD i 0).take j) → ∃ w12', X iM_round 104 [(2, 305), w1, (0, t0), (0, v3), (0, (n : Int)), w5, (0, v6), (0, P.1.1), (0, P.2.1), (0, P.2.2), (0, P.1.2), (0, (j : Int)), w12] [] τ = X iM_round 104 [(2, 305), w1, (0, t0), (0, v3), (0, (n : Int)), w5, (0, v6), (0, (ro_p σ.1 t0 (p.map fun i => l.getD i 0)).1.1), (0, (ro_p σ.1 t0 (p.map fun i => l.getD i 0)).2.1), (0, (ro_p σ.1 t0 (p.map fun i => l.getD i 0)).2.2), (0, (ro_p σ.1 t0 (p.map fun i => l.getD i 0)).1.2), (0, (n : Int)), w12'] [] τ := by
  have h11 := hH.2.1
  intro u
  induction u with
  | zero =>
    intro j w12 P hj hP
    have e : (p.map fun i => l.getD i 0).take j = p.map fun i => l.getD i 0 := List.take_of_length_le (by rw [List.length_map]; omega)
    rw [e] at hP
    rw [hP, show j = n by omega]
    exact ⟨w12, rfl⟩
  | succ u ih =>
    intro j w12 P hj hP
    have hxj : xin (j : Int) 8 := ⟨by omega, by omega⟩
    have hpj := hp _ (getD_mem (l := p) (i := j) (by omega))
    have hgl := hl _ (getD_mem (l := l) (i := p.getD j 0) (by omega))
    have oj := ho j (by omega)
    have o9 : τ.1 389 (p.getD j 0) = ((l.getD (p.getD j 0) 0 : Nat) : Int) := by
      rw [hτ.2.1 389 (by decide) (by decide) (by decide)]
      exact h389 _ hpj
    have e2 : τ.1 312 = σ.1 312 := hτ.2.1 312 (by decide) (by decide) (by decide)
    have e3 : τ.1 313 = σ.1 313 := hτ.2.1 313 (by decide) (by decide) (by decide)
    have e4 : τ.1 314 = σ.1 314 := hτ.2.1 314 (by decide) (by decide) (by decide)
    have hn := ih (j + 1) (0, ((l.getD (p.getD j 0) 0 : Nat) : Int)) _ (by omega) rfl
    rw [take_snoc (by rw [List.length_map]; omega), getD_map (by omega), ro_snoc, ← hP] at hn
    have hPl : ∀ x ∈ (p.map fun i => l.getD i 0).take j, (x : Int) < σ.1 305 11 := fun x hx => by
      obtain ⟨y, hy, e⟩ := List.mem_map.mp (List.mem_of_mem_take hx)
      rw [← e]
      exact hl _ (getD_mem (by have := hp y hy; omega))
    obtain ⟨i1, i2, i3, i4⟩ := ro_le hH (t0 := t0) hPl
    have hlj : ((p.map fun i => l.getD i 0).take j).length ≤ 8 := by rw [List.length_take]; omega
    rw [← hP] at i1 i2 i3 i4
    clear ih hP hPl
    generalize l.getD (p.getD j 0) 0 = h at *
    have hxp : xin ((p.getD j 0 : Nat) : Int) 8 := ⟨by omega, by omega⟩
    have hxh : xin (h : Int) 8 := ⟨by omega, by omega⟩
    have hr := hH.2.2 h (by omega)
    have a1 := ab_le (x := P.2.1 - σ.1 312 h) (n := 99) (by omega)
    have a2 := ab_le (x := P.2.2 - σ.1 313 h) (n := 99) (by omega)
    have f1 : (ro_s σ.1 P h).1.1 = P.1.1 + (ab (P.2.1 - σ.1 312 h) + ab (P.2.2 - σ.1 313 h)) + 5 := rfl
    have f2 : (ro_s σ.1 P h).1.2 = P.1.2 + if σ.1 314 h < P.1.1 + (ab (P.2.1 - σ.1 312 h) + ab (P.2.2 - σ.1 313 h)) then 1 else 0 := rfl
    have f3 : (ro_s σ.1 P h).2.1 = σ.1 312 h := rfl
    have f4 : (ro_s σ.1 P h).2.2 = σ.1 313 h := rfl
    rw [f1, f2, f3, f4] at hn
    clear f1 f2 f3 f4
    rw [qM_round_104, if_pos (by omega), if_pos hxj, Int.toNat_natCast, oj, if_pos hxp, Int.toNat_natCast, o9, if_pos hxh, if_pos hxh, Int.toNat_natCast, e2, e3, M_apart (by omega) (by omega)]
    simp only [Option.bind_some]
    rw [qM_round_148, if_pos hxh, Int.toNat_natCast, e2, e3, e4]
    have hD : 0 ≤ ab (P.2.1 - σ.1 312 h) + ab (P.2.2 - σ.1 313 h) ∧ ab (P.2.1 - σ.1 312 h) + ab (P.2.2 - σ.1 313 h) ≤ 198 := by omega
    clear a1 a2
    generalize ab (P.2.1 - σ.1 312 h) + ab (P.2.2 - σ.1 313 h) = D at *
    rw [xw_id (x := P.1.1 + D) (by omega) (by omega), xw_id (x := P.1.1 + D + 5) (by omega) (by omega), xw_id (x := (j : Int) + 1) (by omega) (by omega)]
    by_cases c : σ.1 314 h < P.1.1 + D
    · rw [if_pos c] at hn
      rw [if_pos c, if_pos hxh, if_pos hxh, xw_id (x := P.1.2 + 1) (by omega) (by omega)]
      exact hn
    · rw [if_neg c, Int.add_zero] at hn
      rw [if_neg c, if_pos hxh, if_pos hxh]
      exact hn
theorem M_round_255 {l p : List Nat} {n : Nat} (hl : ∀ x ∈ l, x < 8) (hln : l.length = n) (hn8 : n ≤ 8) (hpn : p.length = n) (hp : ∀ x ∈ p, x < n) (h389 : ∀ i, i < n → σ.1 389 i = ((l.getD i 0 : Nat) : Int)) (t0 v3 v6 : Int) (w1 w5 w7 w8 w9 w10 w12 : xAV) :
    ∀ (u j : Nat) (τ : xS), j + u = n → mf σ τ → od τ p → (∀ k, k < j → τ.1 382 k = (((p.map fun i => l.getD i 0).getD k 0 : Nat) : Int)) → ∃ τ', X iM_round 255 [(2, 305), w1, (0, t0), (0, v3), (0, (n : Int)), w5, (0, v6), w7, w8, w9, w10, (0, (j : Int)), w12] [] τ = ((X iM_follows 0 [(2, 305), (0, (n : Int)), (9, 0), (9, 0), (9, 0), (9, 0), (9, 0)] [] τ').bind fun q1 => X iM_round 293 [(2, 305), w1, (0, t0), (0, v3), (0, (n : Int)), w5, (0, v6), w7, w8, w9, w10, (0, (n : Int)), w12] [q1.1] q1.2) ∧ mf σ τ' ∧ od τ' p ∧ (∀ k, k < n → τ'.1 382 k = (((p.map fun i => l.getD i 0).getD k 0 : Nat) : Int)) ∧ τ'.1 305 = τ.1 305 := by
  intro u
  induction u with
  | zero =>
    intro j τ hj hτ ho h2
    rw [qM_round_255, if_neg (by omega), show j = n by omega]
    exact ⟨τ, rfl, hτ, ho, fun k hk => h2 k (by omega), rfl⟩
  | succ u ih =>
    intro j τ hj hτ ho h2
    have hxj : xin (j : Int) 8 := ⟨by omega, by omega⟩
    have hpj := hp _ (getD_mem (l := p) (i := j) (by omega))
    have hxp : xin ((p.getD j 0 : Nat) : Int) 8 := ⟨by omega, by omega⟩
    have o9 : τ.1 389 (p.getD j 0) = ((l.getD (p.getD j 0) 0 : Nat) : Int) := by
      rw [hτ.2.1 389 (by decide) (by decide) (by decide)]
      exact h389 _ hpj
    rw [qM_round_255, if_pos (by omega), if_pos hxj, Int.toNat_natCast, ho j (by omega), if_pos hxp, if_pos hxj, Int.toNat_natCast, o9, xw_s (by omega)]
    obtain ⟨τ', q1, q2, q3, q4, q5⟩ := ih (j + 1) (xs τ 382 j ((l.getD (p.getD j 0) 0 : Nat) : Int)) (by omega) ⟨hτ.1, fun a h1 h3 h4 => by rw [xs_ne h3]; exact hτ.2.1 a h1 h3 h4, fun k h1 h3 => by rw [xs_ne (by decide)]; exact hτ.2.2 k h1 h3⟩ (fun i hi => by rw [xs_ne (by decide)]; exact ho i hi) (fun k hk => by
      rw [xs_at, xup_at]
      by_cases e : k = j
      · rw [if_pos e, e, getD_map (by omega)]
      · rw [if_neg e]
        exact h2 k (by omega))
    exact ⟨τ', q1, q2, q3, q4, by rw [q5, xs_ne (by decide)]⟩
theorem mf_381 {τ τ' : xS} (h : mf σ τ) (h2 : τ'.2 = τ.2) (h1 : ∀ a, a ≠ 381 → τ'.1 a = τ.1 a) : mf σ τ' :=
  ⟨h2.trans h.1, fun a a1 a2 a3 => (h1 a a1).trans (h.2.1 a a1 a2 a3), fun k k1 k2 => by rw [h1 305 (by decide)]; exact h.2.2 k k1 k2⟩
theorem mb_381 {τ τ' : xS} {b : (Int × Int) × List Nat} (h : mb τ b) (h1 : ∀ a, a ≠ 381 → τ'.1 a = τ.1 a) : mb τ' b :=
  ⟨by rw [h1 305 (by decide)]; exact h.1, by rw [h1 305 (by decide)]; exact h.2.1, fun i hi => by rw [h1 382 (by decide)]; exact h.2.2 i hi⟩
/-- an order walked: kept if better -/
theorem M_one (hH : ho_J σ.1) {t0 : Int} (ht0 : 0 ≤ t0 ∧ t0 ≤ 1440) {l p : List Nat} {n : Nat} (hl : ∀ x ∈ l, (x : Int) < σ.1 305 11) (hln : l.length = n) (hn8 : n ≤ 8) (hpn : p.length = n) (hp : ∀ x ∈ p, x < n) (h389 : ∀ i, i < n → σ.1 389 i = ((l.getD i 0 : Nat) : Int)) {τ : xS} (hτ : mf σ τ) (ho : od τ p) (v3 v6 : Int) (w1 w7 w8 w9 w10 w11 w12 : xAV) {b : (Int × Int) × List Nat} (hb : (v6 = 0 ∧ b = b0) ∨ (v6 = 1 ∧ mb τ b)) :
    ∃ τ' w5 w7' w8' w9' w10' w11' w12', X iM_round 84 [(2, 305), w1, (0, t0), (0, v3), (0, (n : Int)), (0, 1), (0, v6), w7, w8, w9, w10, w11, w12] [] τ = ((X iM_follows 0 [(2, 305), (0, (n : Int)), (9, 0), (9, 0), (9, 0), (9, 0), (9, 0)] [] τ').bind fun q1 => X iM_round 293 [(2, 305), w1, (0, t0), (0, v3), (0, (n : Int)), w5, (0, 1), w7', w8', w9', w10', w11', w12'] [q1.1] q1.2) ∧ mf σ τ' ∧ od τ' p ∧ mb τ' (if btr (ro_f σ.1 t0 (p.map fun i => l.getD i 0)) b.1 then (ro_f σ.1 t0 (p.map fun i => l.getD i 0), p.map fun i => l.getD i 0) else b) := by
  have h11 := hH.2.1
  have hl8 : ∀ x ∈ l, x < 8 := fun x hx => by have := hl x hx; omega
  obtain ⟨w, q⟩ := M_walk hH ht0 hl hln hn8 hpn hp h389 hτ ho v3 v6 w1 (0, 1) n 0 w12 ((t0, 0), (0, 0)) (by omega) rfl
  have q : X iM_round 104 [(2, 305), w1, (0, t0), (0, v3), (0, (n : Int)), (0, 1), (0, v6), (0, t0), (0, 0), (0, 0), (0, 0), (0, 0), w12] [] τ = _ := q
  rw [qM_round_84, if_neg (by decide), q, qM_round_104, if_neg (by omega)]
  clear q
  have hPl : ∀ x ∈ (p.map fun i => l.getD i 0), (x : Int) < σ.1 305 11 := fun x hx => by
    obtain ⟨y, hy, e⟩ := List.mem_map.mp hx
    rw [← e]
    exact hl _ (getD_mem (by have := hp y hy; omega))
  have hlen : (p.map fun i => l.getD i 0).length = n := by rw [List.length_map]; exact hpn
  obtain ⟨i1, i2, i3, i4⟩ := ro_le hH (t0 := t0) hPl
  have ff : ro_f σ.1 t0 (p.map fun i => l.getD i 0) = ((ro_p σ.1 t0 (p.map fun i => l.getD i 0)).1.2, (ro_p σ.1 t0 (p.map fun i => l.getD i 0)).1.1 + ((ro_p σ.1 t0 (p.map fun i => l.getD i 0)).2.1 + (ro_p σ.1 t0 (p.map fun i => l.getD i 0)).2.2) - t0) := rfl
  rw [hlen] at i1 i2
  generalize ro_p σ.1 t0 (p.map fun i => l.getD i 0) = P at *
  have em : xw (P.1.1 + xw (xw (P.2.1 + P.2.2) - t0)) = P.1.1 + (P.2.1 + P.2.2) - t0 := by
    rw [xw_id (x := P.2.1 + P.2.2) (by omega) (by omega), xw_id (x := P.2.1 + P.2.2 - t0) (by omega) (by omega), xw_id (by omega) (by omega)]
    omega
  rw [em, ff]
  clear em
  generalize P.1.1 + (P.2.1 + P.2.2) - t0 = mm at *
  have take : ∃ τ' w5 w7' w8' w9' w10' w11' w12', X iM_round 255 [(2, 305), w1, (0, t0), (0, v3), (0, (n : Int)), (xkl (0, 1)), (0, 1), (0, mm), (0, P.2.1), (0, P.2.2), (0, P.1.2), (0, 0), w] [] (xs (xs τ 305 118 P.1.2) 305 119 mm) = ((X iM_follows 0 [(2, 305), (0, (n : Int)), (9, 0), (9, 0), (9, 0), (9, 0), (9, 0)] [] τ').bind fun q1 => X iM_round 293 [(2, 305), w1, (0, t0), (0, v3), (0, (n : Int)), w5, (0, 1), w7', w8', w9', w10', w11', w12'] [q1.1] q1.2) ∧ mf σ τ' ∧ od τ' p ∧ mb τ' ((P.1.2, mm), p.map fun i => l.getD i 0) := by
    obtain ⟨τ', q1, q2, q3, q4, q5⟩ := M_round_255 (σ := σ) hl8 hln hn8 hpn hp h389 t0 v3 1 w1 (xkl (0, 1)) (0, mm) (0, P.2.1) (0, P.2.2) (0, P.1.2) w n 0 (xs (xs τ 305 118 P.1.2) 305 119 mm) (by omega) ⟨hτ.1, fun a h1 h3 h4 => by rw [xs_ne h4, xs_ne h4]; exact hτ.2.1 a h1 h3 h4, fun k h1 h3 => by rw [xs_at, xs_at, xup_ne h3, xup_ne h1]; exact hτ.2.2 k h1 h3⟩ (fun i hi => by rw [xs_ne (by decide), xs_ne (by decide)]; exact ho i hi) (fun k hk => absurd hk (Nat.not_lt_zero k))
    refine ⟨τ', _, _, _, _, _, _, _, q1, q2, q3, ?_, ?_, fun i hi => q4 i (by rw [← hlen]; exact hi)⟩
    · rw [q5, xs_at, xs_at, xup_ne (by decide), xup_eq]
    · rw [q5, xs_at, xup_eq]
  rcases hb with ⟨hv, hb⟩ | ⟨hv, hb⟩
  · rw [if_pos hv, hb, if_pos (show btr (P.1.2, mm) b0.1 from Or.inl (by show P.1.2 < 1000000000; omega))]
    exact take
  · rw [if_neg (by omega), hb.1, hb.2.1, hv]
    by_cases c1 : P.1.2 < b.1.1
    · rw [if_pos c1, if_pos (show btr (P.1.2, mm) b.1 from Or.inl c1)]
      exact take
    · rw [if_neg c1]
      by_cases c2 : P.1.2 = b.1.1
      · rw [if_pos c2]
        by_cases c3 : mm < b.1.2
        · rw [if_pos c3, if_pos (show btr (P.1.2, mm) b.1 from Or.inr ⟨c2, c3⟩)]
          exact take
        · rw [if_neg c3, if_neg (show ¬ btr (P.1.2, mm) b.1 from fun q => q.elim c1 fun q => c3 q.2)]
          exact ⟨τ, _, _, _, _, _, _, _, rfl, hτ, ho, hb⟩
      · rw [if_neg c2, if_neg (show ¬ btr (P.1.2, mm) b.1 from fun q => q.elim c1 fun q => c2 q.1)]
        exact ⟨τ, _, _, _, _, _, _, _, rfl, hτ, ho, hb⟩
theorem M_orders (hH : ho_J σ.1) {t0 : Int} (ht0 : 0 ≤ t0 ∧ t0 ≤ 1440) {l : List Nat} {n : Nat} (hl : ∀ x ∈ l, (x : Int) < σ.1 305 11) (hln : l.length = n) (hn8 : n ≤ 8) (h389 : ∀ i, i < n → σ.1 389 i = ((l.getD i 0 : Nat) : Int)) (v3 : Int) (w1 : xAV) :
    ∀ (L : List (List Nat)) (p : List Nat) (v6 : Int) (w7 w8 w9 w10 w11 w12 : xAV) (τ : xS) (b : (Int × Int) × List Nat), chq nx (p :: L) none → (∀ q ∈ p :: L, q.length = n ∧ (∀ x ∈ q, x < n) ∧ nodup q) → mf σ τ → od τ p → ((v6 = 0 ∧ b = b0) ∨ (v6 = 1 ∧ mb τ b)) →
    ∃ τ' w7' w8' w9' w10' w11' w12', X iM_round 84 [(2, 305), w1, (0, t0), (0, v3), (0, (n : Int)), (0, 1), (0, v6), w7, w8, w9, w10, w11, w12] [] τ = X iM_round 84 [(2, 305), w1, (0, t0), (0, v3), (0, (n : Int)), (0, 0), (0, 1), w7', w8', w9', w10', w11', w12'] [] τ' ∧ mf σ τ' ∧ mb τ' (bst (ro_f σ.1 t0) b ((p :: L).map (List.map fun i => l.getD i 0))) := by
  intro L
  induction L with
  | nil =>
    intro p v6 w7 w8 w9 w10 w11 w12 τ b hc hL hτ ho hb
    obtain ⟨h1, h2, h3⟩ := hL p List.mem_cons_self
    obtain ⟨τ1, w5, a7, a8, a9, a10, a11, a12, q1, q2, q3, q4⟩ := M_one hH ht0 hl hln hn8 h1 h2 h389 hτ ho v3 v6 w1 w7 w8 w9 w10 w11 w12 hb
    obtain ⟨τ2, r1, r2, r3⟩ := M_follows h1 hn8 h3 q3
    have hc : nx p = none := hc
    rcases r3 with ⟨q, s1, _⟩ | ⟨_, s2, _⟩
    · rw [hc] at s1; cases s1
    · rw [q1, s2]
      simp only [Option.bind_some]
      rw [qM_round_293]
      exact ⟨τ2, _, _, _, _, _, _, rfl, mf_381 q2 r1 r2, mb_381 q4 r2⟩
  | cons q L ih =>
    intro p v6 w7 w8 w9 w10 w11 w12 τ b hc hL hτ ho hb
    obtain ⟨h1, h2, h3⟩ := hL p List.mem_cons_self
    obtain ⟨τ1, w5, a7, a8, a9, a10, a11, a12, q1, q2, q3, q4⟩ := M_one hH ht0 hl hln hn8 h1 h2 h389 hτ ho v3 v6 w1 w7 w8 w9 w10 w11 w12 hb
    obtain ⟨τ2, r1, r2, r3⟩ := M_follows h1 hn8 h3 q3
    have hc : nx p = some q ∧ chq nx (q :: L) none := hc
    rcases r3 with ⟨q', s1, s2, s3, _⟩ | ⟨s1, _⟩
    · rw [hc.1] at s1
      have e : q = q' := Option.some.inj s1
      subst e
      rw [q1, s2]
      simp only [Option.bind_some]
      rw [qM_round_293]
      exact ih q 1 a7 a8 a9 a10 a11 a12 τ2 _ hc.2 (fun x hx => hL x (List.mem_cons_of_mem _ hx)) (mf_381 q2 r1 r2) s3 (Or.inr ⟨rfl, mb_381 q4 r2⟩)
    · rw [hc.1] at s1; cases s1
end ROUNDM

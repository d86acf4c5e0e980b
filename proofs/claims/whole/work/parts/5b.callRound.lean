/-! the lorry's round: the call -/
def bl (v : Int) : Nat → List Nat
  | 0 => []
  | n + 1 => bl v n ++ if bz v n then [] else [n]
theorem mem_bl {v : Int} {x : Nat} : ∀ {n : Nat}, x ∈ bl v n ↔ x < n ∧ ¬ bz v x
  | 0 => ⟨fun h => absurd h List.not_mem_nil, fun h => absurd h.1 (Nat.not_lt_zero x)⟩
  | n + 1 => by
    show x ∈ bl v n ++ (if bz v n then [] else [n]) ↔ _
    rw [List.mem_append, mem_bl (n := n)]
    by_cases h : bz v n
    · rw [if_pos h]
      constructor
      · rintro (q | q)
        · exact ⟨by omega, q.2⟩
        · exact absurd q List.not_mem_nil
      · intro q
        by_cases e : x = n
        · rw [e] at q
          exact absurd h q.2
        · exact Or.inl ⟨by omega, q.2⟩
    · rw [if_neg h, List.mem_singleton]
      constructor
      · rintro (q | q)
        · exact ⟨by omega, q.2⟩
        · rw [q]
          exact ⟨Nat.lt_succ_self n, h⟩
      · intro q
        by_cases e : x = n
        · exact Or.inr e
        · exact Or.inl ⟨by omega, q.2⟩
theorem asc_bl {v : Int} : ∀ {n : Nat}, asc (bl v n)
  | 0 => trivial
  | n + 1 => by
    show asc (bl v n ++ if bz v n then [] else [n])
    by_cases h : bz v n
    · rw [if_pos h, List.append_nil]
      exact asc_bl
    · rw [if_neg h]
      exact asc_snoc.mpr ⟨asc_bl, fun y hy => (mem_bl.mp hy).1⟩
theorem len_bl {v : Int} : ∀ {n : Nat}, (bl v n).length ≤ n
  | 0 => Nat.le_refl 0
  | n + 1 => by
    show (bl v n ++ if bz v n then [] else [n]).length ≤ n + 1
    have := len_bl (v := v) (n := n)
    rw [List.length_append]
    split
    · show (bl v n).length + 0 ≤ n + 1
      omega
    · show (bl v n).length + 1 ≤ n + 1
      omega
theorem bl_up {v : Int} {N : Nat} : ∀ {k : Nat}, (∀ h, N ≤ h → h < N + k → bz v h) → bl v (N + k) = bl v N
  | 0, _ => rfl
  | k + 1, h => by
    show bl v (N + k) ++ (if bz v (N + k) then [] else [N + k]) = bl v N
    rw [if_pos (h (N + k) (by omega) (by omega)), List.append_nil]
    exact bl_up fun x h1 h2 => h x h1 (by omega)
theorem bitc (v : Nat) (hv : v < 256) (σ : xS) : X iJI_bitCount 0 [(0, (v : Int))] [] σ = some ((0, ((bl (v : Int) 8).length : Int)), σ) := by
  rw [qJI_bitCount_0]
  refine congrArg (fun x : Int => some (((0, x) : xAV), σ)) ?_
  revert v
  decide +kernel
theorem bst_in {f : List Nat → Int × Int} : ∀ {L : List (List Nat)} {b : (Int × Int) × List Nat}, bst f b L = b ∨ (bst f b L).2 ∈ L
  | [], _ => Or.inl rfl
  | p :: L, b => by
    show bst f (if btr (f p) b.1 then (f p, p) else b) L = b ∨ (bst f (if btr (f p) b.1 then (f p, p) else b) L).2 ∈ p :: L
    by_cases h : btr (f p) b.1
    · rw [if_pos h]
      rcases bst_in (f := f) (L := L) (b := (f p, p)) with q | q
      · rw [q]
        exact Or.inr List.mem_cons_self
      · exact Or.inr (List.mem_cons_of_mem _ q)
    · rw [if_neg h]
      rcases bst_in (f := f) (L := L) (b := b) with q | q
      · exact Or.inl q
      · exact Or.inr (List.mem_cons_of_mem _ q)
theorem bst_in0 {f : List Nat → Int × Int} {L : List (List Nat)} {b : (Int × Int) × List Nat} (hne : L ≠ []) (h : ∀ p ∈ L, btr (f p) b.1) : (bst f b L).2 ∈ L := by
  cases L with
  | nil => exact absurd rfl hne
  | cons p L =>
    show (bst f (if btr (f p) b.1 then (f p, p) else b) L).2 ∈ p :: L
    rw [if_pos (h p List.mem_cons_self)]
    rcases bst_in (f := f) (L := L) (b := (f p, p)) with q | q
    · rw [q]
      exact List.mem_cons_self
    · exact List.mem_cons_of_mem _ q
section ROUNDY
variable {σ : xS}
theorem M_stops {N : Nat} (hN : N ≤ 8) (h11 : σ.1 305 11 = (N : Int)) {v : Int} (t0 v3 : Int) (w6 w7 w8 w9 w10 w11 w12 : xAV) : ∀ (u h : Nat) (τ : xS), h + u = N → ag σ τ → (∀ i, i < (bl v h).length → τ.1 389 i = (((bl v h).getD i 0 : Nat) : Int)) →
    ∃ τ', X iM_round 33 [(2, 305), (0, v), (0, t0), (0, v3), (0, ((bl v h).length : Int)), (0, (h : Int)), w6, w7, w8, w9, w10, w11, w12] [] τ = ((X iM_first 0 [(2, 305), (0, ((bl v N).length : Int)), (9, 0)] [] τ').bind fun q1 => X iM_round 78 [(2, 305), (0, v), (0, t0), (0, v3), (0, ((bl v N).length : Int)), (0, (N : Int)), w6, w7, w8, w9, w10, w11, w12] [] q1.2) ∧ ag σ τ' ∧ ∀ i, i < (bl v N).length → τ'.1 389 i = (((bl v N).getD i 0 : Nat) : Int) := by
  intro u
  induction u with
  | zero =>
    intro h τ hh hτ hf
    rw [qM_round_33, if_neg (by rw [hτ.sl (a := 305) (k := 11) rfl]; omega)]
    rw [show h = N by omega] at hf ⊢
    exact ⟨τ, rfl, hτ, hf⟩
  | succ u ih =>
    intro h τ hh hτ hf
    have hlen := len_bl (v := v) (n := h)
    rw [qM_round_33, if_pos (by rw [hτ.sl (a := 305) (k := 11) rfl]; omega), xw_s (by omega)]
    by_cases c : bz v h
    · have e : bl v (h + 1) = bl v h := by
        show bl v h ++ (if bz v h then [] else [h]) = bl v h
        rw [if_pos c, List.append_nil]
      rw [if_pos c]
      have := ih (h + 1) τ (by omega) hτ (by rw [e]; exact hf)
      rw [e] at this
      exact this
    · have e : bl v (h + 1) = bl v h ++ [h] := by
        show bl v h ++ (if bz v h then [] else [h]) = _
        rw [if_neg c]
      have el : (bl v (h + 1)).length = (bl v h).length + 1 := by rw [e, List.length_append]; rfl
      rw [if_neg c, if_pos (xin_of (by omega) (by omega)), Int.toNat_natCast, xw_s (by omega)]
      have := ih (h + 1) (xs τ 389 (bl v h).length (h : Int)) (by omega) (ag_tr hτ (ag_sS rfl)) (fun i hi => by
        rw [e, xs_at, xup_at, getD_app]
        by_cases q : i = (bl v h).length
        · rw [if_pos q, if_neg (by omega), q, Nat.sub_self]
          rfl
        · rw [if_neg q, if_pos (by omega)]
          exact hf i (by omega))
      rw [el] at this
      exact this
theorem M_first {n : Nat} (hn : n ≤ 8) : ∀ (u i : Nat) (τ : xS), i + u = n → (∀ k, k < i → τ.1 381 k = (k : Int)) → ∃ τ', X iM_first 2 [(2, 305), (0, (n : Int)), (0, (i : Int))] [] τ = some ((9, 0), τ') ∧ τ'.2 = τ.2 ∧ (∀ a, a ≠ 381 → τ'.1 a = τ.1 a) ∧ ∀ k, k < n → τ'.1 381 k = (k : Int) := by
  intro u
  induction u with
  | zero =>
    intro i τ hi h
    rw [qM_first_2, if_neg (by omega)]
    exact ⟨τ, rfl, rfl, fun _ _ => rfl, fun k hk => h k (by omega)⟩
  | succ u ih =>
    intro i τ hi h
    rw [qM_first_2, if_pos (by omega), if_pos (xin_of (by omega) (by omega)), Int.toNat_natCast, xw_s (by omega)]
    obtain ⟨τ', q1, q2, q3, q4⟩ := ih (i + 1) (xs τ 381 i (i : Int)) (by omega) (fun k hk => by
      rw [xs_at, xup_at]
      by_cases e : k = i
      · rw [if_pos e, e]
      · rw [if_neg e]
        exact h k (by omega))
    exact ⟨τ', q1, q2, fun a ha => by rw [q3 a ha, xs_ne ha], q4⟩
theorem mf_ag {τ : xS} (h : mf σ τ) : ag σ τ := by
  refine ⟨h.1, fun a k hk => ?_⟩
  by_cases e1 : a = 381
  · subst e1; cases hk
  · by_cases e2 : a = 382
    · subst e2; cases hk
    · by_cases e3 : a = 305
      · subst e3
        by_cases e4 : k = 118
        · subst e4; cases hk
        · by_cases e5 : k = 119
          · subst e5; cases hk
          · exact h.2.2 k e4 e5
      · rw [h.2.1 a e1 e2 e3]
theorem hf_ag {τ : xS} (h : hf σ τ) (h2 : τ.2 = σ.2) : ag σ τ := by
  refine ⟨h2, fun a k hk => ?_⟩
  by_cases e1 : a = 214
  · subst e1; cases hk
  · by_cases e2 : a = 215
    · subst e2; cases hk
    · by_cases e3 : a = 209
      · subst e3
        by_cases e4 : k = 7
        · subst e4; cases hk
        · by_cases e5 : k = 8
          · subst e5; cases hk
          · exact h.2 k e4 e5
      · rw [h.1 a e1 e2 e3]
/-- the best of all orders of the houses asked for -/
def ro_K (m : Nat → Nat → Int) (t0 v : Int) : (Int × Int) × List Nat := bst (ro_f m t0) b0 (ps (bl v (m 305 11).toNat).length (bl v (m 305 11).toNat))
theorem M_round_all (hH : ho_J σ.1) {v t0 : Int} (ht0 : 0 ≤ t0 ∧ t0 ≤ 1440) (v3 : Int) {N : Nat} (hN : σ.1 305 11 = (N : Int)) :
    ∃ τ' w7' w8' w9' w10' w11' w12', X iM_round 33 [(2, 305), (0, v), (0, t0), (0, v3), (0, 0), (0, 0), (9, 0), (9, 0), (9, 0), (9, 0), (9, 0), (9, 0), (9, 0)] [] σ = X iM_round 84 [(2, 305), (0, v), (0, t0), (0, v3), (0, ((bl v N).length : Int)), (0, 0), (0, 1), w7', w8', w9', w10', w11', w12'] [] τ' ∧ ag σ τ' ∧ mb τ' (ro_K σ.1 t0 v) := by
  have h11 := hH.2.1
  have hN8 : N ≤ 8 := by omega
  obtain ⟨τ1, q1, q2, q3⟩ := M_stops hN8 hN (v := v) t0 v3 (9, 0) (9, 0) (9, 0) (9, 0) (9, 0) (9, 0) (9, 0) N 0 σ (by omega) (ag_rf σ) (fun i hi => absurd hi (Nat.not_lt_zero i))
  have q1 : X iM_round 33 [(2, 305), (0, v), (0, t0), (0, v3), (0, 0), (0, 0), (9, 0), (9, 0), (9, 0), (9, 0), (9, 0), (9, 0), (9, 0)] [] σ = _ := q1
  have hlen := len_bl (v := v) (n := N)
  have hlN : ∀ x ∈ bl v N, (x : Int) < σ.1 305 11 := fun x hx => by have := (mem_bl.mp hx).1; omega
  have hasc := asc_bl (v := v) (n := N)
  have e11 : (σ.1 305 11).toNat = N := by omega
  have hK : ro_K σ.1 t0 v = bst (ro_f σ.1 t0) b0 (ps (bl v N).length (bl v N)) := by unfold ro_K; rw [e11]
  rw [hK]
  clear hK
  generalize bl v N = l at *
  obtain ⟨τ2, r1, r2, r3, r4⟩ := M_first (n := l.length) (by omega) l.length 0 τ1 (by omega) (fun k hk => absurd hk (Nat.not_lt_zero k))
  have r1 : X iM_first 2 [(2, 305), (0, (l.length : Int)), (0, 0)] [] τ1 = some ((9, 0), τ2) := r1
  have hP1 : ho_J τ1.1 := ho_J_cg (fun a ha => q2.cl (by omega)) (q2.sl rfl) (q2.sl rfl) hH
  have e1 : τ1.1 305 11 = σ.1 305 11 := q2.sl rfl
  obtain ⟨L0, L, hL⟩ : ∃ p L, ps l.length (List.range l.length) = p :: L := by
    have := ps_ne (n := l.length) (l := List.range l.length) List.length_range
    cases h : ps l.length (List.range l.length) with
    | nil => exact absurd h this
    | cons p L => exact ⟨p, L, rfl⟩
  have hc := (ps_chain (n := l.length) (l := List.range l.length) List.length_range asc_range).1
  have hhd := ps_head (n := l.length) (l := List.range l.length) List.length_range
  have hps : ps l.length l = (L0 :: L).map (List.map fun i => l.getD i 0) := by
    rw [← hL, ← ps_map List.length_range asc_range (fun a ha b hb hab => asc_getD hasc hab (List.mem_range.mp hb)), range_map]
  rw [hL] at hc hhd
  have hL0 : L0 = List.range l.length := Option.some.inj hhd
  have hall : ∀ q ∈ L0 :: L, q.length = l.length ∧ (∀ x ∈ q, x < l.length) ∧ nodup q := fun q hq => by
    rw [← hL] at hq
    obtain ⟨a1, a2, a3⟩ := ps_mem List.length_range (asc_nodup asc_range) hq
    exact ⟨a1, fun x hx => List.mem_range.mp (a2 x hx), a3⟩
  obtain ⟨τ3, w7, w8, w9, w10, w11, w12, s1, s2, s3⟩ := M_orders (σ := τ1) hP1 ht0 (l := l) (n := l.length) (fun x hx => by rw [e1]; exact hlN x hx) rfl (by omega) (fun i hi => q3 i hi) v3 (0, v) L L0 0 (9, 0) (9, 0) (9, 0) (9, 0) (9, 0) (9, 0) τ2 b0 hc hall (mf_381 ⟨rfl, fun _ _ _ _ => rfl, fun _ _ _ => rfl⟩ r2 r3) (fun i hi => by
    rw [hL0] at hi ⊢
    rw [List.length_range] at hi
    rw [r4 i hi, range_getD hi]) (Or.inl ⟨rfl, rfl⟩)
  have ef : ro_f τ1.1 t0 = ro_f σ.1 t0 := by
    have g : ro_s τ1.1 = ro_s σ.1 := by
      funext s h
      unfold ro_s
      rw [q2.at (a := 312) fun _ => rfl, q2.at (a := 313) fun _ => rfl, q2.at (a := 314) fun _ => rfl]
    funext p
    unfold ro_f ro_p
    rw [g]
  rw [ef, ← hps] at s3
  refine ⟨τ3, w7, w8, w9, w10, w11, w12, ?_, ag_tr q2 (mf_ag s2), s3⟩
  rw [q1, qM_first_0, r1]
  simp only [Option.bind_some]
  rw [qM_round_78]
  exact s1
theorem C_round_all (hH : ho_J σ.1) {v t0 : Int} (ht0 : 0 ≤ t0 ∧ t0 ≤ 1440) {N : Nat} (hN : σ.1 305 11 = (N : Int)) (hv : 0 ≤ v ∧ v < ((2 ^ N : Nat) : Int)) (hdp : 16 ≤ xdp σ) :
    ∃ τ', X iHouses_planRound 0 [(2, 209), (0, v), (0, t0)] [] σ = some ((9, 0), τ') ∧ ag σ τ' ∧ hb τ' (ro_K σ.1 t0 v) := by
  have h11 := hH.2.1
  have hN8 : N ≤ 8 := by omega
  have h256 : (2 : Nat) ^ N ≤ 2 ^ 8 := Nat.pow_le_pow_right (by decide) hN8
  have e8 : (2 : Nat) ^ 8 = 256 := by decide
  have hlen := len_bl (v := v) (n := N)
  have e11 : (σ.1 305 11).toNat = N := by omega
  have hK : ro_K σ.1 t0 v = bst (ro_f σ.1 t0) b0 ((ps (bl v N).length (bl v N)).map ([] ++ ·)) := by
    unfold ro_K
    rw [e11]
    congr 1
    exact (List.map_id _).symm
  obtain ⟨vn, hvn⟩ : ∃ n : Nat, v = n := ⟨v.toNat, by omega⟩
  have hbok : bok v (bl v N) := by
    refine ⟨by omega, fun h hh => ?_⟩
    constructor
    · intro q hq
      exact (mem_bl.mp hq).2 q
    · intro q
      by_cases hhN : h < N
      · by_cases c : bz v h
        · exact c
        · exact absurd (mem_bl.mpr ⟨hhN, c⟩) q
      · subst hvn
        exact bz_up vn (by omega) N hN8 (by omega) h hh (by omega)
  obtain ⟨τ', q1, q2, q3, q4, q5⟩ := H_visit hH ht0 (bl v N).length (bl v N) [] v (xs (xs σ 209 7 1000000000) 209 8 1000000000) b0 rfl asc_bl (fun x hx => by have := (mem_bl.mp hx).1; omega) (by show 0 + (bl v N).length ≤ 8; omega) hbok ⟨fun a h1 h2 h3 => by rw [xs_ne h3, xs_ne h3], fun k h1 h2 => by rw [xs_at, xs_at, xup_ne h2, xup_ne h1]⟩ (fun i hi => absurd hi (Nat.not_lt_zero i)) ⟨by rw [xs_at, xs_at, xup_ne (by decide), xup_eq]; rfl, by rw [xs_at, xup_eq]; rfl, by decide, fun i hi => absurd hi (Nat.not_lt_zero i)⟩ (by show 2 * (bl v N).length ≤ xdp σ; omega)
  have q1 : X iHouses_visitRest 0 [(2, 209), (0, 0), (0, v), (0, t0), (0, t0), (0, 0), (9, 0)] [] (xs (xs σ 209 7 1000000000) 209 8 1000000000) = some ((9, 0), τ') := q1
  rw [hK]
  refine ⟨τ', ?_, hf_ag q3 q2, q5⟩
  rw [qHouses_planRound_0, q1]
  simp only [Option.bind_some]
  rw [qHouses_planRound_21]
end ROUNDY

/-! the night: what both answer, the table of mixes given -/
section NIGHTV
variable {σ : xS}
def ng_v (m : Nat → Nat → Int) (mx : Int → Int → Bool) (K : (Int × Int) × List Nat) (n : Nat) (a : Int) : Int := if a = 0 then K.1.1 else if a = 1 then K.1.2 else if 10 ≤ a ∧ a < 10 + n then ((K.2.getD (a - 10).toNat 0 : Nat) : Int) else if 20 ≤ a ∧ a < 20 + n then (ng_p m mx K.2).2.2 (a - 20).toNat else -1
theorem ng_Km (hP : pJ σ.1) (h1 : 1 ≤ σ.1 305 102) (mx : Int → Int → Bool) {n : Nat} (hn : σ.1 305 107 = (n : Int)) : (ng_K σ.1 mx).2.length = n ∧ ∀ j, j < n → j ∈ (ng_K σ.1 mx).2 := by
  have h107 := hP.2.2.2.2.2.2.1.2.2.2.2.1
  have en : (σ.1 305 107).toNat = n := by omega
  unfold ng_K
  rw [en]
  have hm := bst_in0 (f := fun q => (ng_p σ.1 mx q).2.1) (b := b0) (ps_ne (n := n) (l := List.range n) List.length_range) (fun p hp => by
    obtain ⟨m1, m2, m3⟩ := ps_mem List.length_range (asc_nodup asc_range) hp
    obtain ⟨i1, i2, i3⟩ := ng_pb hP h1 mx (p := p) (fun x hx => by have := List.mem_range.mp (m2 x hx); omega)
    refine Or.inl ?_
    show (ng_p σ.1 mx p).2.1.1 < 1000000000
    omega)
  refine ⟨(ps_mem List.length_range (asc_nodup asc_range) hm).1, fun j hj => ?_⟩
  have key : ∀ (n : Nat) (l p : List Nat), l.length = n → p ∈ ps n l → ∀ x, x ∈ l → x ∈ p := by
    intro n
    induction n with
    | zero =>
      intro l p hl _ x hx
      rw [List.length_eq_zero_iff.mp hl] at hx
      exact absurd hx List.not_mem_nil
    | succ n ih =>
      intro l p hl hp x hx
      have hp : p ∈ l.flatMap fun x => (ps n (l.erase x)).map (x :: ·) := hp
      obtain ⟨y, hy, hp⟩ := List.mem_flatMap.mp hp
      obtain ⟨q, hq, rfl⟩ := List.mem_map.mp hp
      by_cases e : x = y
      · rw [e]; exact List.mem_cons_self
      · refine List.mem_cons_of_mem _ (ih (l.erase y) q ?_ hq x ((List.mem_erase_of_ne e).mpr hx))
        rw [List.length_erase_of_mem hy]
        omega
  exact key n (List.range n) _ List.length_range hm j (List.mem_range.mpr hj)
theorem M_night_val (hP : pJ σ.1) (h1 : 1 ≤ σ.1 305 102) {mx : Int → Int → Bool} {n : Nat} (hn : σ.1 305 107 = (n : Int)) {τ : xS} (hτ : ag σ τ) (hm : ∀ a b : Int, 0 ≤ a ∧ a ≤ 3 → 0 ≤ b ∧ b ≤ 3 → (xna 4 (τ.1 388 (4 * a + b).toNat) = 0 ↔ mx a b = false)) (a : Int) (w3 w4 : xAV) :
    ∃ τ', X iM_night 11 [(2, 305), (0, a), (0, 4), w3, w4] [] τ = some ((0, ng_v σ.1 mx (ng_K σ.1 mx) n a), τ') ∧ ag σ τ' := by
  have h107 := hP.2.2.2.2.2.2.1.2.2.2.2.1
  have hn7 : n ≤ 7 := by omega
  have en : (σ.1 305 107).toNat = n := by omega
  have e7 : τ.1 305 107 = (n : Int) := by rw [hτ.sl (a := 305) (k := 107) rfl, hn]
  obtain ⟨τ2, r1, r2, r3, r4⟩ := M_first (n := n) (by omega) n 0 τ (by omega) (fun k hk => absurd hk (Nat.not_lt_zero k))
  have r1 : X iM_first 2 [(2, 305), (0, (n : Int)), (0, 0)] [] τ = some ((9, 0), τ2) := r1
  obtain ⟨L0, L, hL⟩ : ∃ p L, ps n (List.range n) = p :: L := by
    have := ps_ne (n := n) (l := List.range n) List.length_range
    cases h : ps n (List.range n) with
    | nil => exact absurd h this
    | cons p L => exact ⟨p, L, rfl⟩
  have hc := (ps_chain (n := n) (l := List.range n) List.length_range asc_range).1
  have hhd := ps_head (n := n) (l := List.range n) List.length_range
  rw [hL] at hc hhd
  have hL0 : L0 = List.range n := Option.some.inj hhd
  have hall : ∀ q ∈ L0 :: L, q.length = n ∧ (∀ x ∈ q, x < n) ∧ nodup q := fun q hq => by
    rw [← hL] at hq
    obtain ⟨a1, a2, a3⟩ := ps_mem List.length_range (asc_nodup asc_range) hq
    exact ⟨a1, fun x hx => List.mem_range.mp (a2 x hx), a3⟩
  obtain ⟨τ3, w4', s1, s2, s3⟩ := M_nOrders hP h1 (mx := mx) hn a L L0 0 w4 τ2 b0 hc hall (ag_381 hτ r2 r3) (fun i hi => by
    rw [hL0] at hi ⊢
    rw [List.length_range] at hi
    rw [r4 i hi, range_getD hi]) (fun x y hx hy => by rw [r3 388 (by decide)]; exact hm x y hx hy) (Or.inl ⟨rfl, rfl⟩)
  have hK : bst (fun q => (ng_p σ.1 mx q).2.1) b0 (L0 :: L) = ng_K σ.1 mx := by
    unfold ng_K
    rw [en, hL]
  rw [hK] at s3
  obtain ⟨k1, k2⟩ := ng_Km hP h1 mx hn
  refine ⟨τ3, ?_, s2⟩
  have e73 : τ3.1 305 107 = (n : Int) := by rw [s2.sl (a := 305) (k := 107) rfl, hn]
  rw [qM_night_11, if_neg (by decide), e7, qM_first_0, r1]
  simp only [Option.bind_some]
  rw [qM_night_59, s1, qM_night_63, if_pos rfl, e73, xw_id (x := 20 + (n : Int)) (by omega) (by omega), xw_id (x := 10 + (n : Int)) (by omega) (by omega)]
  obtain ⟨s4, s5, s6, s7⟩ := s3
  clear hK hL hc hhd hall s1 r1 r4
  generalize ng_K σ.1 mx = K at *
  by_cases c0 : a = 0
  · rw [if_pos c0, s4, show ng_v σ.1 mx K n a = K.1.1 from if_pos c0]
  · rw [if_neg c0]
    by_cases c1 : a = 1
    · rw [if_pos c1, s5, show ng_v σ.1 mx K n a = K.1.2 by unfold ng_v; rw [if_neg c0, if_pos c1]]
    · rw [if_neg c1]
      by_cases c2 : 10 ≤ a ∧ a < 10 + n
      · rw [if_neg (by omega), if_pos (by omega), xw_id (x := a - 10) (by omega) (by omega), if_pos (xin_of (by omega) (by omega)), s6 _ (by omega), show ng_v σ.1 mx K n a = ((K.2.getD (a - 10).toNat 0 : Nat) : Int) by unfold ng_v; rw [if_neg c0, if_neg c1, if_pos c2]]
      · by_cases c3 : 20 ≤ a ∧ a < 20 + n
        · rw [if_neg (by omega), if_neg (by omega), if_neg (by omega), if_pos (by omega), xw_id (x := a - 20) (by omega) (by omega), if_pos (xin_of (by omega) (by omega)), s7 _ (k2 _ (by omega)), show ng_v σ.1 mx K n a = (ng_p σ.1 mx K.2).2.2 (a - 20).toNat by unfold ng_v; rw [if_neg c0, if_neg c1, if_neg c2, if_pos c3]]
        · have ev : ng_v σ.1 mx K n a = -1 := by unfold ng_v; rw [if_neg c0, if_neg c1, if_neg c2, if_neg c3]
          rw [ev]
          repeat' (refine xite (fun _ => ?_) (fun _ => ?_))
          all_goals first | rfl | (exfalso; omega)
theorem C_night_val (hP : pJ σ.1) (h1 : 1 ≤ σ.1 305 102) (hdp : 14 ≤ xdp σ) {mx : Int → Int → Bool} {n : Nat} (hn : σ.1 305 107 = (n : Int)) {mi : Int} (hmix : X iLedger_mixes 0 [(2, 243), (9, 0), (9, 0), (9, 0)] [] σ = some ((0, mi), σ)) (hm : ∀ a b : Int, 0 ≤ a ∧ a ≤ 3 → 0 ≤ b ∧ b ≤ 3 → (xiand (xshr mi (4 * a + b)) 1 = 0 ↔ mx a b = false)) (a : Int) :
    ∃ τ', X iC_night 0 [(2, 200), (0, a), (9, 0), (9, 0)] [] σ = some ((0, ng_v σ.1 mx (ng_K σ.1 mx) n a), τ') ∧ ag σ τ' := by
  have hN := hP.2.2.2.2.2.2.1
  have h107 := hN.2.2.2.2.1
  have hn7 : n ≤ 7 := by omega
  have e9 : σ.1 258 9 = (n : Int) := by rw [← hn]; exact hN.2.1.2.2.2
  have e4 : σ.1 258 4 = σ.1 305 102 := hN.1.2.2.2.1
  obtain ⟨τ', q1, q2, q3, q4, q5, q6⟩ := C_plan hP h1 hdp hm
  obtain ⟨k1, k2⟩ := ng_Km hP h1 mx hn
  have run : ∀ o t z : Int, (z ≠ 0 ∨ o ≠ 0 ∨ t ≠ 0) → X iC_night 50 [(2, 200), (0, a), (0, o), (0, t)] [(0, z)] σ = X iC_night 77 [(2, 200), (0, a), (0, o), (0, t)] [] τ' := by
    intro o t z hz
    rw [qC_night_50, hmix]
    simp only [Option.bind_some]
    rw [qC_night_74, q1]
    simp only [Option.bind_some]
    refine xite (fun z0 => xite (fun o0 => xite (fun t0 => ?_) (fun _ => rfl)) (fun _ => rfl)) (fun _ => rfl)
    omega
  have e0 : ∀ o t : Int, (o = if 10 ≤ a ∧ a < 10 + n then 1 else 0) → (t = if 20 ≤ a ∧ a < 20 + n then 1 else 0) → X iC_night 0 [(2, 200), (0, a), (9, 0), (9, 0)] [] σ = X iC_night 33 [(2, 200), (0, a), (0, o), (9, 0)] [(0, t)] σ := by
    intro o t ho ht
    rw [qC_night_0, e9, xw_id (x := 19 + (n : Int)) (by omega) (by omega), xw_id (x := 9 + (n : Int)) (by omega) (by omega)]
    repeat' (refine xite (fun _ => ?_) (fun _ => ?_))
    all_goals first
      | (rw [if_neg (by omega)] at ho; rw [if_neg (by omega)] at ht; rw [ho, ht]; done)
      | (rw [if_neg (by omega)] at ho; rw [if_pos (by omega)] at ht; rw [ho, ht]; done)
      | (rw [if_pos (by omega)] at ho; rw [if_neg (by omega)] at ht; rw [ho, ht]; done)
      | (exfalso; omega)
  generalize ng_K σ.1 mx = K at *
  by_cases c0 : a = 0
  · refine ⟨τ', ?_, q2⟩
    rw [e0 0 0 (by rw [if_neg (by omega)]) (by rw [if_neg (by omega)]), qC_night_33, e4, if_neg (by omega), if_neg (by omega), if_neg (by omega), run 0 0 1 (by omega), qC_night_77, if_pos rfl, if_pos rfl, if_pos c0, q3, show ng_v σ.1 mx K n a = K.1.1 from if_pos c0]
  · by_cases c1 : a = 1
    · refine ⟨τ', ?_, q2⟩
      rw [e0 0 0 (by rw [if_neg (by omega)]) (by rw [if_neg (by omega)]), qC_night_33, e4, if_neg (by omega), if_neg (by omega), if_neg (by omega), run 0 0 1 (by omega), qC_night_77, if_pos rfl, if_pos rfl, if_neg c0, q4, show ng_v σ.1 mx K n a = K.1.2 by unfold ng_v; rw [if_neg c0, if_pos c1]]
    · have e33 : ∀ o t : Int, X iC_night 33 [(2, 200), (0, a), (0, o), (9, 0)] [(0, t)] σ = X iC_night 50 [(2, 200), (0, a), (0, o), (0, t)] [(0, 0)] σ := by
        intro o t
        rw [qC_night_33, e4, if_neg (by omega)]
        refine xite (fun _ => rfl) (fun _ => xite (fun _ => rfl) (fun _ => ?_))
        omega
      by_cases c2 : 10 ≤ a ∧ a < 10 + n
      · refine ⟨τ', ?_, q2⟩
        rw [e0 1 0 (by rw [if_pos c2]) (by rw [if_neg (by omega)]), e33, run 1 0 0 (by omega), qC_night_77, if_neg (by decide), xw_id (x := a - 10) (by omega) (by omega), if_pos (xin_of (by omega) (by omega)), q5 _ (by omega), show ng_v σ.1 mx K n a = ((K.2.getD (a - 10).toNat 0 : Nat) : Int) by unfold ng_v; rw [if_neg c0, if_neg c1, if_pos c2]]
      · by_cases c3 : 20 ≤ a ∧ a < 20 + n
        · refine ⟨τ', ?_, q2⟩
          rw [e0 0 1 (by rw [if_neg c2]) (by rw [if_pos c3]), e33, run 0 1 0 (by omega), qC_night_77, if_pos rfl, if_neg (by decide), xw_id (x := a - 20) (by omega) (by omega), if_pos (xin_of (by omega) (by omega)), q6 _ (k2 _ (by omega)), show ng_v σ.1 mx K n a = (ng_p σ.1 mx K.2).2.2 (a - 20).toNat by unfold ng_v; rw [if_neg c0, if_neg c1, if_neg c2, if_pos c3]]
        · refine ⟨σ, ?_, ag_rf σ⟩
          rw [e0 0 0 (by rw [if_neg c2]) (by rw [if_neg c3]), e33, qC_night_50, if_pos rfl, if_pos rfl, if_pos rfl, show ng_v σ.1 mx K n a = -1 by unfold ng_v; rw [if_neg c0, if_neg c1, if_neg c2, if_neg c3]]
end NIGHTV

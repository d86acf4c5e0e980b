/-! loads: both answer alike -/
section LOADY
variable {σ : xS}
def ld_S (m : Nat → Nat → Int) (hs : Nat → Nat) (lo hi : Nat) (wt v : Int) : Prop :=
  (wt = -1 → v = if tw (ld_w m hs (-1)) lo (hi + 1 - lo) = 0 then -1 else sa (tw (ld_w m hs (-1)) lo (hi + 1 - lo))) ∧
  ∀ s : Nat, wt ≠ -1 → Int.tdiv wt 2 = (s : Int) → ((v = -1 ∧ ∀ d, d ≤ hs s → ¬ ld_C m hs s lo hi d) ∨ ∃ d : Nat, v = (d : Int) ∧ d ≤ hs s ∧ ld_C m hs s lo hi d ∧ (Int.tmod wt 2 = 0 → ∀ e, e < d → ¬ ld_C m hs s lo hi e) ∧ (Int.tmod wt 2 ≠ 0 → ∀ e, d < e → e ≤ hs s → ¬ ld_C m hs s lo hi e))
theorem ld_S_one {m : Nat → Nat → Int} {hs : Nat → Nat} {lo hi s : Nat} {wt v v' : Int} (hw : wt = -1 ∨ Int.tdiv wt 2 = (s : Int)) (h : ld_S m hs lo hi wt v) (h' : ld_S m hs lo hi wt v') : v = v' := by
  by_cases e : wt = -1
  · rw [h.1 e, h'.1 e]
  · have hs' : Int.tdiv wt 2 = (s : Int) := by
      rcases hw with hw | hw
      · exact absurd hw e
      · exact hw
    rcases h.2 s e hs' with ⟨a1, a2⟩ | ⟨d, a1, a2, a3, a4, a5⟩
    · rcases h'.2 s e hs' with ⟨b1, b2⟩ | ⟨d', b1, b2, b3, b4, b5⟩
      · rw [a1, b1]
      · exact absurd b3 (a2 d' b2)
    · rcases h'.2 s e hs' with ⟨b1, b2⟩ | ⟨d', b1, b2, b3, b4, b5⟩
      · exact absurd a3 (b2 d a2)
      · have : d = d' := by
          by_cases ev : Int.tmod wt 2 = 0
          · by_cases c1 : d < d'
            · exact absurd a3 (b4 ev d c1)
            · by_cases c2 : d' < d
              · exact absurd b3 (a4 ev d' c2)
              · omega
          · by_cases c1 : d < d'
            · exact absurd b3 (a5 ev d' c1 b2)
            · by_cases c2 : d' < d
              · exact absurd a3 (b5 ev d c2 a2)
              · omega
        rw [a1, b1, this]
theorem C_load_w (hP : pJ σ.1) {h : Int} {lo hi : Nat} (hl : lo ≤ 9100) (hh : hi ≤ 9000) {wt : Int} (hw : -1 ≤ wt ∧ wt < 2 * σ.1 305 6) {τ : xS} (hτ : ag σ τ) (hH : ld_P (σ.1 305 6).toNat (ld_n σ.1 h) τ) :
    ∃ v τ', X iSorts_waysOrPieces 0 [(2, 201), (0, (lo : Int)), (0, (hi : Int)), (0, wt), (9, 0)] [] τ = some ((0, v), τ') ∧ ag σ τ' ∧ ld_S σ.1 (ld_n σ.1 h) lo hi wt v := by
  have h6 := hP.1.2.1
  have hvz : ∀ vb : Int, nmin (hv (ld_g σ.1) (ld_n σ.1 h) vb (σ.1 305 6).toNat) hi ≤ hi ∧ ∀ x, nmin (hv (ld_g σ.1) (ld_n σ.1 h) vb (σ.1 305 6).toNat) hi < x → x ≤ hi → wy (ld_g σ.1) (ld_n σ.1 h) vb (σ.1 305 6).toNat x = 0 := by
    intro vb
    refine ⟨by unfold nmin; split <;> omega, fun x x1 x2 => wy_hv ?_⟩
    unfold nmin at x1
    by_cases c : hv (ld_g σ.1) (ld_n σ.1 h) vb (σ.1 305 6).toNat < hi
    · rw [if_pos c] at x1; exact x1
    · rw [if_neg c] at x1; omega
  rw [qSorts_waysOrPieces_0]
  by_cases e : wt = -1
  · obtain ⟨τ1, q1, q2, q3, q4, q5⟩ := S_spread hP (hs := ld_n σ.1 h) hh (-1) (fun s t hs => ld_bd1 hP h (-1) s t hs) hτ hH
    rw [if_pos e, q1]
    simp only [Option.bind_some]
    rw [qSorts_waysOrPieces_11, S_waysWithin (f := ld_w σ.1 (ld_n σ.1 h) (-1)) hh (hvz (-1)).1 (hvz (-1)).2 (ld_bd hP h (-1) (σ.1 305 6).toNat (Nat.le_refl _)) (by omega) (by omega) q4 q5]
    simp only [Option.bind_some]
    rw [qSorts_waysOrPieces_17]
    have ek : tw (ld_w σ.1 (ld_n σ.1 h) (-1)) (lo : Int).toNat ((hi : Int) + 1 - ((lo : Int).toNat : Int)).toNat = tw (ld_w σ.1 (ld_n σ.1 h) (-1)) lo (hi + 1 - lo) := by
      rw [Int.toNat_natCast, show ((hi : Int) + 1 - (lo : Int)).toNat = hi + 1 - lo by omega]
    rw [ek]
    by_cases c : tw (ld_w σ.1 (ld_n σ.1 h) (-1)) lo (hi + 1 - lo) = 0
    · rw [if_pos (by omega)]
      exact ⟨-1, τ1, rfl, q2, fun _ => (if_pos c).symm, fun s e2 => absurd e e2⟩
    · rw [if_neg (by omega)]
      refine ⟨_, τ1, rfl, q2, fun _ => ?_, fun s e2 => absurd e e2⟩
      rw [if_neg c]
      show (if (1000000 : Int) < ((tw (ld_w σ.1 (ld_n σ.1 h) (-1)) lo (hi + 1 - lo) : Nat) : Int) then (1000000 : Int) else ((tw (ld_w σ.1 (ld_n σ.1 h) (-1)) lo (hi + 1 - lo) : Nat) : Int)) = _
      unfold sa
      by_cases c2 : 1000000 < tw (ld_w σ.1 (ld_n σ.1 h) (-1)) lo (hi + 1 - lo)
      · rw [if_pos c2, if_pos (by omega)]
      · rw [if_neg c2, if_neg (by omega)]
  · obtain ⟨w, hw2⟩ : ∃ w : Nat, wt = w := ⟨wt.toNat, by omega⟩
    subst hw2
    have ed : Int.tdiv (w : Int) 2 = ((w / 2 : Nat) : Int) := ntdiv w 2
    have hs1 : w / 2 < 6 := by omega
    have hs2 : ((w / 2 : Nat) : Int) < σ.1 305 6 := by omega
    rw [if_neg e, ed, xw_id (x := ((w / 2 : Nat) : Int)) (by omega) (by omega)]
    obtain ⟨τ1, q1, q2, q3, q4, q5⟩ := S_spread hP (hs := ld_n σ.1 h) hh ((w / 2 : Nat) : Int) (fun s t hs => ld_bd1 hP h _ s t hs) hτ hH
    rw [q1]
    simp only [Option.bind_some]
    rw [qSorts_waysOrPieces_48]
    by_cases ev : Int.tmod (w : Int) 2 = 0
    · rw [if_pos ev, qSorts_fewest_0]
      obtain ⟨v, p1, p2⟩ := S_fewest_3 hP (hs := ld_n σ.1 h) (s := w / 2) hh hl hs1 hs2 (hvz _).1 (hvz _).2 (ld_bd hP h _ (σ.1 305 6).toNat (Nat.le_refl _)) q2 q3 q4 q5 (ld_n σ.1 h (w / 2) + 1) 0 (by omega) (fun d hd => absurd hd (Nat.not_lt_zero d))
      have p1 : X iSorts_fewest 3 [(2, 201), (0, ((w / 2 : Nat) : Int)), (0, (lo : Int)), (0, (hi : Int)), (0, 0)] [] τ1 = some ((0, v), τ1) := p1
      rw [p1]
      simp only [Option.bind_some]
      rw [qSorts_waysOrPieces_62, qSorts_waysOrPieces_73]
      refine ⟨v, τ1, rfl, q2, fun e2 => absurd e2 e, fun s _ hs => ?_⟩
      have : s = w / 2 := by omega
      subst this
      rcases p2 with p2 | ⟨d, d1, d2, d3, d4⟩
      · exact Or.inl p2
      · exact Or.inr ⟨d, d1, d2, d3, fun _ => d4, fun q => absurd ev q⟩
    · have h207 := q3 (w / 2) (by omega)
      rw [if_neg ev, qSorts_greatest_0, if_pos (xin_of (by omega) (by omega)), Int.toNat_natCast, h207.1]
      obtain ⟨v, p1, p2⟩ := S_greatest_8 hP (hs := ld_n σ.1 h) (s := w / 2) hh hl hs1 hs2 (hvz _).1 (hvz _).2 (ld_bd hP h _ (σ.1 305 6).toNat (Nat.le_refl _)) q2 q3 q4 q5 (ld_n σ.1 h (w / 2) + 1) ((ld_n σ.1 h (w / 2) : Nat) : Int) (by omega) (Nat.le_refl _) (fun d d1 d2 => absurd d1 (by omega))
      rw [p1]
      simp only [Option.bind_some]
      rw [qSorts_waysOrPieces_73]
      refine ⟨v, τ1, rfl, q2, fun e2 => absurd e2 e, fun s _ hs => ?_⟩
      have : s = w / 2 := by omega
      subst this
      rcases p2 with p2 | ⟨d, d1, d2, d3, d4⟩
      · exact Or.inl p2
      · exact Or.inr ⟨d, d1, d2, d3, fun q => absurd q ev, fun _ => d4⟩
theorem M_load_w (hP : pJ σ.1) {h : Int} {lo hi : Nat} (hl : lo ≤ 9100) (hh : hi ≤ 9000) {wt : Int} (hw : -1 ≤ wt ∧ wt < 2 * σ.1 305 6) {τ : xS} (hτ : ag σ τ) (hH : ld_H (σ.1 305 6).toNat (ld_n σ.1 h) τ) (w1 : Int) (w2 w3 w4 w9 w10 : xAV) :
    ∃ v τ', X iM_load 89 [(2, 305), (0, w1), w2, w3, w4, (0, wt), (0, (lo : Int)), (0, (hi : Int)), (0, σ.1 305 6), w9, w10] [] τ = some ((0, v), τ') ∧ ag σ τ' ∧ ld_S σ.1 (ld_n σ.1 h) lo hi wt v := by
  have h6 := hP.1.2.1
  rw [qM_load_89, if_neg (by rw [hτ.sl (a := 305) (k := 6) rfl]; omega)]
  by_cases e : wt = -1
  · obtain ⟨τ1, q1, q2, q3, q4⟩ := M_sums hP (hs := ld_n σ.1 h) hh (-1) hτ hH
    rw [if_pos (by omega), q1]
    simp only [Option.bind_some]
    rw [qM_load_141]
    have := M_load_148 (f := ld_w σ.1 (ld_n σ.1 h) (-1)) (lo := lo) hh q4 (0, w1) w2 w3 w4 (0, wt) (0, (lo : Int)) w10 (hi + 1 - lo) 0 (by omega)
    refine ⟨_, τ1, this, q2, fun _ => rfl, fun s e2 => absurd e e2⟩
  · obtain ⟨w, hw2⟩ : ∃ w : Nat, wt = w := ⟨wt.toNat, by omega⟩
    subst hw2
    have ed : Int.tdiv (w : Int) 2 = ((w / 2 : Nat) : Int) := ntdiv w 2
    have hs1 : w / 2 < 6 := by omega
    have hs2 : ((w / 2 : Nat) : Int) < σ.1 305 6 := by omega
    rw [if_neg (by omega), ed, xw_id (x := ((w / 2 : Nat) : Int)) (by omega) (by omega)]
    obtain ⟨τ1, q1, q2, q3, q4⟩ := M_sums hP (hs := ld_n σ.1 h) hh ((w / 2 : Nat) : Int) hτ hH
    rw [q1]
    simp only [Option.bind_some]
    rw [qM_load_205]
    obtain ⟨v, p1, p2⟩ := M_load_211 hP (hs := ld_n σ.1 h) (s := w / 2) (lo := lo) (wt := (w : Int)) hh hl hs1 hs2 q2 q3 q4 (0, w1) w2 w3 w4 (ld_n σ.1 h (w / 2) + 1) 0 (-1) (by omega) (Or.inl ⟨rfl, fun d hd => absurd hd (Nat.not_lt_zero d)⟩)
    refine ⟨v, τ1, p1, q2, fun e2 => absurd e2 e, fun s _ hs => ?_⟩
    have : s = w / 2 := by omega
    subst this
    exact p2
theorem ld_lohi {w p q : Nat} (hw : w ≤ 9000) (hp : p ≤ q) (hq : q ≤ 200) : (w * 100 + 99 + q) / (100 + q) ≤ 9100 ∧ w * 100 / (100 + p) ≤ 9000 := by
  constructor
  · refine Nat.le_trans (Nat.div_le_div_left (show 100 ≤ 100 + q by omega) (by decide)) ?_
    omega
  · refine Nat.le_trans (Nat.div_le_div_left (show 100 ≤ 100 + p by omega) (by decide)) ?_
    omega
theorem xw_lod {w q : Nat} (hw : w ≤ 9000) (hq : q ≤ 200) : xw (Int.tdiv (xw (xw (xw ((w : Int) * 100) + 99) + q)) (xw (100 + q))) = (((w * 100 + 99 + q) / (100 + q) : Nat) : Int) := by
  have h1 := (ld_lohi hw (Nat.le_refl q) hq).1
  rw [xw_id (x := (w : Int) * 100) (by omega) (by omega), xw_id (x := (w : Int) * 100 + 99) (by omega) (by omega), xw_id (x := (w : Int) * 100 + 99 + q) (by omega) (by omega), xw_id (x := 100 + (q : Int)) (by omega) (by omega)]
  rw [show (w : Int) * 100 + 99 + q = ((w * 100 + 99 + q : Nat) : Int) by omega, show (100 : Int) + q = ((100 + q : Nat) : Int) by omega, ntdiv]
  generalize (w * 100 + 99 + q) / (100 + q) = z at h1 ⊢
  exact xw_id (by omega) (by omega)
theorem xw_hid {w p : Nat} (hw : w ≤ 9000) (hp : p ≤ 200) : xw (Int.tdiv (xw ((w : Int) * 100)) (xw (100 + p))) = ((w * 100 / (100 + p) : Nat) : Int) := by
  have h1 := (ld_lohi hw (Nat.le_refl p) hp).2
  rw [xw_id (x := (w : Int) * 100) (by omega) (by omega), xw_id (x := 100 + (p : Int)) (by omega) (by omega)]
  rw [show (w : Int) * 100 = ((w * 100 : Nat) : Int) by omega, show (100 : Int) + p = ((100 + p : Nat) : Int) by omega, ntdiv]
  generalize w * 100 / (100 + p) = z at h1 ⊢
  exact xw_id (by omega) (by omega)
theorem rd_load (hP : pJ σ.1) (a1 a2 a3 a4 a5 : Int) : rdOK σ iC_load [(2, 200), (0, a1), (0, a2), (0, a3), (0, a4), (0, a5), (9, 0), (9, 0), (9, 0)] iM_load [(2, 305), (0, a1), (0, a2), (0, a3), (0, a4), (0, a5), (9, 0), (9, 0), (9, 0), (9, 0), (9, 0)] := by
  have eh := hP.2.1.1.2.2.2.2
  have h11 := hP.2.1.2.1
  have es := hP.1.1.2.2.2.2.2
  have h6 := hP.1.2.1
  have q1 := qC_load_0 a1 a2 a3 a4 a5 σ
  rw [eh, es, xw_id (x := σ.1 305 11 - 1) (by omega) (by omega), xw_id (x := 2 * σ.1 305 6) (by omega) (by omega), xw_id (x := 2 * σ.1 305 6 - 1) (by omega) (by omega)] at q1
  by_cases hc : (0 ≤ a1 ∧ a1 < σ.1 305 11) ∧ (0 ≤ a2 ∧ a2 ≤ 9000) ∧ (0 ≤ a3 ∧ a3 ≤ a4 ∧ a4 ≤ 200) ∧ (-1 ≤ a5 ∧ a5 < 2 * σ.1 305 6)
  · obtain ⟨c1, c2, c3, c5⟩ := hc
    obtain ⟨w, e2⟩ : ∃ w : Nat, a2 = w := ⟨a2.toNat, by omega⟩
    obtain ⟨p, e3⟩ : ∃ p : Nat, a3 = p := ⟨a3.toNat, by omega⟩
    obtain ⟨q, e4⟩ : ∃ q : Nat, a4 = q := ⟨a4.toNat, by omega⟩
    subst e2 e3 e4
    have hw : w ≤ 9000 := by omega
    have hpq : p ≤ q := by omega
    have hq : q ≤ 200 := by omega
    have hp : p ≤ 200 := by omega
    have hlh := ld_lohi hw hpq hq
    have h1 : 0 ≤ a1 ∧ a1 < 8 := by omega
    rw [if_neg (by omega), if_neg (by omega), if_neg (by omega), if_neg (by omega), if_neg (by omega), if_neg (by omega), if_neg (by omega), if_neg (by omega), if_neg (by omega)] at q1
    obtain ⟨τ1, p1, p2, p3⟩ := C_load_79 hP h1 (w : Int) (p : Int) (q : Int) a5 (0, 1) (9, 0) (σ.1 305 6).toNat 0 σ (by omega) (ag_rf σ) (fun x hx => absurd hx (Nat.not_lt_zero x))
    have p1 : X iC_load 79 [(2, 200), (0, a1), (0, (w : Int)), (0, (p : Int)), (0, (q : Int)), (0, a5), (0, 1), (0, 0), (9, 0)] [] σ = _ := p1
    rw [p1, qC_load_79, if_neg (by rw [p2.sl (a := 201) (k := 5) rfl, es]; omega)] at q1
    have n1 : ¬ xw (100 + (q : Int)) = 0 := by rw [xw_id (by omega) (by omega)]; omega
    have n2 : ¬ xw (100 + (p : Int)) = 0 := by rw [xw_id (by omega) (by omega)]; omega
    rw [if_neg n1, if_neg n2, xw_lod hw hq, xw_hid hw hp] at q1
    obtain ⟨v, τ2, r1, r2, r3⟩ := C_load_w hP (h := a1) (lo := (w * 100 + 99 + q) / (100 + q)) (hi := w * 100 / (100 + p)) hlh.1 hlh.2 c5 p2 p3
    rw [r1] at q1
    simp only [Option.bind_some] at q1
    rw [qC_load_176] at q1
    have hP2 := pJ_ag r2 hP
    have q2 := qM_load_0 a1 (w : Int) (p : Int) (q : Int) a5 τ2
    rw [r2.sl (a := 305) (k := 11) rfl, r2.sl (a := 305) (k := 6) rfl, if_neg n1, if_neg n2, xw_lod hw hq, xw_hid hw hp] at q2
    clear n1 n2
    rw [xw_id (x := 2 * σ.1 305 6) (by omega) (by omega), if_neg (by omega), if_pos c1.2, if_neg (by omega), if_neg (by omega), if_neg (by omega), if_neg (by omega), if_neg (by omega), if_neg (by omega), if_pos c5.2] at q2
    obtain ⟨τ3, s1, s2, s3⟩ := M_load_89 hP h1 a5 (((w * 100 + 99 + q) / (100 + q) : Nat) : Int) ((w * 100 / (100 + p) : Nat) : Int) (0, (w : Int)) (0, (p : Int)) (0, (q : Int)) (9, 0) (9, 0) (σ.1 305 6).toNat 0 τ2 (by omega) r2 (fun x hx => absurd hx (Nat.not_lt_zero x))
    have s1 : X iM_load 89 [(2, 305), (0, a1), (0, (w : Int)), (0, (p : Int)), (0, (q : Int)), (0, a5), (0, (((w * 100 + 99 + q) / (100 + q) : Nat) : Int)), (0, ((w * 100 / (100 + p) : Nat) : Int)), (0, 0), (9, 0), (9, 0)] [] τ2 = _ := s1
    rw [s1] at q2
    obtain ⟨v', τ4, t1, t2, t3⟩ := M_load_w hP (h := a1) (lo := (w * 100 + 99 + q) / (100 + q)) (hi := w * 100 / (100 + p)) hlh.1 hlh.2 c5 s2 s3 a1 (0, (w : Int)) (0, (p : Int)) (0, (q : Int)) (9, 0) (9, 0)
    rw [t1] at q2
    have ev : v = v' := by
      refine ld_S_one (s := (a5.toNat / 2)) ?_ r3 t3
      by_cases e : a5 = -1
      · exact Or.inl e
      · refine Or.inr ?_
        have : a5 = ((a5.toNat : Nat) : Int) := by omega
        rw [this]
        exact ntdiv a5.toNat 2
    subst ev
    refine ⟨(0, v), τ2, τ4, q1, r2, q2, ?_⟩
    refine ⟨t2.1.trans r2.1.symm, fun a k hk => ?_⟩
    rw [tmp_2 r2.1] at hk
    rw [t2.2 a k hk, r2.2 a k hk]
  · refine rd_same (v := (0, -2)) ?_ ?_
    · rw [q1]
      repeat' (refine xite (fun _ => ?_) (fun _ => ?_))
      all_goals first | rfl | (exfalso; omega)
    · rw [qM_load_0, xw_id (x := 2 * σ.1 305 6) (by omega) (by omega)]
      repeat' (refine xite (fun _ => ?_) (fun _ => ?_))
      all_goals first | rfl | (exfalso; omega)
end LOADY

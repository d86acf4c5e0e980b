/-! the night: the reference's orders -/
section NIGHTO
variable {σ : xS}
def mbN (m : Nat → Nat → Int) (mx : Int → Int → Bool) (τ : xS) (b : (Int × Int) × List Nat) : Prop := τ.1 305 118 = b.1.1 ∧ τ.1 305 119 = b.1.2 ∧ (∀ i, i < b.2.length → τ.1 382 i = ((b.2.getD i 0 : Nat) : Int)) ∧ ∀ j, j ∈ b.2 → τ.1 384 j = (ng_p m mx b.2).2.2 j
theorem ag_381 {τ τ' : xS} (h : ag σ τ) (h2 : τ'.2 = τ.2) (h1 : ∀ a, a ≠ 381 → τ'.1 a = τ.1 a) : ag σ τ' :=
  ag_tr h ⟨h2, fun a k hk => by
    by_cases e : a = 381
    · subst e; cases hk
    · rw [h1 a e]⟩
theorem mbN_381 {mx : Int → Int → Bool} {τ τ' : xS} {b : (Int × Int) × List Nat} (h : mbN σ.1 mx τ b) (h1 : ∀ a, a ≠ 381 → τ'.1 a = τ.1 a) : mbN σ.1 mx τ' b :=
  ⟨by rw [h1 305 (by decide)]; exact h.1, by rw [h1 305 (by decide)]; exact h.2.1, fun i hi => by rw [h1 382 (by decide)]; exact h.2.2.1 i hi, fun j hj => by rw [h1 384 (by decide)]; exact h.2.2.2 j hj⟩
theorem mbN_wf {mx : Int → Int → Bool} {τ τ' : xS} {b : (Int × Int) × List Nat} (h : mbN σ.1 mx τ b) (h1 : wf τ τ') : mbN σ.1 mx τ' b :=
  ⟨by rw [h1.2.2 118 (by decide) (by decide)]; exact h.1, by rw [h1.2.2 119 (by decide) (by decide)]; exact h.2.1, fun i hi => by rw [h1.2.1 382 (by decide) (by decide) (by decide) (by decide) (by decide)]; exact h.2.2.1 i hi, fun j hj => by rw [h1.2.1 384 (by decide) (by decide) (by decide) (by decide) (by decide)]; exact h.2.2.2 j hj⟩
theorem M_night_129 {n : Nat} (hn7 : n ≤ 7) (hn : σ.1 305 107 = (n : Int)) {p : List Nat} (hpn : p.length = n) (v1 v3 : Int) (w2 : xAV) : ∀ (u j : Nat) (τ : xS), j + u = n → ag σ τ → od τ p → (∀ k, k < j → τ.1 382 k = ((p.getD k 0 : Nat) : Int) ∧ τ.1 384 k = τ.1 383 k) →
    ∃ τ', X iM_night 129 [(2, 305), (0, v1), w2, (0, v3), (0, (j : Int))] [] τ = ((X iM_follows 0 [(2, 305), (0, (n : Int)), (9, 0), (9, 0), (9, 0), (9, 0), (9, 0)] [] τ').bind fun q1 => X iM_night 180 [(2, 305), (0, v1), w2, (0, v3), (0, (n : Int))] [q1.1] q1.2) ∧ ag σ τ' ∧ (∀ a, a ≠ 382 → a ≠ 384 → τ'.1 a = τ.1 a) ∧ ∀ k, k < n → τ'.1 382 k = ((p.getD k 0 : Nat) : Int) ∧ τ'.1 384 k = τ'.1 383 k := by
  intro u
  induction u with
  | zero =>
    intro j τ hj hτ ho h
    have e7 : τ.1 305 107 = (n : Int) := by rw [hτ.sl (a := 305) (k := 107) rfl, hn]
    rw [qM_night_129, e7, if_neg (by omega), show j = n by omega]
    exact ⟨τ, rfl, hτ, fun _ _ _ => rfl, fun k hk => h k (by omega)⟩
  | succ u ih =>
    intro j τ hj hτ ho h
    have e7 : τ.1 305 107 = (n : Int) := by rw [hτ.sl (a := 305) (k := 107) rfl, hn]
    have x8 : xin (j : Int) 8 := ⟨by omega, by omega⟩
    have x7 : xin (j : Int) 7 := ⟨by omega, by omega⟩
    rw [qM_night_129, e7, if_pos (by omega), if_pos x8, if_pos x8, if_pos x7, if_pos x7, Int.toNat_natCast, xw_s (by omega)]
    obtain ⟨τ', q1, q2, q3, q4⟩ := ih (j + 1) (xs (xs τ 382 j (τ.1 381 j)) 384 j (τ.1 383 j)) (by omega) (ag_tr hτ (ag_tr (ag_sS rfl) (ag_sS rfl))) (fun i hi => by rw [xs_ne (by decide), xs_ne (by decide)]; exact ho i hi) (fun k hk => by
      rw [xs_ne (show 382 ≠ 384 by decide), xs_at, xs_at, xs_ne (show 384 ≠ 382 by decide), xs_ne (show 383 ≠ 384 by decide), xs_ne (show 383 ≠ 382 by decide), xup_at, xup_at]
      by_cases e : k = j
      · rw [if_pos e, if_pos e, e]
        exact ⟨ho j (by omega), rfl⟩
      · rw [if_neg e, if_neg e]
        exact h k (by omega))
    exact ⟨τ', q1, q2, fun a a1 a2 => by rw [q3 a a1 a2, xs_ne a2, xs_ne a1], q4⟩
/-- an order worked: kept if better -/
theorem M_nOne (hP : pJ σ.1) (h1 : 1 ≤ σ.1 305 102) {mx : Int → Int → Bool} {n : Nat} (hn : σ.1 305 107 = (n : Int)) {p : List Nat} (hpn : p.length = n) (hp : ∀ x ∈ p, x < n) {τ : xS} (hτ : ag σ τ) (ho : od τ p) (hm : ∀ a b : Int, 0 ≤ a ∧ a ≤ 3 → 0 ≤ b ∧ b ≤ 3 → (xna 4 (τ.1 388 (4 * a + b).toNat) = 0 ↔ mx a b = false)) (v1 v3 : Int) (w4 : xAV) {b : (Int × Int) × List Nat} (hb : (v3 = 0 ∧ b = b0) ∨ (v3 = 1 ∧ mbN σ.1 mx τ b)) :
    ∃ τ' w2' w4', X iM_night 63 [(2, 305), (0, v1), (0, 1), (0, v3), w4] [] τ = ((X iM_follows 0 [(2, 305), (0, (n : Int)), (9, 0), (9, 0), (9, 0), (9, 0), (9, 0)] [] τ').bind fun q1 => X iM_night 180 [(2, 305), (0, v1), w2', (0, 1), w4'] [q1.1] q1.2) ∧ ag σ τ' ∧ τ'.1 388 = τ.1 388 ∧ od τ' p ∧ mbN σ.1 mx τ' (if btr (ng_p σ.1 mx p).2.1 b.1 then ((ng_p σ.1 mx p).2.1, p) else b) := by
  have h107 := hP.2.2.2.2.2.2.1.2.2.2.2.1
  have hn7 : n ≤ 7 := by omega
  obtain ⟨τ1, q1, q2, q3, q4, q5, q6⟩ := M_works hP h1 hn hpn hp hτ ho hm
  obtain ⟨b1, b2, b3⟩ := ng_pb hP h1 mx (p := p) (fun x hx => by have := hp x hx; omega)
  have e7 : τ1.1 305 107 = (n : Int) := by rw [q3.sl (a := 305) (k := 107) rfl, hn]
  have e388 : τ1.1 388 = τ.1 388 := q2.2.1 388 (by decide) (by decide) (by decide) (by decide) (by decide)
  have ho1 := od_wf q2 ho
  have hb1 : (v3 = 0 ∧ b = b0) ∨ (v3 = 1 ∧ mbN σ.1 mx τ1 b) := hb.imp id fun h => ⟨h.1, mbN_wf h.2 q2⟩
  rw [qM_night_63, if_neg (by decide), q1]
  simp only [Option.bind_some]
  rw [qM_night_71, q4, q5, e7]
  have take : ∃ τ' w2' w4', X iM_night 129 [(2, 305), (0, v1), (xkl (0, 1)), (0, 1), (0, 0)] [] (xs (xs τ1 305 118 (ng_p σ.1 mx p).2.1.1) 305 119 (ng_p σ.1 mx p).2.1.2) = ((X iM_follows 0 [(2, 305), (0, (n : Int)), (9, 0), (9, 0), (9, 0), (9, 0), (9, 0)] [] τ').bind fun q1 => X iM_night 180 [(2, 305), (0, v1), w2', (0, 1), w4'] [q1.1] q1.2) ∧ ag σ τ' ∧ τ'.1 388 = τ.1 388 ∧ od τ' p ∧ mbN σ.1 mx τ' ((ng_p σ.1 mx p).2.1, p) := by
    obtain ⟨τ2, r1, r2, r3, r4⟩ := M_night_129 hn7 hn hpn v1 1 (xkl (0, 1)) n 0 (xs (xs τ1 305 118 (ng_p σ.1 mx p).2.1.1) 305 119 (ng_p σ.1 mx p).2.1.2) (by omega) (ag_tr q3 (ag_tr (ag_sS rfl) (ag_sS rfl))) (fun i hi => by rw [xs_ne (by decide), xs_ne (by decide)]; exact ho1 i hi) (fun k hk => absurd hk (Nat.not_lt_zero k))
    refine ⟨τ2, _, _, r1, r2, by rw [r3 388 (by decide) (by decide), xs_ne (by decide), xs_ne (by decide), e388], fun i hi => by rw [r3 381 (by decide) (by decide), xs_ne (by decide), xs_ne (by decide)]; exact ho1 i hi, by rw [r3 305 (by decide) (by decide), xs_at, xs_at, xup_ne (by decide), xup_eq], by rw [r3 305 (by decide) (by decide), xs_at, xup_eq], fun i hi => ?_, fun j hj => ?_⟩
    · have hi : i < p.length := hi
      exact (r4 i (by omega)).1
    · have hj : j ∈ p := hj
      rw [(r4 j (hp j hj)).2, r3 383 (by decide) (by decide), xs_ne (by decide), xs_ne (by decide)]
      exact q6 j hj
  clear b1 q1 q4 q5 q6
  rcases hb1 with ⟨hv, hb⟩ | ⟨hv, hb⟩
  · rw [if_pos hv, hb, if_pos (show btr (ng_p σ.1 mx p).2.1 b0.1 from Or.inl (by show (ng_p σ.1 mx p).2.1.1 < 1000000000; omega))]
    exact take
  · rw [if_neg (by omega), hb.1, hb.2.1, hv]
    by_cases c1 : (ng_p σ.1 mx p).2.1.1 < b.1.1
    · rw [if_pos c1, if_pos (show btr (ng_p σ.1 mx p).2.1 b.1 from Or.inl c1)]
      exact take
    · rw [if_neg c1]
      by_cases c2 : (ng_p σ.1 mx p).2.1.1 = b.1.1
      · rw [if_pos c2]
        by_cases c3 : (ng_p σ.1 mx p).2.1.2 < b.1.2
        · rw [if_pos c3, if_pos (show btr (ng_p σ.1 mx p).2.1 b.1 from Or.inr ⟨c2, c3⟩)]
          exact take
        · rw [if_neg c3, if_neg (show ¬ btr (ng_p σ.1 mx p).2.1 b.1 from fun q => q.elim c1 fun q => c3 q.2)]
          exact ⟨τ1, _, _, rfl, q3, e388, ho1, hb⟩
      · rw [if_neg c2, if_neg (show ¬ btr (ng_p σ.1 mx p).2.1 b.1 from fun q => q.elim c1 fun q => c2 q.1)]
        exact ⟨τ1, _, _, rfl, q3, e388, ho1, hb⟩
theorem M_nOrders (hP : pJ σ.1) (h1 : 1 ≤ σ.1 305 102) {mx : Int → Int → Bool} {n : Nat} (hn : σ.1 305 107 = (n : Int)) (v1 : Int) : ∀ (L : List (List Nat)) (p : List Nat) (v3 : Int) (w4 : xAV) (τ : xS) (b : (Int × Int) × List Nat), chq nx (p :: L) none → (∀ q ∈ p :: L, q.length = n ∧ (∀ x ∈ q, x < n) ∧ nodup q) → ag σ τ → od τ p → (∀ a b : Int, 0 ≤ a ∧ a ≤ 3 → 0 ≤ b ∧ b ≤ 3 → (xna 4 (τ.1 388 (4 * a + b).toNat) = 0 ↔ mx a b = false)) → ((v3 = 0 ∧ b = b0) ∨ (v3 = 1 ∧ mbN σ.1 mx τ b)) →
    ∃ τ' w4', X iM_night 63 [(2, 305), (0, v1), (0, 1), (0, v3), w4] [] τ = X iM_night 63 [(2, 305), (0, v1), (0, 0), (0, 1), w4'] [] τ' ∧ ag σ τ' ∧ mbN σ.1 mx τ' (bst (fun q => (ng_p σ.1 mx q).2.1) b (p :: L)) := by
  have h107 := hP.2.2.2.2.2.2.1.2.2.2.2.1
  intro L
  induction L with
  | nil =>
    intro p v3 w4 τ b hc hL hτ ho hm hb
    obtain ⟨l1, l2, l3⟩ := hL p List.mem_cons_self
    obtain ⟨τ1, a2, a4, q1, q2, q3, q4, q5⟩ := M_nOne hP h1 hn l1 l2 hτ ho hm v1 v3 w4 hb
    obtain ⟨τ2, r1, r2, r3⟩ := M_follows l1 (by omega) l3 q4
    have hc : nx p = none := hc
    rcases r3 with ⟨q, s1, _⟩ | ⟨_, s2, _⟩
    · rw [hc] at s1; cases s1
    · rw [q1, s2]
      simp only [Option.bind_some]
      rw [qM_night_180]
      exact ⟨τ2, _, rfl, ag_381 q2 r1 r2, mbN_381 q5 r2⟩
  | cons q L ih =>
    intro p v3 w4 τ b hc hL hτ ho hm hb
    obtain ⟨l1, l2, l3⟩ := hL p List.mem_cons_self
    obtain ⟨τ1, a2, a4, q1, q2, q3, q4, q5⟩ := M_nOne hP h1 hn l1 l2 hτ ho hm v1 v3 w4 hb
    obtain ⟨τ2, r1, r2, r3⟩ := M_follows l1 (by omega) l3 q4
    have hc : nx p = some q ∧ chq nx (q :: L) none := hc
    rcases r3 with ⟨q', s1, s2, s3, _⟩ | ⟨s1, _⟩
    · rw [hc.1] at s1
      have e : q = q' := Option.some.inj s1
      subst e
      rw [q1, s2]
      simp only [Option.bind_some]
      rw [qM_night_180]
      exact ih q 1 a4 τ2 _ hc.2 (fun x hx => hL x (List.mem_cons_of_mem _ hx)) (ag_381 q2 r1 r2) s3 (fun x y hx hy => by rw [r2 388 (by decide), q3]; exact hm x y hx hy) (Or.inr ⟨rfl, mbN_381 q5 r2⟩)
    · rw [hc.1] at s1; cases s1
end NIGHTO

/-! the night: the reference's works; its orders -/
section NIGHTW
variable {σ : xS}
theorem M_works_2 : ∀ (u i : Nat) (w2 w3 w4 w5 w6 : xAV) (τ : xS), i + u = 3 → ag σ τ → (∀ w : Nat, w < i → τ.1 385 w = 0 ∧ τ.1 386 w = -1 ∧ τ.1 387 w = 0) →
    ∃ τ', X iM_works 2 [(2, 305), (0, (i : Int)), w2, w3, w4, w5, w6] [] τ = X iM_works 46 [(2, 305), (0, 0), w2, w3, w4, w5, w6] [] τ' ∧ wf τ τ' ∧ ag σ τ' ∧ (∀ w : Nat, w < 3 → τ'.1 385 w = 0 ∧ τ'.1 386 w = -1 ∧ τ'.1 387 w = 0) ∧ τ'.1 305 116 = 0 ∧ τ'.1 305 117 = 0 := by
  intro u
  induction u with
  | zero =>
    intro i w2 w3 w4 w5 w6 τ hi hτ h
    rw [qM_works_2, if_neg (by omega)]
    refine ⟨_, rfl, ⟨rfl, fun a _ _ _ _ a5 => by rw [xs_ne a5, xs_ne a5], fun k k1 k2 => by rw [xs_at, xs_at, xup_ne k2, xup_ne k1]⟩, ag_tr hτ (ag_tr (ag_sS rfl) (ag_sS rfl)), fun w hw => ?_, by rw [xs_at, xs_at, xup_ne (by decide), xup_eq], by rw [xs_at, xup_eq]⟩
    rw [xs_ne (by decide), xs_ne (by decide), xs_ne (by decide), xs_ne (by decide), xs_ne (by decide), xs_ne (by decide)]
    exact h w (by omega)
  | succ u ih =>
    intro i w2 w3 w4 w5 w6 τ hi hτ h
    have hx : xin (i : Int) 3 := ⟨by omega, by omega⟩
    rw [qM_works_2, if_pos (by omega), if_pos hx, if_pos hx, if_pos hx, Int.toNat_natCast, xw_s (by omega)]
    obtain ⟨τ', q1, q2, q3⟩ := ih (i + 1) w2 w3 w4 w5 w6 (xs (xs (xs τ 385 i 0) 386 i (-1)) 387 i 0) (by omega) (ag_tr hτ (ag_tr (ag_tr (ag_sS rfl) (ag_sS rfl)) (ag_sS rfl))) (fun w hw => by
      rw [xs_ne (by decide), xs_ne (by decide), xs_at, xs_ne (by decide), xs_at, xs_ne (by decide), xs_at, xs_ne (by decide), xs_ne (by decide), xup_at, xup_at, xup_at]
      by_cases e : w = i
      · rw [if_pos e, if_pos e, if_pos e]
        exact ⟨rfl, rfl, rfl⟩
      · rw [if_neg e, if_neg e, if_neg e]
        exact h w (by omega))
    have hw0 : wf τ (xs (xs (xs τ 385 i 0) 386 i (-1)) 387 i 0) := ⟨rfl, fun a a1 a2 a3 a4 a5 => by rw [xs_ne a4, xs_ne a3, xs_ne a2], fun k k1 k2 => by rw [xs_ne (by decide), xs_ne (by decide), xs_ne (by decide)]⟩
    exact ⟨τ', q1, wf_tr hw0 q2, q3⟩
theorem od_wf {τ τ' : xS} {p : List Nat} (h : wf τ τ') (ho : od τ p) : od τ' p := fun i hi => by rw [h.2.1 381 (by decide) (by decide) (by decide) (by decide) (by decide)]; exact ho i hi
theorem M_works_46 (hP : pJ σ.1) (h1 : 1 ≤ σ.1 305 102) {mx : Int → Int → Bool} {n : Nat} (hn : σ.1 305 107 = (n : Int)) {p : List Nat} (hpn : p.length = n) (hp : ∀ x ∈ p, x < n) : ∀ (u j : Nat) (w2 w3 w4 w5 w6 : xAV) (τ : xS), j + u = n → ag σ τ → od τ p → nsM mx (ng_p σ.1 mx (p.take j)).1 τ → τ.1 305 116 = (ng_p σ.1 mx (p.take j)).2.1.1 → τ.1 305 117 = (ng_p σ.1 mx (p.take j)).2.1.2 → (∀ x ∈ p.take j, τ.1 383 x = (ng_p σ.1 mx (p.take j)).2.2 x) →
    ∃ τ', X iM_works 46 [(2, 305), (0, (j : Int)), w2, w3, w4, w5, w6] [] τ = some ((9, 0), τ') ∧ wf τ τ' ∧ ag σ τ' ∧ τ'.1 305 116 = (ng_p σ.1 mx p).2.1.1 ∧ τ'.1 305 117 = (ng_p σ.1 mx p).2.1.2 ∧ ∀ x ∈ p, τ'.1 383 x = (ng_p σ.1 mx p).2.2 x := by
  have h107 := hP.2.2.2.2.2.2.1.2.2.2.2.1
  intro u
  induction u with
  | zero =>
    intro j w2 w3 w4 w5 w6 τ hj hτ ho hs ha hb hd
    have e : p.take j = p := List.take_of_length_le (by omega)
    rw [e] at ha hb hd
    rw [qM_works_46, if_neg (by rw [hτ.sl (a := 305) (k := 107) rfl]; omega)]
    exact ⟨τ, rfl, ⟨rfl, fun _ _ _ _ _ _ => rfl, fun _ _ _ => rfl⟩, hτ, ha, hb, hd⟩
  | succ u ih =>
    intro j w2 w3 w4 w5 w6 τ hj hτ ho hs ha hb hd
    have hpj := hp _ (getD_mem (l := p) (i := j) (by omega))
    have htN : ∀ x ∈ p.take j, (x : Int) < σ.1 305 107 := fun x hx => by
      have := hp x (List.mem_of_mem_take hx)
      omega
    have hlt : (p.take j).length ≤ 7 := by rw [List.length_take]; omega
    obtain ⟨b1, b2, b3⟩ := ng_pb hP h1 mx htN
    obtain ⟨τ', a2, a3, a4, a5, a6, q1, q2, q3, q4, q5, q6, q7⟩ := M_job hP h1 (mx := mx) (S := ng_p σ.1 mx (p.take j)) (B := 2410000 * ((p.take j).length : Int)) (by omega) b1 hτ hs ha hb (by omega) (h := p.getD j 0) (j := j) (by omega) (by omega) (ho j (by omega)) w2 w3 w4 w5 w6
    rw [← ng_snoc, ← take_snoc (by omega)] at q4 q5 q6
    obtain ⟨τ2, r1, r2, r3⟩ := ih (j + 1) a2 a3 a4 a5 a6 τ' (by omega) q3 (od_wf q2 ho) q4 q5 q6 (fun x hx => by
      rw [take_snoc (by omega)] at hx
      rw [take_snoc (by omega), ng_snoc, q7]
      show _ = xup _ _ _ x
      rw [xup_at, xup_at]
      by_cases e : x = p.getD j 0
      · rw [if_pos e, if_pos e]
      · rw [if_neg e, if_neg e]
        rcases List.mem_append.mp hx with q | q
        · exact hd x q
        · exact absurd (List.mem_singleton.mp q) e)
    exact ⟨τ2, by rw [q1, r1], wf_tr q2 r2, r3⟩
theorem M_works (hP : pJ σ.1) (h1 : 1 ≤ σ.1 305 102) {mx : Int → Int → Bool} {n : Nat} (hn : σ.1 305 107 = (n : Int)) {p : List Nat} (hpn : p.length = n) (hp : ∀ x ∈ p, x < n) {τ : xS} (hτ : ag σ τ) (ho : od τ p) (hm : ∀ a b : Int, 0 ≤ a ∧ a ≤ 3 → 0 ≤ b ∧ b ≤ 3 → (xna 4 (τ.1 388 (4 * a + b).toNat) = 0 ↔ mx a b = false)) :
    ∃ τ', X iM_works 0 [(2, 305), (9, 0), (9, 0), (9, 0), (9, 0), (9, 0), (9, 0)] [] τ = some ((9, 0), τ') ∧ wf τ τ' ∧ ag σ τ' ∧ τ'.1 305 116 = (ng_p σ.1 mx p).2.1.1 ∧ τ'.1 305 117 = (ng_p σ.1 mx p).2.1.2 ∧ ∀ x ∈ p, τ'.1 383 x = (ng_p σ.1 mx p).2.2 x := by
  obtain ⟨τ1, q1, q2, q3, q4, q5, q6⟩ := M_works_2 (σ := σ) 3 0 (9, 0) (9, 0) (9, 0) (9, 0) (9, 0) τ (by omega) hτ (fun w hw => absurd hw (Nat.not_lt_zero w))
  have q1 : X iM_works 2 [(2, 305), (0, 0), (9, 0), (9, 0), (9, 0), (9, 0), (9, 0)] [] τ = X iM_works 46 [(2, 305), (0, 0), (9, 0), (9, 0), (9, 0), (9, 0), (9, 0)] [] τ1 := q1
  obtain ⟨τ2, r1, r2, r3⟩ := M_works_46 hP h1 (mx := mx) hn hpn hp n 0 (9, 0) (9, 0) (9, 0) (9, 0) (9, 0) τ1 (by omega) q3 (od_wf q2 ho) ⟨fun w hw => q4 w hw, fun a b ha hb => by rw [q2.2.1 388 (by decide) (by decide) (by decide) (by decide) (by decide)]; exact hm a b ha hb⟩ q5 q6 (fun x hx => absurd hx List.not_mem_nil)
  have r1 : X iM_works 46 [(2, 305), (0, 0), (9, 0), (9, 0), (9, 0), (9, 0), (9, 0)] [] τ1 = some ((9, 0), τ2) := r1
  refine ⟨τ2, ?_, wf_tr q2 r2, r3⟩
  rw [qM_works_0, q1, r1]
end NIGHTW

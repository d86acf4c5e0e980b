/-! buying: the class chooses -/
def by_e (v : Int) : Int := if v < 0 then 1000000000 else v
def by_c1 (P C K t later : Int) (n : Nat) : Int := if t + P * (n : Int) < 0 then -1 else if later < 0 then -1 else later + C * (n : Int) + K * (t + P * (n : Int))
section BUYC
variable {σ : xS}
theorem C_choose_13 {P C K t : Int} {dy b : Nat} (hd : dy < 10) (hb : b + 5 ≤ 50) (hP : 1 ≤ P ∧ P ≤ 20) (hC : 0 ≤ C ∧ C ≤ 1000) (hK : 0 ≤ K ∧ K ≤ 100) (ht : -1000000 ≤ t ∧ t ≤ 1200) {later : Nat → Int} (hl : ∀ n, n < 6 → -1 ≤ later n ∧ later n ≤ 2000000) :
    ∀ (u k : Nat) (w5 w6 : xAV) (τ : xS), k + u = 6 → ag σ τ → τ.1 272 0 = P → τ.1 272 1 = C → τ.1 272 2 = K → (∀ n, n < 6 → τ.1 (275 + (dy + 1)) (b + n) = by_e (later n)) → τ.1 (275 + dy) b = by_e (by_g (fun n => by_c1 P C K t (later n) n) k).1 → (0 ≤ (by_g (fun n => by_c1 P C K t (later n) n) k).1 → τ.1 (287 + dy) b = ((by_g (fun n => by_c1 P C K t (later n) n) k).2 : Int)) →
    ∃ τ', X iSupply_choose 13 [(2, 272), (0, (dy : Int)), (0, (b : Int)), (0, t), (0, (k : Int)), w5, w6] [] τ = some ((9, 0), τ') ∧ ag σ τ' ∧ (∀ a i, ¬ (a = 275 + dy ∧ i = b) → ¬ (a = 287 + dy ∧ i = b) → τ'.1 a i = τ.1 a i) ∧ τ'.1 (275 + dy) b = by_e (by_g (fun n => by_c1 P C K t (later n) n) 6).1 ∧ (0 ≤ (by_g (fun n => by_c1 P C K t (later n) n) 6).1 → τ'.1 (287 + dy) b = ((by_g (fun n => by_c1 P C K t (later n) n) 6).2 : Int)) := by
  intro u
  induction u with
  | zero =>
    intro k w5 w6 τ hk hτ h0 h1 h2 hL hv hn
    rw [qSupply_choose_13, if_pos (by omega)]
    rw [show k = 6 by omega] at hv hn
    exact ⟨τ, rfl, hτ, fun _ _ _ _ => rfl, hv, hn⟩
  | succ u ih =>
    intro k w5 w6 τ hk hτ h0 h1 h2 hL hv hn
    obtain ⟨r1, r2, r3, r4, r5⟩ := by_row (σ := τ) (a := dy + 1) (by omega)
    obtain ⟨s1, s2, s3, s4, s5⟩ := by_row (σ := τ) (a := dy) (by omega)
    have eS : by_g (fun n => by_c1 P C K t (later n) n) (k + 1) = if by_c1 P C K t (later k) k < 0 then by_g (fun n => by_c1 P C K t (later n) n) k else if (by_g (fun n => by_c1 P C K t (later n) n) k).1 < 0 then (by_c1 P C K t (later k) k, k) else if by_c1 P C K t (later k) k < (by_g (fun n => by_c1 P C K t (later n) n) k).1 then (by_c1 P C K t (later k) k, k) else by_g (fun n => by_c1 P C K t (later n) n) k := rfl
    have hk5 := hl k (by omega)
    have hLk := hL k (by omega)
    have p1 : 0 ≤ P * (k : Int) ∧ P * (k : Int) ≤ 100 := ⟨Int.mul_nonneg (by omega) (by omega), by
      have : P * (k : Int) ≤ 20 * 5 := Int.mul_le_mul hP.2 (by omega) (by omega) (by decide)
      omega⟩
    have p2 : 0 ≤ C * (k : Int) ∧ C * (k : Int) ≤ 5000 := ⟨Int.mul_nonneg (by omega) (by omega), by
      have : C * (k : Int) ≤ 1000 * 5 := Int.mul_le_mul hC.2 (by omega) (by omega) (by decide)
      omega⟩
    have p3 : 0 ≤ t + P * (k : Int) → 0 ≤ K * (t + P * (k : Int)) ∧ K * (t + P * (k : Int)) ≤ 130000 := fun h => ⟨Int.mul_nonneg hK.1 h, by
      have : K * (t + P * (k : Int)) ≤ 100 * 1300 := Int.mul_le_mul hK.2 (by omega) h (by decide)
      omega⟩
    have e1 : xw ((dy : Int) + 1) = ((dy + 1 : Nat) : Int) := by rw [xw_s (by omega)]; rfl
    have e2 : xw ((b : Int) + (k : Int)) = ((b + k : Nat) : Int) := by rw [← Int.natCast_add, xw_id (by omega) (by omega)]
    have e3 : xw (t + xw ((k : Int) * P)) = t + P * (k : Int) := by
      rw [Int.mul_comm, xw_id (x := P * (k : Int)) (by omega) (by omega), xw_id (by omega) (by omega)]
    have e4 : xw ((k : Int) + 1) = ((k + 1 : Nat) : Int) := by rw [xw_s (by omega)]; rfl
    have hc : by_c1 P C K t (later k) k = if t + P * (k : Int) < 0 then -1 else if later k < 0 then -1 else later k + C * (k : Int) + K * (t + P * (k : Int)) := rfl
    rw [qSupply_choose_13, if_neg (by clear e1 e2 e3 e4; omega), e1, if_pos (by clear e1 e2 e3 e4; exact xin_of (by omega) (by omega)), Int.toNat_natCast, r1, r2, xob_some, e2, if_pos (by clear e1 e2 e3 e4; exact xin_of (by omega) (by omega)), Int.toNat_natCast, h0, e3, e4, r5, hLk]
    clear e1 e2
    have keep : by_c1 P C K t (later k) k < 0 → ∀ w5 w6, ∃ τ', X iSupply_choose 13 [(2, 272), (0, (dy : Int)), (0, (b : Int)), (0, t), (0, ((k + 1 : Nat) : Int)), w5, w6] [] τ = some ((9, 0), τ') ∧ ag σ τ' ∧ (∀ a i, ¬ (a = 275 + dy ∧ i = b) → ¬ (a = 287 + dy ∧ i = b) → τ'.1 a i = τ.1 a i) ∧ τ'.1 (275 + dy) b = by_e (by_g (fun n => by_c1 P C K t (later n) n) 6).1 ∧ (0 ≤ (by_g (fun n => by_c1 P C K t (later n) n) 6).1 → τ'.1 (287 + dy) b = ((by_g (fun n => by_c1 P C K t (later n) n) 6).2 : Int)) := by
      intro c w5 w6
      rw [if_pos c] at eS
      exact ih (k + 1) w5 w6 τ (by omega) hτ h0 h1 h2 hL (by rw [eS]; exact hv) (by rw [eS]; exact hn)
    by_cases c1 : t + P * (k : Int) < 0
    · rw [if_pos c1]
      exact keep (by rw [hc, if_pos c1]; decide) _ _
    · rw [if_neg c1]
      by_cases c2 : later k < 0
      · rw [if_neg (by unfold by_e; rw [if_pos c2]; omega)]
        exact keep (by rw [hc, if_neg c1, if_pos c2]; decide) _ _
      · have p4 := p3 (by omega)
        have eL : by_e (later k) = later k := if_neg c2
        have hcv : by_c1 P C K t (later k) k = later k + C * (k : Int) + K * (t + P * (k : Int)) := by rw [hc, if_neg c1, if_neg c2]
        have e5 : xw (xw (xw ((k : Int) * C) + xw ((t + P * (k : Int)) * K)) + later k) = by_c1 P C K t (later k) k := by
          rw [hcv, Int.mul_comm (k : Int) C, Int.mul_comm (t + P * (k : Int)) K, xw_id (x := C * (k : Int)) (by omega) (by omega), xw_id (x := K * (t + P * (k : Int))) (by omega) (by omega), xw_id (x := C * (k : Int) + K * (t + P * (k : Int))) (by omega) (by omega), xw_id (by omega) (by omega)]
          omega
        have hcb : 0 ≤ by_c1 P C K t (later k) k ∧ by_c1 P C K t (later k) k < 1000000000 := by rw [hcv]; clear e3 e4 e5; omega
        rw [if_pos (by rw [eL]; clear e3 e4 e5; omega), if_pos (by clear e3 e4 e5; exact xin_of (by omega) (by omega)), Int.toNat_natCast, s1, s2, xob_some, if_pos (by clear e3 e4 e5; exact xin_of (by omega) (by omega)), h1, h2, eL, e5, Int.toNat_natCast, s5, hv]
        clear e3 e4 e5 hcv hc
        generalize by_c1 P C K t (later k) k = cv at *
        rw [if_neg (by omega)] at eS
        have hcond : cv < by_e (by_g (fun n => by_c1 P C K t (later n) n) k).1 ↔ ((by_g (fun n => by_c1 P C K t (later n) n) k).1 < 0 ∨ cv < (by_g (fun n => by_c1 P C K t (later n) n) k).1) := by
          unfold by_e
          split <;> omega
        by_cases c3 : (by_g (fun n => by_c1 P C K t (later n) n) k).1 < 0 ∨ cv < (by_g (fun n => by_c1 P C K t (later n) n) k).1
        · have eS2 : by_g (fun n => by_c1 P C K t (later n) n) (k + 1) = (cv, k) := by
            rw [eS]
            by_cases c4 : (by_g (fun n => by_c1 P C K t (later n) n) k).1 < 0
            · rw [if_pos c4]
            · rw [if_neg c4, if_pos (by omega)]
          obtain ⟨l1, l2, l3, l4⟩ := by_lot (σ := xs τ (275 + dy) b cv) (a := dy) (by omega)
          rw [if_pos (hcond.mpr c3), if_pos (xin_of (by omega) (by omega)), xob_some, if_pos (xin_of (by omega) (by omega)), s4, xob_some, if_pos (xin_of (by omega) (by omega)), l1, l2, xob_some, if_pos (xin_of (by omega) (by omega)), l3, xob_some]
          have t1 : tmS (275 + dy) b = true := by
            have : dy = 0 ∨ dy = 1 ∨ dy = 2 ∨ dy = 3 ∨ dy = 4 ∨ dy = 5 ∨ dy = 6 ∨ dy = 7 ∨ dy = 8 ∨ dy = 9 := by omega
            rcases this with rfl | rfl | rfl | rfl | rfl | rfl | rfl | rfl | rfl | rfl <;> rfl
          have t2 : tmS (287 + dy) b = true := by
            have : dy = 0 ∨ dy = 1 ∨ dy = 2 ∨ dy = 3 ∨ dy = 4 ∨ dy = 5 ∨ dy = 6 ∨ dy = 7 ∨ dy = 8 ∨ dy = 9 := by omega
            rcases this with rfl | rfl | rfl | rfl | rfl | rfl | rfl | rfl | rfl | rfl <;> rfl
          obtain ⟨τ', q1, q2, q3, q4⟩ := ih (k + 1) _ _ (xs (xs τ (275 + dy) b cv) (287 + dy) b (k : Int)) (by omega) (ag_tr hτ (ag_tr (ag_sS t1) (ag_sS t2))) (by rw [xs_ne (by omega), xs_ne (by omega)]; exact h0) (by rw [xs_ne (by omega), xs_ne (by omega)]; exact h1) (by rw [xs_ne (by omega), xs_ne (by omega)]; exact h2) (fun n hn => by rw [xs_ne (by omega), xs_ne (by omega)]; exact hL n hn) (by
            rw [eS2, xs_ne (by omega), xs_at, xup_eq]
            show cv = by_e cv
            unfold by_e
            rw [if_neg (by omega)]) (by
            rw [eS2, xs_at, xup_eq]
            intro _
            rfl)
          refine ⟨τ', q1, q2, fun a i a1 a2 => ?_, q4⟩
          rw [q3 a i a1 a2]
          by_cases z1 : a = 287 + dy
          · subst z1
            rw [xs_at, xup_ne (fun z2 => a2 ⟨rfl, z2⟩), xs_ne (by omega)]
          · rw [xs_ne z1]
            by_cases z2 : a = 275 + dy
            · subst z2
              rw [xs_at, xup_ne (fun z3 => a1 ⟨rfl, z3⟩)]
            · rw [xs_ne z2]
        · have eS2 : by_g (fun n => by_c1 P C K t (later n) n) (k + 1) = by_g (fun n => by_c1 P C K t (later n) n) k := by
            rw [eS, if_neg (by omega), if_neg (by omega)]
          rw [if_neg (fun h => c3 (hcond.mp h))]
          exact ih (k + 1) _ _ τ (by omega) hτ h0 h1 h2 hL (by rw [eS2]; exact hv) (by rw [eS2]; exact hn)
end BUYC

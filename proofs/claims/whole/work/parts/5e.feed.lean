/-! feed -/
theorem and255 (x : Int) : xiand x 255 = x % 256 := by
  have e : (Int32.ofInt x &&& Int32.ofInt 255).toBitVec = BitVec.ofInt 32 x &&& BitVec.ofNat 32 255 := rfl
  have n : (BitVec.ofInt 32 x &&& BitVec.ofNat 32 255).toNat = (x % 4294967296).toNat % 256 := by
    rw [BitVec.toNat_and, BitVec.toNat_ofInt]
    exact Nat.and_two_pow_sub_one_eq_mod _ 8
  show (Int32.ofInt x &&& Int32.ofInt 255).toBitVec.toInt = _
  rw [e, BitVec.toInt_eq_toNat_of_lt (by rw [n]; omega), n]
  omega
section FEED
variable {σ : xS}
/-- the n-th byte of five words, ahead of cutting -/
def fdw (a1 a2 a3 a4 a5 : Int) (k : Nat) : Int := xshr (if k < 4 then a1 else if k < 8 then a2 else if k < 12 then a3 else if k < 16 then a4 else a5) (24 - 8 * ((k % 4 : Nat) : Int))
/-- bytes written from s on -/
def fdS (σ τ : xS) (s n : Nat) (f : Nat → Int) : Prop := τ.2 = σ.2 ∧ (∀ a, a ≠ 304 → a ≠ 200 → τ.1 a = σ.1 a) ∧ (∀ k, k ≠ 9 → τ.1 200 k = σ.1 200 k) ∧ τ.1 200 9 = ((s + n : Nat) : Int) ∧ ∀ i, τ.1 304 i = if s ≤ i ∧ i < s + n then f (i - s) else σ.1 304 i
theorem C_feedNumber_3 {s n : Nat} {f : Nat → Int} {a : Int} (hs : s + n + 4 ≤ 400) (hf : ∀ j, j < 4 → f (n + j) = xshr a (24 - 8 * (j : Int)) % 256) : ∀ (u j : Nat) (w : Int) (τ : xS), j + u = 4 → w = 24 - 8 * (j : Int) → fdS σ τ s (n + j) f →
    ∃ τ', X iC_feedNumber 3 [(2, 200), (0, a), (0, w)] [] τ = some ((9, 0), τ') ∧ fdS σ τ' s (n + 4) f := by
  intro u
  induction u with
  | zero =>
    intro j w τ hj hw hτ
    rw [qC_feedNumber_3, if_pos (by omega)]
    exact ⟨τ, rfl, by rw [show n + 4 = n + j by omega]; exact hτ⟩
  | succ u ih =>
    intro j w τ hj hw hτ
    obtain ⟨h1, h2, h3, h4, h5⟩ := hτ
    rw [qC_feedNumber_3, if_neg (by omega), h4, if_pos (xin_of (by omega) (by omega)), Int.toNat_natCast, and255, xw_id (x := w + (-8)) (by omega) (by omega), xw_s (by omega)]
    have hv : xna 3 (xna 3 (xshr a w % 256)) = f (n + j) := by
      rw [hf j (by omega), ← hw]
      show xshr a w % 256 % 65536 % 65536 = _
      omega
    rw [hv]
    refine ih (j + 1) _ _ (by omega) (by omega) ⟨h1, fun b b1 b2 => by rw [xs_ne b2, xs_ne b1]; exact h2 b b1 b2, fun k hk => by rw [xs_at, xup_ne hk, xs_ne (by decide)]; exact h3 k hk, ?_, fun i => ?_⟩
    · rw [xs_at, xup_eq]
      omega
    · rw [xs_ne (by decide), xs_at, xup_at, h5]
      by_cases e : i = s + (n + j)
      · rw [if_pos e, if_pos (by omega), show i - s = n + j by omega]
      · rw [if_neg e]
        by_cases c : s ≤ i ∧ i < s + (n + j)
        · rw [if_pos c, if_pos (by omega)]
        · rw [if_neg c, if_neg (by omega)]
theorem C_feedNumber {s n : Nat} {f : Nat → Int} {a : Int} (hs : s + n + 4 ≤ 400) (hf : ∀ j, j < 4 → f (n + j) = xshr a (24 - 8 * (j : Int)) % 256) {τ : xS} (hτ : fdS σ τ s n f) :
    ∃ τ', X iC_feedNumber 0 [(2, 200), (0, a), (9, 0)] [] τ = some ((9, 0), τ') ∧ fdS σ τ' s (n + 4) f := by
  rw [qC_feedNumber_0]
  exact C_feedNumber_3 hs hf 4 0 24 τ (by omega) (by omega) hτ
theorem fdw_at (a1 a2 a3 a4 a5 : Int) {q j : Nat} (hj : j < 4) : fdw a1 a2 a3 a4 a5 (4 * q + j) = xshr (if q < 1 then a1 else if q < 2 then a2 else if q < 3 then a3 else if q < 4 then a4 else a5) (24 - 8 * (j : Int)) := by
  unfold fdw
  rw [show (4 * q + j) % 4 = j by omega]
  congr 1
  by_cases c1 : q < 1
  · rw [if_pos c1, if_pos (by omega)]
  · rw [if_neg c1, if_neg (by omega)]
    by_cases c2 : q < 2
    · rw [if_pos c2, if_pos (by omega)]
    · rw [if_neg c2, if_neg (by omega)]
      by_cases c3 : q < 3
      · rw [if_pos c3, if_pos (by omega)]
      · rw [if_neg c3, if_neg (by omega)]
        by_cases c4 : q < 4
        · rw [if_pos c4, if_pos (by omega)]
        · rw [if_neg c4, if_neg (by omega)]
theorem C_feed {s : Nat} (hs : s + 20 ≤ 400) (h9 : σ.1 200 9 = (s : Int)) (a1 a2 a3 a4 a5 : Int) : ∃ τ', X iC_feed 0 [(2, 200), (0, a1), (0, a2), (0, a3), (0, a4), (0, a5)] [] σ = some ((0, ((s + 20 : Nat) : Int)), τ') ∧ fdS σ τ' s 20 (fun k => fdw a1 a2 a3 a4 a5 k % 256) := by
  have t0 : fdS σ σ s 0 (fun k => fdw a1 a2 a3 a4 a5 k % 256) := ⟨rfl, fun _ _ _ => rfl, fun _ _ => rfl, h9, fun i => by rw [if_neg (by omega)]⟩
  obtain ⟨τ1, q1, t1⟩ := C_feedNumber (a := a1) (by omega) (fun j hj => by show fdw a1 a2 a3 a4 a5 (4 * 0 + j) % 256 = _; rw [fdw_at _ _ _ _ _ hj]; rfl) t0
  obtain ⟨τ2, q2, t2⟩ := C_feedNumber (a := a2) (by omega) (fun j hj => by show fdw a1 a2 a3 a4 a5 (4 * 1 + j) % 256 = _; rw [fdw_at _ _ _ _ _ hj]; rfl) t1
  obtain ⟨τ3, q3, t3⟩ := C_feedNumber (a := a3) (by omega) (fun j hj => by show fdw a1 a2 a3 a4 a5 (4 * 2 + j) % 256 = _; rw [fdw_at _ _ _ _ _ hj]; rfl) t2
  obtain ⟨τ4, q4, t4⟩ := C_feedNumber (a := a4) (by omega) (fun j hj => by show fdw a1 a2 a3 a4 a5 (4 * 3 + j) % 256 = _; rw [fdw_at _ _ _ _ _ hj]; rfl) t3
  obtain ⟨τ5, q5, t5⟩ := C_feedNumber (a := a5) (by omega) (fun j hj => by show fdw a1 a2 a3 a4 a5 (4 * 4 + j) % 256 = _; rw [fdw_at _ _ _ _ _ hj]; rfl) t4
  refine ⟨τ5, ?_, t5⟩
  rw [qC_feed_0, h9, xw_id (by omega) (by omega), if_neg (by omega), q1]
  simp only [Option.bind_some, qC_feed_20, q2, qC_feed_25, q3, qC_feed_30, q4, qC_feed_36, q5, qC_feed_42, t5.2.2.2.1]
/-- the reference's bytes -/
def fdM (σ τ : xS) (s n : Nat) (f : Nat → Int) : Prop := τ.2 = σ.2 ∧ (∀ a, a ≠ 357 → a ≠ 305 → τ.1 a = σ.1 a) ∧ (∀ k, k ≠ 66 → τ.1 305 k = σ.1 305 k) ∧ τ.1 305 66 = ((s + n : Nat) : Int) ∧ ∀ i, τ.1 357 i = if s ≤ i ∧ i < s + n then f (i - s) else σ.1 357 i
theorem M_feed_18 {s : Nat} (hs : s + 20 ≤ 400) (a1 a2 a3 a4 a5 : Int) : ∀ (u k : Nat) (w7 : xAV) (τ : xS), k + u = 20 → fdM σ τ s k (fun k => (fdw a1 a2 a3 a4 a5 k + 128) % 256 - 128) →
    ∃ τ', X iM_feed 18 [(2, 305), (0, a1), (0, a2), (0, a3), (0, a4), (0, a5), (0, (k : Int)), w7] [] τ = some ((0, ((s + 20 : Nat) : Int)), τ') ∧ fdM σ τ' s 20 (fun k => (fdw a1 a2 a3 a4 a5 k + 128) % 256 - 128) := by
  intro u
  induction u with
  | zero =>
    intro k w7 τ hk hτ
    have e : k = 20 := by omega
    subst e
    rw [qM_feed_18, if_neg (by decide), hτ.2.2.2.1]
    exact ⟨τ, rfl, hτ⟩
  | succ u ih =>
    intro k w7 τ hk hτ
    obtain ⟨h1, h2, h3, h4, h5⟩ := hτ
    have key : ∀ (v : Int) (w : xAV), xshr v (24 - 8 * ((k % 4 : Nat) : Int)) = fdw a1 a2 a3 a4 a5 k → ∃ τ', X iM_feed 18 [(2, 305), (0, a1), (0, a2), (0, a3), (0, a4), (0, a5), (0, ((k + 1 : Nat) : Int)), w] [] (xs (xs τ 357 (s + k) (xna 2 (xna 2 (xshr v (24 - 8 * ((k % 4 : Nat) : Int)))))) 305 66 ((s + k : Nat) + 1 : Int)) = some ((0, ((s + 20 : Nat) : Int)), τ') ∧ fdM σ τ' s 20 (fun k => (fdw a1 a2 a3 a4 a5 k + 128) % 256 - 128) := by
      intro v w hv
      refine ih (k + 1) w _ (by omega) ⟨h1, fun b b1 b2 => by rw [xs_ne b2, xs_ne b1]; exact h2 b b1 b2, fun j hj => by rw [xs_at, xup_ne hj, xs_ne (by decide)]; exact h3 j hj, ?_, fun i => ?_⟩
      · rw [xs_at, xup_eq]
        omega
      · rw [xs_ne (by decide), xs_at, xup_at, h5, hv]
        by_cases e : i = s + k
        · rw [if_pos e, if_pos (by omega), show i - s = k by omega]
          show ((fdw a1 a2 a3 a4 a5 k + 128) % 256 - 128 + 128) % 256 - 128 = (fdw a1 a2 a3 a4 a5 k + 128) % 256 - 128
          omega
        · rw [if_neg e]
          by_cases c : s ≤ i ∧ i < s + k
          · rw [if_pos c, if_pos (by omega)]
          · rw [if_neg c, if_neg (by omega)]
    have hx : xin (((s + k : Nat) : Int)) 400 := ⟨by omega, by omega⟩
    have et : Int.tmod (k : Int) 4 = ((k % 4 : Nat) : Int) := rfl
    have hsh : xw (24 - xw (8 * ((k % 4 : Nat) : Int))) = 24 - 8 * ((k % 4 : Nat) : Int) := by
      rw [xw_id (x := 8 * ((k % 4 : Nat) : Int)) (by omega) (by omega), xw_id (by omega) (by omega)]
    rw [qM_feed_18, if_pos (by omega), h4, et, hsh, Int.toNat_natCast, xw_s (by omega), xw_s (by omega)]
    clear hsh et
    unfold fdw at key
    by_cases c1 : k < 4
    · rw [if_pos (by omega), if_pos hx]
      exact key a1 _ (by rw [if_pos c1])
    · rw [if_neg (by omega)]
      by_cases c2 : k < 8
      · rw [if_pos (by omega), if_pos hx]
        exact key a2 _ (by rw [if_neg c1, if_pos c2])
      · rw [if_neg (by omega)]
        by_cases c3 : k < 12
        · rw [if_pos (by omega), if_pos hx]
          exact key a3 _ (by rw [if_neg c1, if_neg c2, if_pos c3])
        · rw [if_neg (by omega)]
          by_cases c4 : k < 16
          · rw [if_pos (by omega), if_pos hx]
            exact key a4 _ (by rw [if_neg c1, if_neg c2, if_neg c3, if_pos c4])
          · rw [if_neg (by omega), if_pos hx]
            exact key a5 _ (by rw [if_neg c1, if_neg c2, if_neg c3, if_neg c4])
theorem st_feed (hP : pJ σ.1) (a1 a2 a3 a4 a5 : Int) : stOK σ iC_feed [(2, 200), (0, a1), (0, a2), (0, a3), (0, a4), (0, a5)] iM_feed [(2, 305), (0, a1), (0, a2), (0, a3), (0, a4), (0, a5), (9, 0), (9, 0)] := by
  obtain ⟨⟨t1, t2⟩, t3, t4, t5⟩ := hP.2.2.2.2.2.2.2.2
  obtain ⟨s, hs⟩ : ∃ s : Nat, σ.1 305 66 = s := ⟨(σ.1 305 66).toNat, by omega⟩
  by_cases hc : s + 20 ≤ 400
  · obtain ⟨τ, q1, c1, c2, c3, c4, c5⟩ := C_feed (σ := σ) hc (by rw [t1, hs]) a1 a2 a3 a4 a5
    have e66 : τ.1 305 66 = (s : Int) := by rw [c2 305 (by decide) (by decide), hs]
    obtain ⟨τ', r1, d1, d2, d3, d4, d5⟩ := M_feed_18 (σ := τ) hc a1 a2 a3 a4 a5 20 0 (9, 0) τ (by omega) ⟨rfl, fun _ _ _ => rfl, fun _ _ => rfl, e66, fun i => by rw [if_neg (by omega)]⟩
    have r0 : X iM_feed 0 [(2, 305), (0, a1), (0, a2), (0, a3), (0, a4), (0, a5), (9, 0), (9, 0)] [] τ = some ((0, ((s + 20 : Nat) : Int)), τ') := by
      rw [qM_feed_0, e66, xw_id (by omega) (by omega), if_neg (by omega)]
      exact r1
    have fr : ∀ a, a ≠ 304 → a ≠ 200 → a ≠ 357 → a ≠ 305 → τ'.1 a = σ.1 a := fun a h1 h2 h3 h4 => (d2 a h3 h4).trans (c2 a h1 h2)
    have sl : ∀ k, k ≠ 66 → τ'.1 305 k = σ.1 305 k := fun k hk => by rw [d3 k hk, c2 305 (by decide) (by decide)]
    refine ⟨_, τ, τ', q1, r0, ?_, d1.trans c1, fun a ha => fr a (by omega) (by omega) (by omega) (by omega), fun k hk => sl k (by omega)⟩
    refine pJ_oth hP ⟨⟨ht_J_cg (fun a ha => fr a (by omega) (by omega) (by omega) (by omega)) (by rw [fr 229 (by decide) (by decide) (by decide) (by decide)]) (sl _ (by decide)) hP.2.2.2.1, ev_J_cg (fun a ha => fr a (by omega) (by omega) (by omega) (by omega)) (fun k _ => by rw [fr 229 (by decide) (by decide) (by decide) (by decide)]) (fun k hk => sl k (by omega)) (Int.le_of_eq (sl 11 (by decide)).symm) (Int.le_of_eq (sl 0 (by decide)).symm) hP.2.2.2.2.1, sp_J_cg (fun k _ => by rw [fr 272 (by decide) (by decide) (by decide) (by decide)]) (fun k _ _ => sl k (by omega)) hP.2.2.2.2.2.1, ng_J_cg (fun a ha => fr a (by omega) (by omega) (by omega) (by omega)) (fun k _ => by rw [fr 258 (by decide) (by decide) (by decide) (by decide)]) (fun k hk => sl k (by omega)) (Int.le_of_eq (sl 6 (by decide)).symm) hP.2.2.2.2.2.2.1⟩, wn_J_cg (fun a ha => fr a (by omega) (by omega) (by omega) (by omega)) hP.2.2.2.2.2.2.2.1, ?_⟩ (fun a ha => fr a (by omega) (by omega) (by omega) (by omega)) (fun k hk => sl k (by omega))
    have x9 : τ'.1 200 9 = ((s + 20 : Nat) : Int) := by rw [d2 200 (by decide) (by decide), c4]
    have x10 : τ'.1 200 10 = σ.1 200 10 := by rw [d2 200 (by decide) (by decide), c3 10 (by decide)]
    have x67 : τ'.1 305 67 = σ.1 305 67 := sl 67 (by decide)
    have x304 : τ'.1 304 = τ.1 304 := d2 304 (by decide) (by decide)
    have x357 : τ.1 357 = σ.1 357 := c2 357 (by decide) (by decide)
    refine ⟨⟨by rw [x9, d4], by rw [x10, x67, t2]⟩, by rw [d4]; omega, by rw [x67]; exact t4, fun i hi => ?_⟩
    have := t5 i hi
    rw [x304, c5, d5, x357]
    by_cases c : s ≤ i ∧ i < s + 20
    · rw [if_pos c, if_pos c]
      constructor
      · show fdw a1 a2 a3 a4 a5 (i - s) % 256 = ((fdw a1 a2 a3 a4 a5 (i - s) + 128) % 256 - 128) % 256
        omega
      · show -128 ≤ (fdw a1 a2 a3 a4 a5 (i - s) + 128) % 256 - 128 ∧ (fdw a1 a2 a3 a4 a5 (i - s) + 128) % 256 - 128 < 128
        omega
    · rw [if_neg c, if_neg c]
      exact this
  · refine st_same (v := (0, -1)) hP ?_ ?_
    · rw [qC_feed_0, t1, hs, xw_id (by omega) (by omega), if_pos (by omega)]
    · rw [qM_feed_0, hs, xw_id (by omega) (by omega), if_pos (by omega)]
end FEED

/-! the class's tokens, all -/
section SCD
variable {σ τ υ : xS} {B : Nat → Int} {n : Nat}
/-- the kind's reference of token j -/
noncomputable def t_k (B : Nat → Int) (n j : Nat) : Int := if t_c B n j = 2 then kwf B (t_s B n j) (t_e B n j - t_s B n j) else 0
/-- token j in the class -/
def tka (m : Nat → Nat → Int) (B : Nat → Int) (n j : Nat) : Prop := m 299 j = (t_s B n j : Int) ∧ m 300 j = (t_e B n j : Int) ∧ m 301 j = t_c B n j ∧ (t_c B n j = 3 → m 302 j = t_n B n j) ∧ m 303 j = t_k B n j
/-- all tokens, c of them ahead of the end -/
def rda (m : Nat → Nat → Int) (B : Nat → Int) (n c : Nat) : Prop := (c ≤ 400 ∧ t_c B n c = 1) ∧ (∀ j, j < c → t_s B n j < n) ∧ ∀ j, j ≤ c → tka m B n j
theorem C_scan_126 (hB : rdr σ.1 B n) {c : Nat} (hI : scI B n (σ.1 299) (σ.1 300) (σ.1 301) c n) : ∀ (f i : Nat) (τ : xS), i + f = c → rfm σ τ → (∀ j, j < i → tka τ.1 B n j) → (τ.1 299 = σ.1 299 ∧ τ.1 300 = σ.1 300 ∧ ∀ j, i ≤ j → τ.1 301 j = σ.1 301 j) → ∀ w3 w4 : xAV, ∃ τ', X iReader_scanAll 126 [(2, 297), (0, (c : Int)), (0, (i : Int)), w3, w4] [] τ = some ((9, 0), τ') ∧ rfm σ τ' ∧ rda τ'.1 B n c := by
  obtain ⟨z1, z2, z3, z4⟩ := sc_e hI
  have hc : c ≤ n := hI.1.1
  have hn := hB.2.2.1
  intro f
  induction f with
  | zero =>
    intro i τ hi hr ht he w3 w4
    have hx : xin (c : Int) 401 := xin_of (by omega) (by omega)
    have hB' := rdr_rfm hB hr
    rw [qReader_scanAll_126, if_neg (by omega), if_pos hx, if_pos hx, if_pos hx, if_pos hx, hB'.2.1, Int.toNat_natCast]
    refine ⟨_, rfl, rfm_s (rfm_s (rfm_s (rfm_s hr (by decide) _) (by decide) _) (by decide) _) (by decide) _, ⟨by omega, z3⟩, fun j hj => (hI.2.1 j hj).2.2, fun j hj => ?_⟩
    unfold tka
    rw [show (xs (xs (xs (xs τ 299 c (n : Int)) 300 c (n : Int)) 301 c 1) 303 c 0).1 299 = xup (τ.1 299) c (n : Int) by rw [xs_ne (by decide), xs_ne (by decide), xs_ne (by decide), xs_at], show (xs (xs (xs (xs τ 299 c (n : Int)) 300 c (n : Int)) 301 c 1) 303 c 0).1 300 = xup (τ.1 300) c (n : Int) by rw [xs_ne (by decide), xs_ne (by decide), xs_at, xs_ne (by decide)], show (xs (xs (xs (xs τ 299 c (n : Int)) 300 c (n : Int)) 301 c 1) 303 c 0).1 301 = xup (τ.1 301) c 1 by rw [xs_ne (by decide), xs_at, xs_ne (by decide), xs_ne (by decide)], show (xs (xs (xs (xs τ 299 c (n : Int)) 300 c (n : Int)) 301 c 1) 303 c 0).1 302 = τ.1 302 by rw [xs_ne (by decide), xs_ne (by decide), xs_ne (by decide), xs_ne (by decide)], show (xs (xs (xs (xs τ 299 c (n : Int)) 300 c (n : Int)) 301 c 1) 303 c 0).1 303 = xup (τ.1 303) c 0 by rw [xs_at, xs_ne (by decide), xs_ne (by decide), xs_ne (by decide)]]
    by_cases e : j = c
    · rw [e, xup_eq, xup_eq, xup_eq, xup_eq]
      refine ⟨by rw [z1], by rw [z2], z3.symm, fun q => ?_, ?_⟩
      · rw [z3] at q; exact absurd q (by decide)
      · unfold t_k
        rw [if_neg (by rw [z3]; decide)]
    · rw [xup_ne e, xup_ne e, xup_ne e, xup_ne e]
      exact ht j (by omega)
  | succ f ih =>
    intro i τ hi hr ht he w3 w4
    have hB' := rdr_rfm hB hr
    have hx : xin (i : Int) 401 := xin_of (by omega) (by omega)
    obtain ⟨b1, b2, b3⟩ := hI.2.1 i (by omega)
    obtain ⟨g1, g2, g3, g4⟩ := t_s_le (B := B) (n := n) i
    have hb := (hB.2.2.2 _ b3).2
    have hkr := kq_r hb
    have m9 : τ.1 299 i = (t_s B n i : Int) := by rw [he.1]; exact b1
    have m0 : τ.1 300 i = (t_e B n i : Int) := by rw [he.2.1]; exact z4 i (by omega)
    have m1 : τ.1 301 i = kq (B (t_s B n i)) := by rw [he.2.2 i (Nat.le_refl i)]; exact b2
    have ek : xna 3 (kq (B (t_s B n i))) = kq (B (t_s B n i)) := by show kq (B (t_s B n i)) % 65536 = _; omega
    have c2 : kq (B (t_s B n i)) = 2 ↔ t_c B n i = 2 := by
      rw [t_c_of b3]
      by_cases q : kq (B (t_s B n i)) = 3 ∧ 9 < t_e B n i - t_s B n i
      · rw [if_pos q, q.1]; decide
      · rw [if_neg q]
    have next : ∀ w : Int, w = t_k B n i → ∃ τ', ((X iReader_readDigits 0 [(2, 297), (0, (i : Int)), (9, 0)] [] (xs τ 303 i w)).bind fun q2 => X iReader_scanAll 161 [(2, 297), (0, (c : Int)), (0, (i : Int)), w3, w4] [] q2.2) = some ((9, 0), τ') ∧ rfm σ τ' ∧ rda τ'.1 B n c := fun w hw => by
      have hr1 := rfm_s hr (a := 303) (k := i) (by decide) w
      obtain ⟨τ1, k1, k2, k3, k4⟩ := C_digits (σ := xs τ 303 i w) (j := i) (rdr_rfm hB hr1) (by omega) b3 (by rw [xs_ne (by decide)]; exact m9) (by rw [xs_ne (by decide)]; exact m0) (by rw [xs_ne (by decide)]; exact m1)
      rw [k1, Option.bind_some, qReader_scanAll_161, xw_t (by omega)]
      have e9 (a : Nat) (ha : ¬ (301 ≤ a ∧ a ≤ 303)) : τ1.1 a = τ.1 a := by rw [k2.2.1 a (by omega), xs_ne (by omega)]
      have e3 : τ1.1 303 = xup (τ.1 303) i w := by rw [k2.2.1 303 (by decide), xs_at]
      refine ih (i + 1) τ1 (by omega) ⟨k2.1.trans hr1.1, fun a ha => by rw [e9 a (by omega), hr.2 a ha]⟩ (fun j hj => ?_) ⟨by rw [e9 299 (by decide)]; exact he.1, by rw [e9 300 (by decide)]; exact he.2.1, fun j hj => ?_⟩ _ _
      · unfold tka
        rw [e9 299 (by decide), e9 300 (by decide), e3]
        by_cases e : j = i
        · rw [e, xup_eq]
          exact ⟨m9, m0, k3, k4, hw⟩
        · rw [xup_ne e, (k2.2.2 j e).1, (k2.2.2 j e).2, xs_ne (by decide), xs_ne (by decide)]
          exact ht j (by omega)
      · rw [(k2.2.2 j (by omega)).1, xs_ne (by decide)]
        exact he.2.2 j (by omega)
    rw [qReader_scanAll_126, if_pos (by omega), if_pos hx, Int.toNat_natCast, m1, ek]
    by_cases q : kq (B (t_s B n i)) = 2
    · rw [if_pos q, C_wordOf hB' (by omega) m9 m0 g2 g3, Option.bind_some, qReader_scanAll_151]
      have hl := t_let b3 (kq_2.mp q)
      have hk : kfi (fun k => wis (kwl k) B (t_s B n i) (t_e B n i - t_s B n i)) 38 0 = kwf B (t_s B n i) (t_e B n i - t_s B n i) := rfl
      rw [hk]
      have hr50 : (xisO xE1 τ (kwf B (t_s B n i) (t_e B n i - t_s B n i)) 50 || decide (kwf B (t_s B n i) (t_e B n i - t_s B n i) = 0)) = true := by
        rcases kwf_0 (B := B) (s := t_s B n i) (k := t_e B n i - t_s B n i) (fun i' hi' => hl.2 _ (by omega) (by omega)) (by have := g4 b3; omega) with ⟨k, h1, h2, _⟩ | ⟨h1, _⟩
        · rw [h2]
          have : xisO xE1 τ ((2 + k : Nat) : Int) 50 = true := by
            revert k
            intro k h1 _ _
            match k, h1 with
            | 0, _ | 1, _ | 2, _ | 3, _ | 4, _ | 5, _ | 6, _ | 7, _ | 8, _ | 9, _ | 10, _ | 11, _ | 12, _ | 13, _ | 14, _ | 15, _ | 16, _ | 17, _ | 18, _ | 19, _ | 20, _ | 21, _ | 22, _ | 23, _ | 24, _ | 25, _ | 26, _ | 27, _ | 28, _ | 29, _ | 30, _ | 31, _ => rfl
            | k + 32, h => exact absurd h (by omega)
          rw [this]; rfl
        · rw [h1]
          rw [show decide ((0 : Int) = 0) = true from rfl, Bool.or_true]
      rw [hr50, cnd_t, if_pos hx, Int.toNat_natCast]
      exact next _ (by unfold t_k; rw [if_pos (c2.mp q)])
    · rw [if_neg q, if_pos hx]
      exact next 0 (by unfold t_k; rw [if_neg (fun z => q (c2.mpr z))])
theorem C_scanAll (hB : rdr σ.1 B n) : ∃ τ c, X iReader_scanAll 0 [(2, 297), (9, 0), (9, 0), (9, 0), (9, 0)] [] σ = some ((9, 0), τ) ∧ rfm σ τ ∧ rda τ.1 B n c := by
  obtain ⟨τ1, c, w3, w4, e1, r1, s1⟩ := C_scan_4 hB n 0 0 σ rfl rfm_rf ⟨⟨Nat.le_refl 0, Nat.zero_le n, Nat.zero_le _⟩, fun i hi => absurd hi (Nat.not_lt_zero i), fun i hi => absurd hi (Nat.not_lt_zero _), fun i hi => absurd hi (Nat.succ_ne_zero i)⟩ (9, 0) (9, 0)
  obtain ⟨τ2, e2, r2, d2⟩ := C_scan_126 (rdr_rfm hB r1) s1 c 0 τ1 (by omega) rfm_rf (fun j hj => absurd hj (Nat.not_lt_zero j)) ⟨rfl, rfl, fun _ _ => rfl⟩ w3 w4
  refine ⟨τ2, c, ?_, ⟨r2.1.trans r1.1, fun a ha => by rw [r2.2 a ha, r1.2 a ha]⟩, d2⟩
  rw [qReader_scanAll_0]
  exact e1.trans e2
end SCD

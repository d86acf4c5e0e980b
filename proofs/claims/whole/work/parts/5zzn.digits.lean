/-! digits, in the class -/
section DIG
variable {σ τ υ : xS} {B : Nat → Int} {n : Nat}
theorem C_dig_49 (hB : rdr σ.1 B n) {j s e : Nat} (hj : j < 401) (hl : ∀ i, s ≤ i → i < e → 48 ≤ B i ∧ B i ≤ 57) (he : e ≤ n) (h9 : e - s ≤ 9) : ∀ (f p : Nat) (τ : xS), f = e - p → s ≤ p → p ≤ e → (τ.2 = σ.2 ∧ ∀ a, a ≠ 302 → τ.1 a = σ.1 a) → (∀ q, q ≠ j → τ.1 302 q = σ.1 302 q) → σ.1 300 j = (e : Int) → σ.1 301 j = 3 → τ.1 302 j = dgv B s (p - s) → ∃ τ', X iReader_readDigits 49 [(2, 297), (0, (j : Int)), (0, (p : Int))] [] τ = some ((9, 0), τ') ∧ (τ'.2 = σ.2 ∧ ∀ a, a ≠ 302 → τ'.1 a = σ.1 a) ∧ (∀ q, q ≠ j → τ'.1 302 q = σ.1 302 q) ∧ τ'.1 302 j = dgv B s (e - s) := by
  intro f
  induction f with
  | zero =>
    intro p τ hf hsp hpe hr hq h2 h3 h4
    have hx : xin (j : Int) 401 := xin_of (by omega) (by omega)
    have ep : p = e := by omega
    refine ⟨τ, ?_, hr, hq, by rw [h4, ep]⟩
    rw [qReader_readDigits_49, if_pos hx, hr.2 300 (by decide), Int.toNat_natCast, h2, if_neg (by omega)]
  | succ f ih =>
    intro p τ hf hsp hpe hr hq h2 h3 h4
    obtain ⟨t1, t2, t3, t4⟩ := hB
    have hx : xin (j : Int) 401 := xin_of (by omega) (by omega)
    have hb := hl p hsp (by omega)
    have hd := (dgv_le (B := B) (s := s) (p - s) fun i hi => hl (s + i) (by omega) (by omega)).2 (by omega)
    have hd0 := (dgv_le (B := B) (s := s) (p - s) fun i hi => hl (s + i) (by omega) (by omega)).1
    have hp8 : pw 10 (p - s) ≤ 100000000 := by
      have : ∀ k : Nat, k ≤ 8 → pw 10 k ≤ 100000000 := by decide
      exact this _ (by omega)
    have u1 : xna 3 (σ.1 304 p) = B p := (t4 p (by omega)).1
    have ev : dgv B s (p + 1 - s) = dgv B s (p - s) * 10 + B p - 48 := by
      rw [show p + 1 - s = (p - s) + 1 by omega]
      show (if dgv B s (p - s) < 100000000 then dgv B s (p - s) else 100000000) * 10 + (B (s + (p - s)) - 48) = _
      rw [if_pos (by omega), show s + (p - s) = p by omega]
      omega
    rw [qReader_readDigits_49, if_pos hx, hr.2 300 (by decide), Int.toNat_natCast, h2, if_pos (by omega), if_pos hx, hr.2 301 (by decide), h3, if_pos (show xna 3 3 = 3 from rfl), if_pos hx, hr.2 297 (by decide), t1, x304, xob_some, if_pos (xin_of (by omega) (by omega)), if_pos hx, h4, Int.toNat_natCast, xag304, hr.2 304 (by decide), u1, xw_id (x := dgv B s (p - s) * 10) (by omega) (by omega), xw_id (x := dgv B s (p - s) * 10 + B p) (by omega) (by omega), xw_id (x := dgv B s (p - s) * 10 + B p - 48) (by omega) (by omega), xw_t (by omega), ← ev]
    refine ih (p + 1) _ (by omega) (by omega) (by omega) ⟨hr.1, fun a ha => by rw [xs_ne ha, hr.2 a ha]⟩ (fun q hqj => by rw [xs_at, xup_ne hqj, hq q hqj]) h2 h3 (by rw [xs_at, xup_eq])
/-- what the second pass keeps -/
def rfn (j : Nat) (σ τ : xS) : Prop := τ.2 = σ.2 ∧ (∀ a, ¬ (301 ≤ a ∧ a ≤ 302) → τ.1 a = σ.1 a) ∧ ∀ q, q ≠ j → τ.1 301 q = σ.1 301 q ∧ τ.1 302 q = σ.1 302 q
theorem C_digits (hB : rdr σ.1 B n) {j : Nat} (hj : j < 400) (hs : t_s B n j < n) (h1 : σ.1 299 j = (t_s B n j : Int)) (h2 : σ.1 300 j = (t_e B n j : Int)) (h3 : σ.1 301 j = kq (B (t_s B n j))) : ∃ τ, X iReader_readDigits 0 [(2, 297), (0, (j : Int)), (9, 0)] [] σ = some ((9, 0), τ) ∧ rfn j σ τ ∧ τ.1 301 j = t_c B n j ∧ (t_c B n j = 3 → τ.1 302 j = t_n B n j) := by
  have hx : xin (j : Int) 401 := xin_of (by omega) (by omega)
  obtain ⟨g1, g2, g3, g4⟩ := t_s_le (B := B) (n := n) j
  have hn := hB.2.2.1
  have hb := (hB.2.2.2 _ hs).2
  have hr := kq_r hb
  have ek : xna 3 (kq (B (t_s B n j))) = kq (B (t_s B n j)) := by show kq (B (t_s B n j)) % 65536 = _; omega
  have et := t_c_of (B := B) hs
  have stop : ∀ (τ : xS) (v : Int), τ.1 300 j = (t_e B n j : Int) → xna 3 (τ.1 301 j) ≠ 3 → X iReader_readDigits 49 [(2, 297), (0, (j : Int)), (0, v)] [] τ = some ((9, 0), τ) := fun τ v q1 q2 => by
    rw [qReader_readDigits_49, if_pos hx, Int.toNat_natCast, q1]
    by_cases z : v < (t_e B n j : Int)
    · rw [if_pos z, if_pos hx, if_neg q2]
    · rw [if_neg z]
  rw [qReader_readDigits_0, if_pos hx, Int.toNat_natCast, h3, ek]
  by_cases c3 : kq (B (t_s B n j)) = 3
  · rw [if_pos c3, if_pos hx, if_pos hx, h1, h2, xw_id (x := (t_e B n j : Int) - (t_s B n j : Int)) (by omega) (by omega)]
    by_cases c9 : 9 < t_e B n j - t_s B n j
    · rw [if_pos ⟨c3, c9⟩] at et
      rw [if_pos (by omega), if_pos hx, if_pos hx, if_pos hx]
      refine ⟨_, stop _ _ (by rw [xs_ne (by decide), xs_ne (by decide)]; exact h2) ?_, ⟨rfl, fun a ha => by rw [xs_ne (by omega), xs_ne (by omega)], fun q hq => ⟨by rw [xs_ne (by decide), xs_at, xup_ne hq], by rw [xs_at, xup_ne hq, xs_ne (by decide)]⟩⟩, ?_, fun q => ?_⟩
      · rw [xs_ne (by decide), xs_at, xup_eq]; decide
      · rw [xs_ne (by decide), xs_at, xup_eq, et]
      · rw [et] at q; exact absurd q (by decide)
    · rw [if_neg (fun q => c9 q.2), c3] at et
      rw [if_neg (by omega), if_pos hx, if_pos hx]
      obtain ⟨τ', k1, k2, k3, k4⟩ := C_dig_49 (σ := xs σ 302 j 0) (B := B) (n := n) (j := j) (s := t_s B n j) (e := t_e B n j) (by unfold rdr; rw [xs_ne (by decide), xs_ne (by decide)]; exact hB) (by omega) (t_dig hs (kq_3.mp c3)).2 g3 (by omega) (t_e B n j - t_s B n j) (t_s B n j) (xs σ 302 j 0) rfl (Nat.le_refl _) g2 ⟨rfl, fun _ _ => rfl⟩ (fun _ _ => rfl) (by rw [xs_ne (by decide)]; exact h2) (by rw [xs_ne (by decide)]; exact h3.trans c3) (by rw [xs_at, xup_eq, Nat.sub_self]; rfl)
      refine ⟨τ', k1, ⟨k2.1, fun a ha => by rw [k2.2 a (by omega), xs_ne (by omega)], fun q hq => ⟨by rw [k2.2 301 (by decide), xs_ne (by decide)], by rw [k3 q hq, xs_at, xup_ne hq]⟩⟩, ?_, fun _ => k4⟩
      rw [k2.2 301 (by decide), xs_ne (by decide), h3, c3, et]
  · rw [if_neg (fun q => c3 q.1)] at et
    rw [if_neg c3, if_pos hx, if_pos hx]
    refine ⟨_, stop _ _ (by rw [xs_ne (by decide)]; exact h2) ?_, ⟨rfl, fun a ha => by rw [xs_ne (by omega)], fun q hq => ⟨by rw [xs_ne (by decide)], by rw [xs_at, xup_ne hq]⟩⟩, ?_, fun q => ?_⟩
    · rw [xs_ne (by decide), h3, ek]; exact c3
    · rw [xs_ne (by decide), h3, et]
    · rw [et] at q; exact absurd q c3
end DIG

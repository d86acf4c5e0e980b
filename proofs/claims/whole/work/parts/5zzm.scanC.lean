/-! the class's scan, run -/
section SCC
variable {σ τ υ : xS} {B : Nat → Int} {n : Nat}
def rfm (σ τ : xS) : Prop := τ.2 = σ.2 ∧ ∀ a, ¬ (299 ≤ a ∧ a ≤ 303) → τ.1 a = σ.1 a
theorem rfm_rf : rfm σ σ := ⟨rfl, fun _ _ => rfl⟩
theorem rfm_s (h : rfm σ τ) {a k : Nat} (ha : 299 ≤ a ∧ a ≤ 303) (v : Int) : rfm σ (xs τ a k v) := ⟨h.1, fun b hb => by rw [xs_ne (fun z => hb (by omega)), h.2 b hb]⟩
theorem rdr_rfm (hB : rdr σ.1 B n) (h : rfm σ τ) : rdr τ.1 B n := by
  unfold rdr
  rw [h.2 297 (by decide), h.2 304 (by decide)]
  exact hB
theorem xw_prd {i : Nat} (h : i < 600) : xw (((i + 1 : Nat) : Int) - 1) = (i : Int) := by rw [xw_id (by omega) (by omega)]; omega
theorem kq_r {b : Int} (h : 0 ≤ b ∧ b ≤ 255) : 0 ≤ kq b ∧ kq b ≤ 255 := by
  unfold kq
  repeat' split
  all_goals omega
theorem C_scan_21a {k : Int} {i p : Nat} (hi : i < 400) (hp : p < 400) (hk : k = 2 ∨ k = 3) (ht : xna 3 (τ.1 301 i) = k) (he : τ.1 300 i = (p : Int)) (w3 w4 : xAV) : X iReader_scanAll 21 [(2, 297), (0, ((i + 1 : Nat) : Int)), (0, (p : Int)), w3, w4] [(0, k)] τ = X iReader_scanAll 4 [(2, 297), (0, ((i + 1 : Nat) : Int)), (0, ((p + 1 : Nat) : Int)), (0, k), (0, 1)] [] (xs τ 300 i ((p + 1 : Nat) : Int)) := by
  have hx : xin (i : Int) 401 := xin_of (by omega) (by omega)
  rw [qReader_scanAll_21, xw_prd (by omega), Int.toNat_natCast]
  rcases hk with rfl | rfl
  · rw [if_pos rfl, if_pos (by omega), if_pos hx, if_pos ht, if_pos hx, if_pos he, if_pos hx, if_pos hx, he, xw_t (by omega)]
  · rw [if_neg (show ¬ (3 : Int) = 2 by decide), if_pos rfl, if_pos (by omega), if_pos hx, if_pos ht, if_pos hx, if_pos he, if_pos hx, if_pos hx, he, xw_t (by omega)]
theorem C_scan_21b {k : Int} {c p : Nat} (hc : c < 401) (hn : ∀ i, i + 1 = c → k = 2 ∨ k = 3 → xna 3 (τ.1 301 i) = k → τ.1 300 i ≠ (p : Int)) (w3 w4 : xAV) : ∃ w, X iReader_scanAll 21 [(2, 297), (0, (c : Int)), (0, (p : Int)), w3, w4] [(0, k)] τ = X iReader_scanAll 87 [(2, 297), (0, (c : Int)), (0, (p : Int)), (0, k), w] [] τ := by
  have one : k = 2 ∨ k = 3 → ∀ u : Option (xAV × xS), (if (0 : Int) < (c : Int) then (if xin (xw ((c : Int) - 1)) 401 then (if (xna 3 (τ.1 301 (xw ((c : Int) - 1)).toNat)) = k then (if xin (xw ((c : Int) - 1)) 401 then (if (τ.1 300 (xw ((c : Int) - 1)).toNat) = (p : Int) then u else X iReader_scanAll 87 [(2, 297), (0, (c : Int)), (0, (p : Int)), (0, k), (0, 1)] [] τ) else none) else X iReader_scanAll 87 [(2, 297), (0, (c : Int)), (0, (p : Int)), (0, k), (0, 1)] [] τ) else none) else X iReader_scanAll 87 [(2, 297), (0, (c : Int)), (0, (p : Int)), (0, k), (0, 1)] [] τ) = X iReader_scanAll 87 [(2, 297), (0, (c : Int)), (0, (p : Int)), (0, k), (0, 1)] [] τ := fun hk u => by
    cases c with
    | zero => exact if_neg (by decide)
    | succ i =>
      have hx : xin (i : Int) 401 := xin_of (by omega) (by omega)
      rw [xw_prd (by omega), Int.toNat_natCast, if_pos (by omega), if_pos hx]
      by_cases z : xna 3 (τ.1 301 i) = k
      · rw [if_pos z, if_pos hx, if_neg (hn i rfl hk z)]
      · rw [if_neg z]
  rw [qReader_scanAll_21]
  by_cases h2 : k = 2
  · exact ⟨(0, 1), by rw [if_pos h2]; exact one (Or.inl h2) _⟩
  · by_cases h3 : k = 3
    · exact ⟨(0, 1), by rw [if_neg h2, if_pos h3]; exact one (Or.inr h3) _⟩
    · exact ⟨(0, 0), by rw [if_neg h2, if_neg h3]⟩
theorem C_scan_4 (hB : rdr σ.1 B n) : ∀ (f p c : Nat) (τ : xS), f = n - p → rfm σ τ → scI B n (τ.1 299) (τ.1 300) (τ.1 301) c p → ∀ w3 w4 : xAV, ∃ (τ' : xS) (c' : Nat) (w3' w4' : xAV), X iReader_scanAll 4 [(2, 297), (0, (c : Int)), (0, (p : Int)), w3, w4] [] τ = X iReader_scanAll 126 [(2, 297), (0, (c' : Int)), (0, 0), w3', w4'] [] τ' ∧ rfm σ τ' ∧ scI B n (τ'.1 299) (τ'.1 300) (τ'.1 301) c' n := by
  intro f
  induction f with
  | zero =>
    intro p c τ hf hr hI w3 w4
    have hB' := rdr_rfm hB hr
    have e : p = n := by have := hI.1.2.1; omega
    refine ⟨τ, c, w3, w4, ?_, hr, by rw [← e]; exact e ▸ hI⟩
    rw [qReader_scanAll_4, hB'.2.1, if_neg (by omega)]
  | succ f ih =>
    intro p c τ hf hr hI w3 w4
    have hB' := rdr_rfm hB hr
    obtain ⟨t1, t2, t3, t4⟩ := hB'
    have hp : p < n := by omega
    obtain ⟨u1, u2, u3⟩ := t4 p hp
    have hcp := hI.1.1
    have hkr := kq_r ⟨u2, u3⟩
    have hx : xin (c : Int) 401 := xin_of (by omega) (by omega)
    rw [qReader_scanAll_4, t2, if_pos (by omega), t1, x304, xob_some, if_pos (xin_of (by omega) (by omega)), Int.toNat_natCast, xag304, show xna 3 (τ.1 304 p) = B p from u1, C_kindOf ⟨u2, u3⟩, Option.bind_some]
    have tk3 : ∀ i, i < c → xna 3 (τ.1 301 i) = τ.1 301 i := fun i hi => by
      have b1 := (hI.2.1 i hi)
      have b2 := t4 _ b1.2.2
      have b3 := kq_r b2.2
      rw [b1.2.1]
      show kq (B (t_s B n i)) % 65536 = _
      omega
    by_cases hm : ∃ i, i + 1 = c ∧ (kq (B p) = 2 ∨ kq (B p) = 3) ∧ τ.1 301 i = kq (B p) ∧ τ.1 300 i = (p : Int)
    · obtain ⟨i, hi, hk, ht, he⟩ := hm
      subst hi
      rw [C_scan_21a (by omega) (by omega) hk ((tk3 i (by omega)).trans ht) he]
      refine ih (p + 1) (i + 1) _ (by omega) (rfm_s hr (by decide) _) ?_ _ _
      rw [xs_ne (by decide), xs_at, xs_ne (by decide)]
      exact sc_l hI hp hk rfl ht he
    · have hn : ∀ i, i + 1 = c → kq (B p) = 2 ∨ kq (B p) = 3 → τ.1 301 i = kq (B p) → τ.1 300 i ≠ (p : Int) := fun i h1 h2 h3 h4 => hm ⟨i, h1, h2, h3, h4⟩
      obtain ⟨w, ew⟩ := C_scan_21b (τ := τ) (k := kq (B p)) (c := c) (p := p) (by omega) (fun i h1 h2 h3 => hn i h1 h2 ((tk3 i (by omega)).symm.trans h3)) w3 w4
      rw [ew, qReader_scanAll_87]
      by_cases c4 : kq (B p) = 4
      · rw [if_pos c4, xw_t (by omega)]
        exact ih (p + 1) c τ (by omega) hr (sc_b hI hp c4) _ _
      · rw [if_neg c4, if_pos hx, if_pos hx, if_pos hx, xw_t (by omega), xw_t (by omega), Int.toNat_natCast, show xna 3 (kq (B p)) = kq (B p) by show kq (B p) % 65536 = _; omega]
        refine ih (p + 1) (c + 1) _ (by omega) (rfm_s (rfm_s (rfm_s hr (by decide) _) (by decide) _) (by decide) _) ?_ _ _
        rw [xs_ne (a := 301) (show 299 ≠ 301 by decide), xs_ne (a := 300) (show 299 ≠ 300 by decide), xs_at, xs_ne (a := 301) (show 300 ≠ 301 by decide), xs_at, xs_ne (a := 299) (show 300 ≠ 299 by decide), xs_at, xs_ne (a := 300) (show 301 ≠ 300 by decide), xs_ne (a := 299) (show 301 ≠ 299 by decide)]
        exact sc_n hI hp c4 hn
end SCC

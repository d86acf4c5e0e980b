/-! the night: when a washer is through -/
theorem ng_ceil {x L : Nat} (hx : 1 ≤ x) (hL : 1 ≤ L) : (x + L - 1) / L ≤ x := by
  refine Nat.div_le_of_le_mul ?_
  obtain ⟨a, rfl⟩ : ∃ a, L = a + 1 := ⟨L - 1, by omega⟩
  obtain ⟨b, rfl⟩ : ∃ b, x = b + 1 := ⟨x - 1, by omega⟩
  rw [Nat.add_mul, Nat.mul_add]
  omega
theorem ng_lo {p g L : Int} (hp : 1 ≤ p ∧ p ≤ 200) (hg : 1 ≤ g ∧ g ≤ 60) (hL : 1 ≤ L ∧ L ≤ 5000) : (1 ≤ p * g ∧ p * g ≤ 12000) ∧ 0 ≤ Int.tdiv (p * g + L - 1) L ∧ Int.tdiv (p * g + L - 1) L ≤ 12000 := by
  obtain ⟨p, rfl⟩ : ∃ n : Nat, p = n := ⟨p.toNat, by omega⟩
  obtain ⟨g, rfl⟩ : ∃ n : Nat, g = n := ⟨g.toNat, by omega⟩
  obtain ⟨L, rfl⟩ : ∃ n : Nat, L = n := ⟨L.toNat, by omega⟩
  have h1 : 1 * 1 ≤ p * g := Nat.mul_le_mul (by omega) (by omega)
  have h2 : p * g ≤ 200 * 60 := Nat.mul_le_mul (by omega) (by omega)
  have h3 := ng_ceil (x := p * g) (L := L) (by omega) (by omega)
  have e : (p : Int) * g + L - 1 = ((p * g + L - 1 : Nat) : Int) := by rw [← Int.natCast_mul]; omega
  rw [e, ntdiv, ← Int.natCast_mul]
  generalize p * g = x at *
  generalize (x + L - 1) / L = y at *
  omega
theorem ng_M {M l : Int} (hM : 1 ≤ M ∧ M ≤ 200) (hl : 0 ≤ l ∧ l ≤ 12000) : 0 ≤ M * l ∧ M * l ≤ 2400000 := by
  obtain ⟨M, rfl⟩ : ∃ n : Nat, M = n := ⟨M.toNat, by omega⟩
  obtain ⟨l, rfl⟩ : ∃ n : Nat, l = n := ⟨l.toNat, by omega⟩
  have h2 : M * l ≤ 200 * 12000 := Nat.mul_le_mul (by omega) (by omega)
  rw [← Int.natCast_mul]
  omega
theorem ng_x {p g L : Int} (hp : 1 ≤ p ∧ p ≤ 200) (hg : 1 ≤ g ∧ g ≤ 60) (hL : 1 ≤ L ∧ L ≤ 5000) : xw (Int.tdiv (xw (xw (xw (p * g) + L) - 1)) L) = Int.tdiv (p * g + L - 1) L := by
  obtain ⟨h1, h2⟩ := ng_lo hp hg hL
  rw [xw_id (x := p * g) (by omega) (by omega), xw_id (x := p * g + L) (by omega) (by omega), xw_id (x := p * g + L - 1) (by omega) (by omega), xw_id (by omega) (by omega)]
abbrev ngS : Type := (Nat → Int) × (Nat → Int) × (Nat → Int)
def ng_k (m : Nat → Nat → Int) (j : Nat) : Int := m 307 (m 378 j).toNat
def ng_l (m : Nat → Nat → Int) (w j : Nat) : Int := Int.tdiv (m 379 j * m 306 (m 378 j).toNat + m 375 w - 1) (m 375 w)
def ng_c (m : Nat → Nat → Int) (mx : Int → Int → Bool) (s : ngS) (w j : Nat) : Int := if s.2.1 w = -1 then 0 else if s.2.1 w = ng_k m j then 0 else if mx (s.2.1 w) (ng_k m j) = false then m 377 w else 0
def ng_r (m : Nat → Nat → Int) (mx : Int → Int → Bool) (s : ngS) (w j : Nat) : Int := s.1 w + ng_c m mx s w j + m 376 w * ng_l m w j
section NIGHTA
variable {σ : xS}
/-- the class's picture -/
def nsC (mx : Int → Int → Bool) (s : ngS) (τ : xS) : Prop := (∀ w : Nat, w < 3 → τ.1 265 w = s.1 w ∧ τ.1 266 w = s.2.1 w ∧ τ.1 267 w = s.2.2 w) ∧ ∀ a b : Int, 0 ≤ a ∧ a ≤ 3 → 0 ≤ b ∧ b ≤ 3 → (xiand (xshr (τ.1 258 10) (4 * a + b)) 1 = 0 ↔ mx a b = false)
/-- the reference's -/
def nsM (mx : Int → Int → Bool) (s : ngS) (τ : xS) : Prop := (∀ w : Nat, w < 3 → τ.1 385 w = s.1 w ∧ τ.1 386 w = s.2.1 w ∧ τ.1 387 w = s.2.2 w) ∧ ∀ a b : Int, 0 ≤ a ∧ a ≤ 3 → 0 ≤ b ∧ b ≤ 3 → (xna 4 (τ.1 388 (4 * a + b).toNat) = 0 ↔ mx a b = false)
/-- bounds -/
def nsB (s : ngS) (B : Int) : Prop := ∀ w : Nat, w < 3 → (0 ≤ s.1 w ∧ s.1 w ≤ B) ∧ (-1 ≤ s.2.1 w ∧ s.2.1 w ≤ 3) ∧ (0 ≤ s.2.2 w ∧ s.2.2 w ≤ B)
theorem ng_job (hP : pJ σ.1) {j : Nat} (hj : (j : Int) < σ.1 305 107) : (0 ≤ σ.1 378 j ∧ σ.1 378 j < 6) ∧ (1 ≤ σ.1 379 j ∧ σ.1 379 j ≤ 200) ∧ (0 ≤ σ.1 380 j ∧ σ.1 380 j ≤ 1440) ∧ (1 ≤ σ.1 306 (σ.1 378 j).toNat ∧ σ.1 306 (σ.1 378 j).toNat ≤ 60) ∧ (0 ≤ ng_k σ.1 j ∧ ng_k σ.1 j ≤ 3) ∧ (1 ≤ σ.1 308 (σ.1 378 j).toNat ∧ σ.1 308 (σ.1 378 j).toNat ≤ 90) := by
  have h6 := hP.1.2.1
  have h1 := hP.2.2.2.2.2.2.1.2.2.2.2.2.2 j (by omega)
  have h2 := hP.1.2.2 (σ.1 378 j).toNat (by omega)
  unfold ng_k
  omega
theorem ng_was (hP : pJ σ.1) {w : Nat} (hw : (w : Int) < σ.1 305 102) : (1 ≤ σ.1 375 w ∧ σ.1 375 w ≤ 5000) ∧ (1 ≤ σ.1 376 w ∧ σ.1 376 w ≤ 200) ∧ (0 ≤ σ.1 377 w ∧ σ.1 377 w ≤ 100) := hP.2.2.2.2.2.2.1.2.2.2.2.2.1 w (by omega)
theorem ng_cb (hP : pJ σ.1) {mx : Int → Int → Bool} {s : ngS} {w j : Nat} (hw : (w : Int) < σ.1 305 102) : 0 ≤ ng_c σ.1 mx s w j ∧ ng_c σ.1 mx s w j ≤ 100 := by
  have := ng_was hP hw
  unfold ng_c
  split
  · omega
  · split
    · omega
    · split <;> omega
theorem ng_rb (hP : pJ σ.1) {mx : Int → Int → Bool} {s : ngS} {w j : Nat} {B : Int} (hw : (w : Int) < σ.1 305 102) (hj : (j : Int) < σ.1 305 107) (hB : 0 ≤ s.1 w ∧ s.1 w ≤ B) : 0 ≤ ng_r σ.1 mx s w j ∧ ng_r σ.1 mx s w j ≤ B + 2400100 := by
  have h1 := ng_job hP hj
  have h2 := ng_was hP hw
  have h3 := ng_cb hP (mx := mx) (s := s) (j := j) hw
  have h4 := ng_lo h1.2.1 h1.2.2.2.1 h2.1
  have h5 := ng_M h2.2.1 h4.2
  unfold ng_r ng_l
  omega
theorem C_ready (hP : pJ σ.1) {mx : Int → Int → Bool} {s : ngS} {B : Int} (hB : B ≤ 1000000000) {τ : xS} (hτ : ag σ τ) (hs : nsC mx s τ) (hb : nsB s B) {w j : Nat} (hw : (w : Int) < σ.1 305 102) (hj : (j : Int) < σ.1 305 107) :
    X iNight_readyOn 0 [(2, 258), (0, (w : Int)), (0, (j : Int)), (9, 0), (9, 0), (9, 0)] [] τ = some ((0, ng_r σ.1 mx s w j), τ) := by
  have hN := hP.2.2.2.2.2.2.1
  have h102 := hN.2.2.1
  have h107 := hN.2.2.2.2.1
  obtain ⟨j1, j2, j3, j4, j5, j6⟩ := ng_job hP hj
  obtain ⟨w1, w2, w3⟩ := ng_was hP hw
  have hl := ng_lo j2 j4 w1
  have hm := ng_M w2 hl.2
  have hx := ng_x j2 j4 w1
  have hw3 : w < 3 := by omega
  obtain ⟨s1, s2, s3⟩ := hs.1 w hw3
  obtain ⟨b1, b2, b3⟩ := hb w hw3
  have xw3 : xin (w : Int) 3 := ⟨by omega, by omega⟩
  have xj7 : xin (j : Int) 7 := ⟨by omega, by omega⟩
  have xs6 : xin (σ.1 378 j) 6 := ⟨by omega, by omega⟩
  have e262 : τ.1 262 = σ.1 378 := by rw [hτ.cl (a := 262) (by omega), hN.2.1.1]
  have e263 : τ.1 263 = σ.1 379 := by rw [hτ.cl (a := 263) (by omega), hN.2.1.2.1]
  have e259 : τ.1 259 = σ.1 375 := by rw [hτ.cl (a := 259) (by omega), hN.1.1]
  have e260 : τ.1 260 = σ.1 376 := by rw [hτ.cl (a := 260) (by omega), hN.1.2.1]
  have e261 : τ.1 261 = σ.1 377 := by rw [hτ.cl (a := 261) (by omega), hN.1.2.2.1]
  have e202 : τ.1 202 = σ.1 306 := by rw [hτ.cl (a := 202) (by omega), hP.1.1.1]
  have e203 : τ.1 203 = σ.1 307 := by rw [hτ.cl (a := 203) (by omega), hP.1.1.2.1]
  have em : xmm 0 1 (σ.1 375 w) = σ.1 375 w := by
    show (if 1 < σ.1 375 w then σ.1 375 w else 1) = _
    split <;> omega
  have ek : σ.1 307 (σ.1 378 j).toNat = ng_k σ.1 j := rfl
  have fin : ∀ c, 0 ≤ c ∧ c ≤ 100 → xw (xw (s.1 w + c) + xw (σ.1 376 w * Int.tdiv (σ.1 379 j * σ.1 306 (σ.1 378 j).toNat + σ.1 375 w - 1) (σ.1 375 w))) = s.1 w + c + σ.1 376 w * ng_l σ.1 w j := by
    intro c hc
    unfold ng_l
    rw [xw_id (x := s.1 w + c) (by omega) (by omega), xw_id (x := σ.1 376 w * _) (by omega) (by omega), xw_id (by omega) (by omega)]
  rw [qNight_readyOn_0, if_pos xw3, if_pos xj7, if_pos xj7, Int.toNat_natCast, Int.toNat_natCast, e262, if_pos xs6, e259, em, if_neg (by omega), if_pos xw3, if_pos xj7, if_pos xs6, s2, e203, ek, s1, e263, e260, e261, e202, hx]
  unfold ng_r ng_c
  by_cases c1 : s.2.1 w = -1
  · rw [if_pos c1, if_pos xw3, if_pos xw3, if_pos c1, fin 0 (by decide)]
  · rw [if_neg c1]
    by_cases c2 : s.2.1 w = ng_k σ.1 j
    · rw [if_pos c2, if_pos xw3, if_pos xw3, if_neg c1, if_pos c2, fin 0 (by decide)]
    · have q := hs.2 (s.2.1 w) (ng_k σ.1 j) (by omega) j5
      have e4 : xw (xw (s.2.1 w * 4) + ng_k σ.1 j) = 4 * s.2.1 w + ng_k σ.1 j := by
        rw [xw_id (x := s.2.1 w * 4) (by omega) (by omega), xw_id (by omega) (by omega)]
        omega
      rw [if_neg c2, e4]
      by_cases c3 : mx (s.2.1 w) (ng_k σ.1 j) = false
      · rw [if_pos (q.mpr c3), if_pos xw3, if_pos xw3, if_pos xw3, if_neg c1, if_neg c2, if_pos c3, fin _ w3]
      · rw [if_neg (fun h => c3 (q.mp h)), if_pos xw3, if_pos xw3, if_neg c1, if_neg c2, if_neg c3, fin 0 (by decide)]
theorem M_ready (hP : pJ σ.1) {mx : Int → Int → Bool} {s : ngS} {B : Int} (hB : B ≤ 1000000000) {τ : xS} (hτ : ag σ τ) (hs : nsM mx s τ) (hb : nsB s B) {w j : Nat} (hw : (w : Int) < σ.1 305 102) (hj : (j : Int) < σ.1 305 107) :
    X iM_readyOn 0 [(2, 305), (0, (w : Int)), (0, (j : Int)), (9, 0), (9, 0), (9, 0)] [] τ = some ((0, ng_r σ.1 mx s w j), τ) := by
  have hN := hP.2.2.2.2.2.2.1
  have h102 := hN.2.2.1
  have h107 := hN.2.2.2.2.1
  obtain ⟨j1, j2, j3, j4, j5, j6⟩ := ng_job hP hj
  obtain ⟨w1, w2, w3⟩ := ng_was hP hw
  have hl := ng_lo j2 j4 w1
  have hm := ng_M w2 hl.2
  have hx := ng_x j2 j4 w1
  have hw3 : w < 3 := by omega
  obtain ⟨s1, s2, s3⟩ := hs.1 w hw3
  obtain ⟨b1, b2, b3⟩ := hb w hw3
  have xw3 : xin (w : Int) 3 := ⟨by omega, by omega⟩
  have xj7 : xin (j : Int) 7 := ⟨by omega, by omega⟩
  have xs6 : xin (σ.1 378 j) 6 := ⟨by omega, by omega⟩
  have e378 : τ.1 378 = σ.1 378 := hτ.cl (a := 378) (by omega)
  have e379 : τ.1 379 = σ.1 379 := hτ.cl (a := 379) (by omega)
  have e375 : τ.1 375 = σ.1 375 := hτ.cl (a := 375) (by omega)
  have e376 : τ.1 376 = σ.1 376 := hτ.cl (a := 376) (by omega)
  have e377 : τ.1 377 = σ.1 377 := hτ.cl (a := 377) (by omega)
  have e306 : τ.1 306 = σ.1 306 := hτ.cl (a := 306) (by omega)
  have e307 : τ.1 307 = σ.1 307 := hτ.cl (a := 307) (by omega)
  have ek : σ.1 307 (σ.1 378 j).toNat = ng_k σ.1 j := rfl
  have fin : ∀ c, 0 ≤ c ∧ c ≤ 100 → ∀ w3 w4 w5, X iM_readyOn 59 [(2, 305), (0, (w : Int)), (0, (j : Int)), w3, w4, w5] [(0, c)] τ = some ((0, s.1 w + c + σ.1 376 w * ng_l σ.1 w j), τ) := by
    intro c hc w3 w4 w5
    rw [qM_readyOn_59, if_pos xj7, if_pos xj7, Int.toNat_natCast, e378, if_pos xs6, if_pos xw3, if_pos xw3, Int.toNat_natCast, e375, if_neg (by omega), if_pos xw3, if_pos xw3, s1, e379, e306, e376, hx]
    unfold ng_l
    rw [Int.mul_comm (Int.tdiv _ _) (σ.1 376 w), xw_id (x := s.1 w + c) (by omega) (by omega), xw_id (x := σ.1 376 w * _) (by omega) (by omega), xw_id (by omega) (by omega)]
  rw [qM_readyOn_0, if_pos xj7, Int.toNat_natCast, Int.toNat_natCast, e378, if_pos xs6, if_pos xw3, s2, e307, ek]
  unfold ng_r ng_c
  by_cases c1 : s.2.1 w = -1
  · rw [if_pos (by omega), if_pos c1]
    exact fin 0 (by decide) _ _ _
  · rw [if_neg (by omega), if_pos xw3, if_neg c1]
    by_cases c2 : s.2.1 w = ng_k σ.1 j
    · rw [if_pos c2, if_pos c2]
      exact fin 0 (by decide) _ _ _
    · have q := hs.2 (s.2.1 w) (ng_k σ.1 j) (by omega) j5
      have e4 : xw (xw (4 * s.2.1 w) + ng_k σ.1 j) = 4 * s.2.1 w + ng_k σ.1 j := by
        rw [xw_id (x := 4 * s.2.1 w) (by omega) (by omega), xw_id (by omega) (by omega)]
      rw [if_neg c2, if_neg c2, if_pos xw3, e4, if_pos (xin_of (by omega) (by omega))]
      clear e4
      by_cases c3 : mx (s.2.1 w) (ng_k σ.1 j) = false
      · rw [if_pos (q.mpr c3), if_pos xw3, e377, if_pos c3]
        exact fin _ w3 _ _ _
      · rw [if_neg (fun h => c3 (q.mp h)), if_neg c3]
        exact fin 0 (by decide) _ _ _
end NIGHTA

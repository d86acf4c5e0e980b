/-! which statement; what names are -/
/-- the last place with a property: -1 without one -/
def lp (p : Nat → Prop) [DecidablePred p] : Nat → Int
  | 0 => -1
  | n + 1 => if p n then (n : Int) else lp p n
theorem lp_lt {p : Nat → Prop} {D : DecidablePred p} : ∀ {n : Nat}, -1 ≤ lp p n ∧ lp p n < n ∧ (0 ≤ lp p n → p (lp p n).toNat)
  | 0 => ⟨show (-1 : Int) ≤ -1 by decide, show (-1 : Int) < 0 by decide, fun q => absurd q (show ¬ (0 : Int) ≤ -1 by decide)⟩
  | n + 1 => by
    have ih := lp_lt (p := p) (D := D) (n := n)
    show -1 ≤ (if p n then (n : Int) else lp p n) ∧ (if p n then (n : Int) else lp p n) < ((n + 1 : Nat) : Int) ∧ (0 ≤ (if p n then (n : Int) else lp p n) → p (if p n then (n : Int) else lp p n).toNat)
    by_cases c : p n
    · rw [if_pos c]; exact ⟨by omega, by omega, fun _ => by rw [Int.toNat_natCast]; exact c⟩
    · rw [if_neg c]; exact ⟨ih.1, by omega, ih.2.2⟩
theorem lp_cg {p q : Nat → Prop} {D : DecidablePred p} {D' : DecidablePred q} : ∀ {n : Nat}, (∀ j, j < n → (p j ↔ q j)) → lp p n = lp q n
  | 0, _ => rfl
  | n + 1, h => by
    show (if p n then (n : Int) else lp p n) = if q n then (n : Int) else lp q n
    rw [lp_cg (n := n) fun j hj => h j (by omega)]
    by_cases c : p n
    · rw [if_pos c, if_pos ((h n (by omega)).mp c)]
    · rw [if_neg c, if_neg (fun q => c ((h n (by omega)).mpr q))]
/-- its node -/
def ndo (cs : Nat → Nat) (r : Int) : Int := if r < 0 then 0 else (cs r.toNat : Int)
theorem ndo_s {cs : Nat → Nat} {p : Nat → Prop} {D : DecidablePred p} {n : Nat} : ndo cs (lp p (n + 1)) = if p n then (cs n : Int) else ndo cs (lp p n) := by
  show ndo cs (if p n then (n : Int) else lp p n) = _
  by_cases c : p n
  · rw [if_pos c, if_pos c]
    unfold ndo
    rw [if_neg (by omega), Int.toNat_natCast]
  · rw [if_neg c, if_neg c]
section WHICH
variable {σ : xS} {x F M T N : Nat} {cs : Nat → Nat}
theorem tB_n (hB : te_B σ.1 σ.2.1 x F M T N cs) {j : Nat} (hj : j < M) : nd σ.2.1 (cs j) := (hB.2.2.2.2.2 j hj).1.1
theorem tB_0 (hB : te_B σ.1 σ.2.1 x F M T N cs) {j : Nat} (hj : j < M) : σ.1 (cs j) 0 = 2 + σ.1 344 (F + j) := (hB.2.2.2.2.2 j hj).1.2.1
theorem tB_k (hB : te_B σ.1 σ.2.1 x F M T N cs) {j : Nat} (hj : j < M) : 0 ≤ σ.1 344 (F + j) ∧ σ.1 344 (F + j) ≤ 6 := (hB.2.2.2.2.2 j hj).1.2.2.1
theorem tB_7 (hB : te_B σ.1 σ.2.1 x F M T N cs) {j : Nat} (hj : j < M) : σ.1 (cs j) 7 = cn cs M (j + 1) := (hB.2.2.2.2.2 j hj).2
theorem tB_T (hB : te_B σ.1 σ.2.1 x F M T N cs) (k : Nat) : xfld xE1 σ (T : Int) 11 k = some (σ.1 T k) := xfld_new k hB.2.2.2.1.1.1 hB.2.2.2.1.1.2
theorem tB_is (hB : te_B σ.1 σ.2.1 x F M T N cs) : xisO xE1 σ (T : Int) 11 = true := xisO_new hB.2.2.2.1.1.1 hB.2.2.2.1.1.2
theorem xcm_k {w : Int} (h : 2 ≤ w ∧ w ≤ 39) : xcm w = true := by
  have h1 : Nat.ble 2 w.toNat = true := Nat.ble_eq_true_of_le (by omega)
  have h2 : Nat.ble w.toNat 39 = true := Nat.ble_eq_true_of_le (by omega)
  unfold xcm
  rw [h1, h2]
  cases Nat.beq w.toNat 0 <;> rfl
theorem C_lastOf_7 (hB : te_B σ.1 σ.2.1 x F M T N cs) {K : Int} (hK : 2 ≤ K ∧ K ≤ 39) (w0 : xAV) : ∀ (n j : Nat), j + n = M → X iTerms_lastOf 7 [w0, (2, K), (2, ndo cs (lp (fun j => 2 + σ.1 344 (F + j) = K) j)), (2, cn cs M j)] [] σ = some ((2, ndo cs (lp (fun j => 2 + σ.1 344 (F + j) = K) M)), σ) := by
  intro n
  induction n with
  | zero =>
    intro j hj
    rw [qTerms_lastOf_7, cn_ge (by omega), if_pos rfl, show j = M by omega]
  | succ n ih =>
    intro j hj
    have hn := tB_n hB (j := j) (by omega)
    have hk := tB_k hB (j := j) (by omega)
    have k := ih (j + 1) (by omega)
    rw [ndo_s] at k
    rw [qTerms_lastOf_7, cn_lt (by omega), if_neg (nz hn.1), nd_f hn, xob_some, tB_0 hB (by omega), xcm_k (by omega), xcm_k hK, show (true && true) = true from rfl, cnd_t]
    by_cases c : 2 + σ.1 344 (F + j) = K
    · rw [if_pos c, nd_f hn, xob_some, tB_7 hB (by omega)]
      rw [if_pos c] at k
      exact k
    · rw [if_neg c, nd_f hn, xob_some, tB_7 hB (by omega)]
      rw [if_neg c] at k
      exact k
theorem C_lastOf (hB : te_B σ.1 σ.2.1 x F M T N cs) {K : Int} (hK : 2 ≤ K ∧ K ≤ 39) : X iTerms_lastOf 0 [(2, (T : Int)), (2, K), (9, 0), (9, 0)] [] σ = some ((2, ndo cs (lp (fun j => 2 + σ.1 344 (F + j) = K) M)), σ) := by
  rw [qTerms_lastOf_0, tB_T hB, xob_some, hB.2.2.2.2.1]
  exact C_lastOf_7 hB hK _ M 0 (by omega)
theorem C_lastLoss_7 (hB : te_B σ.1 σ.2.1 x F M T N cs) {P : Int} (hP : 0 ≤ P ∧ P ≤ 2) (w0 : xAV) : ∀ (n j : Nat), j + n = M → X iTerms_lastLoss 7 [w0, (2, 9 + P), (2, ndo cs (lp (fun j => σ.1 344 (F + j) = 2 ∧ σ.1 345 (F + j) = P) j)), (2, cn cs M j)] [] σ = some ((2, ndo cs (lp (fun j => σ.1 344 (F + j) = 2 ∧ σ.1 345 (F + j) = P) M)), σ) := by
  intro n
  induction n with
  | zero =>
    intro j hj
    rw [qTerms_lastLoss_7, cn_ge (by omega), if_pos rfl, show j = M by omega]
  | succ n ih =>
    intro j hj
    have hn := tB_n hB (j := j) (by omega)
    have hk := tB_k hB (j := j) (by omega)
    have k := ih (j + 1) (by omega)
    rw [ndo_s] at k
    rw [qTerms_lastLoss_7, cn_lt (by omega), if_neg (nz hn.1), nd_f hn, xob_some, tB_0 hB (by omega), xcm_k (by omega), xcm_k (by decide), show (true && true) = true from rfl, cnd_t]
    by_cases c : σ.1 344 (F + j) = 2
    · have h3 := (hB.2.2.2.2.2 j (by omega)).1.2.2.2.2.2.1 c
      rw [if_pos (by omega), nd_f hn, xob_some, h3.1, xcm_k (by omega), xcm_k (by omega), show (true && true) = true from rfl, cnd_t]
      by_cases d : σ.1 345 (F + j) = P
      · rw [if_pos (by omega), nd_f hn, xob_some, tB_7 hB (by omega)]
        rw [if_pos ⟨c, d⟩] at k
        exact k
      · rw [if_neg (by omega), nd_f hn, xob_some, tB_7 hB (by omega)]
        rw [if_neg (fun q => d q.2)] at k
        exact k
    · rw [if_neg (by omega), nd_f hn, xob_some, tB_7 hB (by omega)]
      rw [if_neg (fun q => c q.1)] at k
      exact k
theorem C_lastLoss (hB : te_B σ.1 σ.2.1 x F M T N cs) {P : Int} (hP : 0 ≤ P ∧ P ≤ 2) : X iTerms_lastLoss 0 [(2, (T : Int)), (2, 9 + P), (9, 0), (9, 0)] [] σ = some ((2, ndo cs (lp (fun j => σ.1 344 (F + j) = 2 ∧ σ.1 345 (F + j) = P) M)), σ) := by
  rw [qTerms_lastLoss_0, tB_T hB, xob_some, hB.2.2.2.2.1]
  exact C_lastLoss_7 hB hP _ M 0 (by omega)
/-- the "price" that is due -/
def te_p (m : Nat → Nat → Int) (F M : Nat) (s : Int) : Int := if lp (fun j => m 344 (F + j) = 1 ∧ m 345 (F + j) = s) M < 0 then lp (fun j => m 344 (F + j) = 1 ∧ m 345 (F + j) = -1) M else lp (fun j => m 344 (F + j) = 1 ∧ m 345 (F + j) = s) M
theorem C_lastPrice_10 (hB : te_B σ.1 σ.2.1 x F M T N cs) (s : Int) (w0 : xAV) : ∀ (n j : Nat), j + n = M → X iTerms_lastPrice 10 [w0, (0, s), (2, ndo cs (lp (fun j => σ.1 344 (F + j) = 1 ∧ σ.1 345 (F + j) = s) j)), (2, ndo cs (lp (fun j => σ.1 344 (F + j) = 1 ∧ σ.1 345 (F + j) = -1) j)), (2, cn cs M j)] [] σ = some ((2, ndo cs (te_p σ.1 F M s)), σ) := by
  intro n
  induction n with
  | zero =>
    intro j hj
    have ej : j = M := by omega
    subst ej
    rw [qTerms_lastPrice_10, cn_ge (by omega), if_pos rfl]
    have h := lp_lt (p := fun j => σ.1 344 (F + j) = 1 ∧ σ.1 345 (F + j) = s) (D := fun _ => inferInstance) (n := j)
    unfold te_p
    by_cases c : lp (fun j => σ.1 344 (F + j) = 1 ∧ σ.1 345 (F + j) = s) j < 0
    · rw [if_pos c, show ndo cs (lp (fun j => σ.1 344 (F + j) = 1 ∧ σ.1 345 (F + j) = s) j) = 0 from if_pos c, if_pos rfl]
    · have e : ndo cs (lp (fun j => σ.1 344 (F + j) = 1 ∧ σ.1 345 (F + j) = s) j) = (cs (lp (fun j => σ.1 344 (F + j) = 1 ∧ σ.1 345 (F + j) = s) j).toNat : Int) := if_neg c
      have hn := tB_n hB (j := (lp (fun j => σ.1 344 (F + j) = 1 ∧ σ.1 345 (F + j) = s) j).toNat) (by omega)
      rw [if_neg c, e, if_neg (nz hn.1)]
  | succ n ih =>
    intro j hj
    have hn := tB_n hB (j := j) (by omega)
    have hk := tB_k hB (j := j) (by omega)
    have k := ih (j + 1) (by omega)
    rw [ndo_s, ndo_s] at k
    rw [qTerms_lastPrice_10, cn_lt (by omega), if_neg (nz hn.1), nd_f hn, xob_some, tB_0 hB (by omega), xcm_k (by omega), xcm_k (by decide), show (true && true) = true from rfl, cnd_t]
    by_cases c : σ.1 344 (F + j) = 1
    · have h3 := (hB.2.2.2.2.2 j (by omega)).1.2.2.2.2.1 c
      rw [if_pos (by omega), nd_f hn, xob_some, h3.1]
      by_cases d : σ.1 345 (F + j) = s
      · rw [if_pos ⟨c, d⟩] at k
        rw [if_pos d, nd_f hn, xob_some]
        by_cases e : σ.1 345 (F + j) = -1
        · rw [if_pos ⟨c, e⟩] at k
          rw [if_pos e, xob_some, tB_7 hB (by omega)]
          exact k
        · rw [if_neg (fun q => e q.2)] at k
          rw [if_neg e, xob_some, tB_7 hB (by omega)]
          exact k
      · rw [if_neg (fun q => d q.2)] at k
        rw [if_neg d, nd_f hn, xob_some]
        by_cases e : σ.1 345 (F + j) = -1
        · rw [if_pos ⟨c, e⟩] at k
          rw [if_pos e, xob_some, tB_7 hB (by omega)]
          exact k
        · rw [if_neg (fun q => e q.2)] at k
          rw [if_neg e, xob_some, tB_7 hB (by omega)]
          exact k
    · rw [if_neg (fun q => c q.1), if_neg (fun q => c q.1)] at k
      rw [if_neg (by omega), nd_f hn, xob_some, tB_7 hB (by omega)]
      exact k
theorem C_lastPrice (hB : te_B σ.1 σ.2.1 x F M T N cs) (s : Int) : X iTerms_lastPrice 0 [(2, (T : Int)), (0, s), (9, 0), (9, 0), (9, 0)] [] σ = some ((2, ndo cs (te_p σ.1 F M s)), σ) := by
  rw [qTerms_lastPrice_0, tB_T hB, xob_some, hB.2.2.2.2.1]
  exact C_lastPrice_10 hB s _ M 0 (by omega)
/-- the first "feast" that has a day, from place j on: so many places -/
def te_fe (m : Nat → Nat → Int) (F : Nat) (d : Int) : Nat → Nat → Int
  | 0, _ => -1
  | n + 1, j => if m 344 (F + j) = 4 ∧ m 345 (F + j) ≤ d ∧ d ≤ m 346 (F + j) then (j : Int) else te_fe m F d n (j + 1)
theorem te_fe_lt {m : Nat → Nat → Int} {F : Nat} {d : Int} : ∀ {n j : Nat}, te_fe m F d n j = -1 ∨ ((j : Int) ≤ te_fe m F d n j ∧ te_fe m F d n j < ((j + n : Nat) : Int) ∧ m 344 (F + (te_fe m F d n j).toNat) = 4)
  | 0, j => Or.inl rfl
  | n + 1, j => by
    have ih := te_fe_lt (m := m) (F := F) (d := d) (n := n) (j := j + 1)
    show (if m 344 (F + j) = 4 ∧ m 345 (F + j) ≤ d ∧ d ≤ m 346 (F + j) then (j : Int) else te_fe m F d n (j + 1)) = -1 ∨ _
    have key : ∀ r : Int, r = (if m 344 (F + j) = 4 ∧ m 345 (F + j) ≤ d ∧ d ≤ m 346 (F + j) then (j : Int) else te_fe m F d n (j + 1)) → r = -1 ∨ ((j : Int) ≤ r ∧ r < ((j + (n + 1) : Nat) : Int) ∧ m 344 (F + r.toNat) = 4) := by
      intro r hr
      by_cases c : m 344 (F + j) = 4 ∧ m 345 (F + j) ≤ d ∧ d ≤ m 346 (F + j)
      · rw [if_pos c] at hr
        rw [hr]
        exact Or.inr ⟨by omega, by omega, by rw [Int.toNat_natCast]; exact c.1⟩
      · rw [if_neg c] at hr
        rw [hr]
        rcases ih with ih | ⟨i1, i2, i3⟩
        · exact Or.inl ih
        · exact Or.inr ⟨by omega, by omega, i3⟩
    exact key _ rfl
theorem C_firstFeast_5 (hB : te_B σ.1 σ.2.1 x F M T N cs) (d : Int) (w0 : xAV) : ∀ (n j : Nat), j + n = M → X iTerms_firstFeast 5 [w0, (0, d), (2, cn cs M j)] [] σ = some ((2, ndo cs (te_fe σ.1 F d n j)), σ) := by
  intro n
  induction n with
  | zero =>
    intro j hj
    rw [qTerms_firstFeast_5, cn_ge (by omega), if_pos rfl]
    rfl
  | succ n ih =>
    intro j hj
    have hn := tB_n hB (j := j) (by omega)
    have hk := tB_k hB (j := j) (by omega)
    have k := ih (j + 1) (by omega)
    rw [qTerms_firstFeast_5, cn_lt (by omega), if_neg (nz hn.1), nd_f hn, xob_some, tB_0 hB (by omega), xcm_k (by omega), xcm_k (by decide), show (true && true) = true from rfl, cnd_t]
    show _ = some ((2, ndo cs (if σ.1 344 (F + j) = 4 ∧ σ.1 345 (F + j) ≤ d ∧ d ≤ σ.1 346 (F + j) then (j : Int) else te_fe σ.1 F d n (j + 1))), σ)
    by_cases c : σ.1 344 (F + j) = 4
    · have h3 := (hB.2.2.2.2.2 j (by omega)).1.2.2.2.2.2.2.2.1 (by omega)
      rw [if_pos (by omega), nd_f hn, xob_some, h3.1.1]
      by_cases c1 : d < σ.1 345 (F + j)
      · rw [if_pos c1, nd_f hn, xob_some, tB_7 hB (by omega), k, if_neg (show ¬ (σ.1 344 (F + j) = 4 ∧ σ.1 345 (F + j) ≤ d ∧ d ≤ σ.1 346 (F + j)) by omega)]
      · rw [if_neg c1, nd_f hn, xob_some, h3.1.2]
        by_cases c2 : σ.1 346 (F + j) < d
        · rw [if_pos c2, nd_f hn, xob_some, tB_7 hB (by omega), k, if_neg (show ¬ (σ.1 344 (F + j) = 4 ∧ σ.1 345 (F + j) ≤ d ∧ d ≤ σ.1 346 (F + j)) by omega)]
        · rw [if_neg c2, if_pos (show σ.1 344 (F + j) = 4 ∧ σ.1 345 (F + j) ≤ d ∧ d ≤ σ.1 346 (F + j) by omega)]
          unfold ndo
          rw [if_neg (by omega), Int.toNat_natCast]
    · rw [if_neg (by omega), nd_f hn, xob_some, tB_7 hB (by omega), k, if_neg (show ¬ (σ.1 344 (F + j) = 4 ∧ σ.1 345 (F + j) ≤ d ∧ d ≤ σ.1 346 (F + j)) by omega)]
theorem C_firstFeast (hB : te_B σ.1 σ.2.1 x F M T N cs) (d : Int) : X iTerms_firstFeast 0 [(2, (T : Int)), (0, d), (9, 0)] [] σ = some ((2, ndo cs (te_fe σ.1 F d M 0)), σ) := by
  rw [qTerms_firstFeast_0, tB_T hB, xob_some, hB.2.2.2.2.1]
  exact C_firstFeast_5 hB d _ M 0 (by omega)
end WHICH

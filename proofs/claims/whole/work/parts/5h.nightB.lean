/-! the night: the first washer, the first dryer, a job done -/
/-- the first of the least from f on, k to k + u still to be looked at -/
def ng_fl (r : Nat → Int) : Nat → Nat → Nat → Nat
  | 0, f, _ => f
  | u + 1, f, k => ng_fl r u (if r k < r f then k else f) (k + 1)
theorem ng_fl_lt {r : Nat → Int} {n : Nat} : ∀ {u f k : Nat}, f < n → k + u ≤ n → ng_fl r u f k < n
  | 0, _, _, hf, _ => hf
  | u + 1, f, k, hf, hk => by
    show ng_fl r u (if r k < r f then k else f) (k + 1) < n
    refine ng_fl_lt ?_ (by omega)
    split
    · omega
    · exact hf
def ng_w (m : Nat → Nat → Int) (mx : Int → Int → Bool) (s : ngS) (j : Nat) : Nat := ng_fl (fun w => ng_r m mx s w j) ((m 305 102).toNat - 1) 0 1
def ng_d (m : Nat → Nat → Int) (s : ngS) : Nat := ng_fl s.2.2 ((m 305 103).toNat - 1) 0 1
def mxi (a b : Int) : Int := if a < b then b else a
/-- when a job is dry -/
def ng_y (m : Nat → Nat → Int) (mx : Int → Int → Bool) (s : ngS) (j : Nat) : Int := mxi (ng_r m mx s (ng_w m mx s j) j) (s.2.2 (ng_d m s)) + m 308 (m 378 j).toNat * Int.tdiv (m 379 j + 9) 10
/-- the machines behind it -/
def ng_s (m : Nat → Nat → Int) (mx : Int → Int → Bool) (s : ngS) (j : Nat) : ngS := (xup s.1 (ng_w m mx s j) (ng_r m mx s (ng_w m mx s j) j), xup s.2.1 (ng_w m mx s j) (ng_k m j), xup s.2.2 (ng_d m s) (ng_y m mx s j))
/-- machines, late and end, dry at -/
def ng_t (m : Nat → Nat → Int) (mx : Int → Int → Bool) (S : ngS × (Int × Int) × (Nat → Int)) (j : Nat) : ngS × (Int × Int) × (Nat → Int) := (ng_s m mx S.1 j, (S.2.1.1 + (if m 380 j < ng_y m mx S.1 j then m 379 j else 0), mxi S.2.1.2 (ng_y m mx S.1 j)), xup S.2.2 j (ng_y m mx S.1 j))
def ng_0 : ngS := (fun _ => 0, fun _ => -1, fun _ => 0)
def ng_p (m : Nat → Nat → Int) (mx : Int → Int → Bool) (p : List Nat) : ngS × (Int × Int) × (Nat → Int) := p.foldl (ng_t m mx) (ng_0, (0, 0), fun _ => 0)
theorem ng_snoc {m : Nat → Nat → Int} {mx : Int → Int → Bool} {p : List Nat} {j : Nat} : ng_p m mx (p ++ [j]) = ng_t m mx (ng_p m mx p) j := by
  unfold ng_p
  rw [List.foldl_append]
  rfl
section NIGHTB
variable {σ : xS}
theorem ng_wl (hP : pJ σ.1) (h1 : 1 ≤ σ.1 305 102) (mx : Int → Int → Bool) (s : ngS) (j : Nat) : (ng_w σ.1 mx s j : Int) < σ.1 305 102 := by
  have := ng_fl_lt (r := fun w => ng_r σ.1 mx s w j) (n := (σ.1 305 102).toNat) (u := (σ.1 305 102).toNat - 1) (f := 0) (k := 1) (by omega) (by omega)
  unfold ng_w
  omega
theorem ng_dl (hP : pJ σ.1) (s : ngS) : (ng_d σ.1 s : Int) < σ.1 305 103 := by
  have h103 := hP.2.2.2.2.2.2.1.2.2.2.1
  have := ng_fl_lt (r := s.2.2) (n := (σ.1 305 103).toNat) (u := (σ.1 305 103).toNat - 1) (f := 0) (k := 1) (by omega) (by omega)
  unfold ng_d
  omega
theorem ng_dm (hP : pJ σ.1) {j : Nat} (hj : (j : Int) < σ.1 305 107) : 0 ≤ σ.1 308 (σ.1 378 j).toNat * Int.tdiv (σ.1 379 j + 9) 10 ∧ σ.1 308 (σ.1 378 j).toNat * Int.tdiv (σ.1 379 j + 9) 10 ≤ 1800 ∧ 0 ≤ Int.tdiv (σ.1 379 j + 9) 10 ∧ Int.tdiv (σ.1 379 j + 9) 10 ≤ 20 := by
  obtain ⟨j1, j2, j3, j4, j5, j6⟩ := ng_job hP hj
  generalize σ.1 308 (σ.1 378 j).toNat = a at *
  generalize σ.1 379 j = p at *
  obtain ⟨p, rfl⟩ : ∃ n : Nat, p = n := ⟨p.toNat, by omega⟩
  obtain ⟨a, rfl⟩ : ∃ n : Nat, a = n := ⟨a.toNat, by omega⟩
  have e : Int.tdiv ((p : Int) + 9) 10 = (((p + 9) / 10 : Nat) : Int) := rfl
  have h1 : (p + 9) / 10 ≤ 20 := by omega
  have h2 : a * ((p + 9) / 10) ≤ 90 * 20 := Nat.mul_le_mul (by omega) h1
  rw [e, ← Int.natCast_mul]
  omega
theorem ng_yb (hP : pJ σ.1) (h1 : 1 ≤ σ.1 305 102) {mx : Int → Int → Bool} {s : ngS} {B : Int} (hb : nsB s B) {j : Nat} (hj : (j : Int) < σ.1 305 107) : (0 ≤ ng_r σ.1 mx s (ng_w σ.1 mx s j) j ∧ ng_r σ.1 mx s (ng_w σ.1 mx s j) j ≤ B + 2400100) ∧ 0 ≤ ng_y σ.1 mx s j ∧ ng_y σ.1 mx s j ≤ B + 2410000 := by
  have h102 := hP.2.2.2.2.2.2.1.2.2.1
  have h103 := hP.2.2.2.2.2.2.1.2.2.2.1
  have hw := ng_wl hP h1 mx s j
  have hd := ng_dl hP s
  have h2 := ng_rb hP (mx := mx) hw hj (hb _ (by omega)).1
  have h3 := (hb (ng_d σ.1 s) (by omega)).2.2
  have h4 := ng_dm hP hj
  refine ⟨h2, ?_⟩
  unfold ng_y mxi
  split <;> omega
theorem ng_sb (hP : pJ σ.1) (h1 : 1 ≤ σ.1 305 102) {mx : Int → Int → Bool} {s : ngS} {B : Int} (hB : 0 ≤ B) (hb : nsB s B) {j : Nat} (hj : (j : Int) < σ.1 305 107) : nsB (ng_s σ.1 mx s j) (B + 2410000) := by
  have h2 := ng_yb hP h1 (mx := mx) hb hj
  have h5 := (ng_job hP hj).2.2.2.2.1
  intro w hw
  have h3 := hb w hw
  show (0 ≤ xup s.1 (ng_w σ.1 mx s j) (ng_r σ.1 mx s (ng_w σ.1 mx s j) j) w ∧ xup s.1 (ng_w σ.1 mx s j) (ng_r σ.1 mx s (ng_w σ.1 mx s j) j) w ≤ B + 2410000) ∧ (-1 ≤ xup s.2.1 (ng_w σ.1 mx s j) (ng_k σ.1 j) w ∧ xup s.2.1 (ng_w σ.1 mx s j) (ng_k σ.1 j) w ≤ 3) ∧ (0 ≤ xup s.2.2 (ng_d σ.1 s) (ng_y σ.1 mx s j) w ∧ xup s.2.2 (ng_d σ.1 s) (ng_y σ.1 mx s j) w ≤ B + 2410000)
  rw [xup_at, xup_at, xup_at]
  refine ⟨?_, ?_, ?_⟩ <;> split <;> omega
/-- what is reached along an order -/
theorem ng_pb (hP : pJ σ.1) (h1 : 1 ≤ σ.1 305 102) (mx : Int → Int → Bool) : ∀ {p : List Nat}, (∀ x ∈ p, (x : Int) < σ.1 305 107) → nsB (ng_p σ.1 mx p).1 (2410000 * p.length) ∧ (0 ≤ (ng_p σ.1 mx p).2.1.1 ∧ (ng_p σ.1 mx p).2.1.1 ≤ 200 * p.length) ∧ (0 ≤ (ng_p σ.1 mx p).2.1.2 ∧ (ng_p σ.1 mx p).2.1.2 ≤ 2410000 * p.length) := by
  intro p
  induction p using snocRec with
  | nil =>
    intro _
    refine ⟨fun w _ => ⟨⟨Int.le_refl 0, Int.le_refl 0⟩, ⟨Int.le_refl (-1), show (-1 : Int) ≤ 3 by decide⟩, Int.le_refl 0, Int.le_refl 0⟩, ⟨Int.le_refl 0, Int.le_refl 0⟩, Int.le_refl 0, Int.le_refl 0⟩
  | append_singleton p j ih =>
    intro hp
    obtain ⟨i1, i2, i3⟩ := ih fun x hx => hp x (List.mem_append_left _ hx)
    have hj := hp j (List.mem_append_right _ List.mem_cons_self)
    have h2 := ng_sb hP h1 (mx := mx) (by omega) i1 hj
    have h3 := ng_yb hP h1 (mx := mx) i1 hj
    have h4 := (ng_job hP hj).2.1
    have hl : (p ++ [j]).length = p.length + 1 := by rw [List.length_append]; rfl
    have el : (2410000 : Int) * ((p.length + 1 : Nat) : Int) = 2410000 * (p.length : Int) + 2410000 := by omega
    rw [ng_snoc, hl, el]
    refine ⟨h2, ?_, ?_⟩
    · show 0 ≤ (ng_p σ.1 mx p).2.1.1 + (if σ.1 380 j < ng_y σ.1 mx (ng_p σ.1 mx p).1 j then σ.1 379 j else 0) ∧ (ng_p σ.1 mx p).2.1.1 + (if σ.1 380 j < ng_y σ.1 mx (ng_p σ.1 mx p).1 j then σ.1 379 j else 0) ≤ 200 * ((p.length + 1 : Nat) : Int)
      split <;> omega
    · show 0 ≤ mxi (ng_p σ.1 mx p).2.1.2 (ng_y σ.1 mx (ng_p σ.1 mx p).1 j) ∧ mxi (ng_p σ.1 mx p).2.1.2 (ng_y σ.1 mx (ng_p σ.1 mx p).1 j) ≤ 2410000 * (p.length : Int) + 2410000
      unfold mxi
      split <;> omega
/-- late and end only grow -/
theorem ng_mono (hP : pJ σ.1) (mx : Int → Int → Bool) {p : List Nat} : ∀ {r : List Nat}, (∀ x ∈ p ++ r, (x : Int) < σ.1 305 107) → (ng_p σ.1 mx p).2.1.1 ≤ (ng_p σ.1 mx (p ++ r)).2.1.1 ∧ (ng_p σ.1 mx p).2.1.2 ≤ (ng_p σ.1 mx (p ++ r)).2.1.2 := by
  intro r
  induction r using snocRec with
  | nil =>
    intro _
    rw [List.append_nil]
    exact ⟨Int.le_refl _, Int.le_refl _⟩
  | append_singleton r j ih =>
    intro hp
    have hp' : ∀ x ∈ p ++ r, (x : Int) < σ.1 305 107 := fun x hx => hp x (by rw [← List.append_assoc]; exact List.mem_append_left _ hx)
    obtain ⟨i1, i2⟩ := ih hp'
    have hj := hp j (by simp)
    have h4 := (ng_job hP hj).2.1
    rw [← List.append_assoc, ng_snoc]
    show (ng_p σ.1 mx p).2.1.1 ≤ (ng_p σ.1 mx (p ++ r)).2.1.1 + (if σ.1 380 j < ng_y σ.1 mx (ng_p σ.1 mx (p ++ r)).1 j then σ.1 379 j else 0) ∧ (ng_p σ.1 mx p).2.1.2 ≤ mxi (ng_p σ.1 mx (p ++ r)).2.1.2 (ng_y σ.1 mx (ng_p σ.1 mx (p ++ r)).1 j)
    unfold mxi
    refine ⟨?_, ?_⟩ <;> split <;> omega
theorem C_firstReady_4 (hP : pJ σ.1) {mx : Int → Int → Bool} {s : ngS} {B : Int} (hB : B ≤ 1000000000) {τ : xS} (hτ : ag σ τ) (hs : nsC mx s τ) (hb : nsB s B) {j : Nat} (hj : (j : Int) < σ.1 305 107) : ∀ (u f k : Nat), (k : Int) + u = σ.1 305 102 → (f : Int) < σ.1 305 102 →
    X iNight_firstReady 4 [(2, 258), (0, (j : Int)), (0, (f : Int)), (0, (k : Int))] [] τ = some ((0, (ng_fl (fun w => ng_r σ.1 mx s w j) u f k : Int)), τ) := by
  have hN := hP.2.2.2.2.2.2.1
  have h102 := hN.2.2.1
  have e4 : τ.1 258 4 = σ.1 305 102 := by rw [hτ.sl (a := 258) (k := 4) rfl, hN.1.2.2.2.1]
  intro u
  induction u with
  | zero =>
    intro f k hk hf
    rw [qNight_firstReady_4, e4, if_neg (by omega)]
    rfl
  | succ u ih =>
    intro f k hk hf
    rw [qNight_firstReady_4, e4, if_pos (by omega), C_ready hP hB hτ hs hb (by omega) hj]
    simp only [Option.bind_some]
    rw [qNight_firstReady_18, C_ready hP hB hτ hs hb hf hj]
    simp only [Option.bind_some]
    rw [qNight_firstReady_24, xw_s (by omega)]
    show _ = some ((0, (ng_fl (fun w => ng_r σ.1 mx s w j) u (if ng_r σ.1 mx s k j < ng_r σ.1 mx s f j then k else f) (k + 1) : Int)), τ)
    by_cases c : ng_r σ.1 mx s k j < ng_r σ.1 mx s f j
    · rw [if_pos c, if_pos c]
      exact ih k (k + 1) (by omega) (by omega)
    · rw [if_neg c, if_neg c]
      exact ih f (k + 1) (by omega) hf
theorem C_firstReady (hP : pJ σ.1) (h1 : 1 ≤ σ.1 305 102) {mx : Int → Int → Bool} {s : ngS} {B : Int} (hB : B ≤ 1000000000) {τ : xS} (hτ : ag σ τ) (hs : nsC mx s τ) (hb : nsB s B) {j : Nat} (hj : (j : Int) < σ.1 305 107) : X iNight_firstReady 0 [(2, 258), (0, (j : Int)), (9, 0), (9, 0)] [] τ = some ((0, (ng_w σ.1 mx s j : Int)), τ) := by
  rw [qNight_firstReady_0]
  exact C_firstReady_4 hP hB hτ hs hb hj ((σ.1 305 102).toNat - 1) 0 1 (by omega) (by omega)
theorem C_firstDryer_4 (hP : pJ σ.1) {mx : Int → Int → Bool} {s : ngS} {τ : xS} (hτ : ag σ τ) (hs : nsC mx s τ) : ∀ (u f k : Nat), (k : Int) + u = σ.1 305 103 → (f : Int) < σ.1 305 103 →
    X iNight_firstDryer 4 [(2, 258), (0, (f : Int)), (0, (k : Int))] [] τ = some ((0, (ng_fl s.2.2 u f k : Int)), τ) := by
  have hN := hP.2.2.2.2.2.2.1
  have h103 := hN.2.2.2.1
  have e5 : τ.1 258 5 = σ.1 305 103 := by rw [hτ.sl (a := 258) (k := 5) rfl, hN.1.2.2.2.2]
  intro u
  induction u with
  | zero =>
    intro f k hk hf
    rw [qNight_firstDryer_4, e5, if_neg (by omega)]
    rfl
  | succ u ih =>
    intro f k hk hf
    rw [qNight_firstDryer_4, e5, if_pos (by omega), if_pos (xin_of (by omega) (by omega)), if_pos (xin_of (by omega) (by omega)), Int.toNat_natCast, Int.toNat_natCast, (hs.1 k (by omega)).2.2, (hs.1 f (by omega)).2.2, xw_s (by omega)]
    show _ = some ((0, (ng_fl s.2.2 u (if s.2.2 k < s.2.2 f then k else f) (k + 1) : Int)), τ)
    by_cases c : s.2.2 k < s.2.2 f
    · rw [if_pos c, if_pos c]
      exact ih k (k + 1) (by omega) (by omega)
    · rw [if_neg c, if_neg c]
      exact ih f (k + 1) (by omega) hf
theorem C_firstDryer (hP : pJ σ.1) {mx : Int → Int → Bool} {s : ngS} {τ : xS} (hτ : ag σ τ) (hs : nsC mx s τ) : X iNight_firstDryer 0 [(2, 258), (9, 0), (9, 0)] [] τ = some ((0, (ng_d σ.1 s : Int)), τ) := by
  have h103 := hP.2.2.2.2.2.2.1.2.2.2.1
  rw [qNight_firstDryer_0]
  exact C_firstDryer_4 hP hτ hs ((σ.1 305 103).toNat - 1) 0 1 (by omega) (by omega)
theorem M_firstReady (hP : pJ σ.1) {mx : Int → Int → Bool} {s : ngS} {B : Int} (hB : B ≤ 1000000000) {τ : xS} (hτ : ag σ τ) (hs : nsM mx s τ) (hb : nsB s B) {j : Nat} (hj : (j : Int) < σ.1 305 107) (v1 : Int) (w5 w6 : xAV) : ∀ (u f k : Nat), (k : Int) + u = σ.1 305 102 → (f : Int) < σ.1 305 102 →
    X iM_works 66 [(2, 305), (0, v1), (0, (j : Int)), (0, (f : Int)), (0, (k : Int)), w5, w6] [] τ = X iM_works 106 [(2, 305), (0, v1), (0, (j : Int)), (0, (ng_fl (fun w => ng_r σ.1 mx s w j) u f k : Int)), (0, σ.1 305 102), w5, w6] [(0, ng_r σ.1 mx s (ng_fl (fun w => ng_r σ.1 mx s w j) u f k) j)] τ := by
  have hN := hP.2.2.2.2.2.2.1
  have h102 := hN.2.2.1
  have e4 : τ.1 305 102 = σ.1 305 102 := hτ.sl (a := 305) (k := 102) rfl
  intro u
  induction u with
  | zero =>
    intro f k hk hf
    rw [qM_works_66, e4, if_neg (by omega), M_ready hP hB hτ hs hb hf hj]
    simp only [Option.bind_some]
    rw [show (k : Int) = σ.1 305 102 by omega]
    rfl
  | succ u ih =>
    intro f k hk hf
    rw [qM_works_66, e4, if_pos (by omega), M_ready hP hB hτ hs hb (by omega) hj]
    simp only [Option.bind_some]
    rw [qM_works_82, M_ready hP hB hτ hs hb hf hj]
    simp only [Option.bind_some]
    rw [qM_works_88, xw_s (by omega)]
    show _ = X iM_works 106 [(2, 305), (0, v1), (0, (j : Int)), (0, (ng_fl (fun w => ng_r σ.1 mx s w j) u (if ng_r σ.1 mx s k j < ng_r σ.1 mx s f j then k else f) (k + 1) : Int)), (0, σ.1 305 102), w5, w6] [(0, ng_r σ.1 mx s (ng_fl (fun w => ng_r σ.1 mx s w j) u (if ng_r σ.1 mx s k j < ng_r σ.1 mx s f j then k else f) (k + 1)) j)] τ
    by_cases c : ng_r σ.1 mx s k j < ng_r σ.1 mx s f j
    · rw [if_pos c, if_pos c]
      exact ih k (k + 1) (by omega) (by omega)
    · rw [if_neg c, if_neg c]
      exact ih f (k + 1) (by omega) hf
end NIGHTB

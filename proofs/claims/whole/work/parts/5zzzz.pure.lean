/-! letters by their number; the text of rows -/
section PTX
theorem lld_app {ws : List Nat} (hw : ws ≠ []) : ∀ l : List Nat, lld (l ++ ws) = lld ws
  | [] => rfl
  | [c] => by
    cases ws with
    | nil => exact absurd rfl hw
    | cons d ws => rfl
  | _ :: d :: l => lld_app hw (d :: l)
theorem wcd_lin : ∀ (l : List Nat) (v : Int), wcd l v = v * pw 27 l.length + wcd l 0
  | [], v => by
    show v = v * 1 + 0
    omega
  | c :: l, v => by
    have e1 : wcd (c :: l) v = wcd l (v * 27 + ((c : Int) - 96)) := rfl
    have e2 : wcd (c :: l) 0 = wcd l (0 * 27 + ((c : Int) - 96)) := rfl
    have e3 : pw 27 (c :: l).length = pw 27 l.length * 27 := rfl
    rw [e1, e2, e3, wcd_lin l (v * 27 + ((c : Int) - 96)), wcd_lin l (0 * 27 + ((c : Int) - 96)), Int.add_mul, Int.zero_mul, Int.zero_add, Int.mul_assoc v 27, Int.mul_comm 27 (pw 27 l.length)]
    omega
theorem pw_pos27 : ∀ k : Nat, 1 ≤ pw 27 k
  | 0 => Int.le_refl 1
  | k + 1 => by
    have := pw_pos27 k
    show 1 ≤ pw 27 k * 27
    omega
theorem wcd_bd : ∀ (l : List Nat), (∀ c ∈ l, 97 ≤ c ∧ c ≤ 122) → 0 ≤ wcd l 0 ∧ wcd l 0 < pw 27 l.length ∧ (l ≠ [] → pw 27 (l.length - 1) ≤ wcd l 0)
  | [], _ => ⟨Int.le_refl 0, show (0 : Int) < 1 by decide, fun h => absurd rfl h⟩
  | c :: l, hl => by
    obtain ⟨i1, i2, _⟩ := wcd_bd l fun d hd => hl d (List.mem_cons_of_mem _ hd)
    have hc := hl c (List.mem_cons_self ..)
    have e2 : wcd (c :: l) 0 = wcd l (0 * 27 + ((c : Int) - 96)) := rfl
    have e3 : pw 27 (c :: l).length = pw 27 l.length * 27 := rfl
    have hp := pw_pos27 l.length
    have e4 := wcd_lin l (0 * 27 + ((c : Int) - 96))
    rw [Int.zero_mul, Int.zero_add] at e4
    have h1 : 1 * pw 27 l.length ≤ ((c : Int) - 96) * pw 27 l.length := Int.mul_le_mul_of_nonneg_right (by omega) (by omega)
    have h2 : ((c : Int) - 96) * pw 27 l.length ≤ 26 * pw 27 l.length := Int.mul_le_mul_of_nonneg_right (by omega) (by omega)
    rw [Int.zero_mul, Int.zero_add] at e2
    refine ⟨by omega, by rw [e3]; omega, fun _ => ?_⟩
    show pw 27 l.length ≤ _
    omega
theorem dgs_mod {v y : Int} (hy : 0 ≤ y) (m : Nat) (x : Int) (hx : 0 ≤ x) (hv : v = x * pw 27 m + y) : ∀ k : Nat, k ≤ m → dgs 27 96 v k = dgs 27 96 y k
  | 0, _ => rfl
  | k + 1, hk => by
    have ih := dgs_mod hy m x hx hv k (by omega)
    have hp := pw_pos27 k
    obtain ⟨d, rfl⟩ : ∃ d, m = k + 1 + d := ⟨m - (k + 1), by omega⟩
    have hsp : pw 27 (k + 1 + d) = pw 27 k * (27 * pw 27 d) := by
      have : ∀ d : Nat, pw 27 (k + 1 + d) = pw 27 k * (27 * pw 27 d) := fun d => by
        induction d with
        | zero => show pw 27 k * 27 = pw 27 k * (27 * 1); rw [Int.mul_one]
        | succ d ih2 =>
          show pw 27 (k + 1 + d) * 27 = pw 27 k * (27 * (pw 27 d * 27))
          rw [ih2, Int.mul_assoc, Int.mul_assoc]
      exact this d
    have hpd := pw_pos27 d
    have hv0 : 0 ≤ v := by
      rw [hv]
      have := Int.mul_nonneg hx (show 0 ≤ pw 27 (k + 1 + d) from by have := pw_pos27 (k + 1 + d); omega)
      omega
    have e1 : v = y + pw 27 k * (27 * (x * pw 27 d)) := by
      rw [hv, hsp, Int.add_comm]
      congr 1
      rw [← Int.mul_assoc x, Int.mul_comm x, Int.mul_assoc, ← Int.mul_assoc x, Int.mul_comm x, Int.mul_assoc]
    have e2 : v / pw 27 k = y / pw 27 k + 27 * (x * pw 27 d) := by
      rw [e1, Int.add_mul_ediv_left _ _ (by omega)]
    have hq : 0 ≤ y / pw 27 k := Int.ediv_nonneg hy (by omega)
    have hz : 0 ≤ x * pw 27 d := Int.mul_nonneg hx (by omega)
    have e3 : Int.tmod (Int.tdiv v (pw 27 k)) 27 = Int.tmod (Int.tdiv y (pw 27 k)) 27 := by
      rw [Int.tdiv_eq_ediv_of_nonneg hv0, Int.tdiv_eq_ediv_of_nonneg hy, e2, Int.tmod_eq_emod_of_nonneg (by omega), Int.tmod_eq_emod_of_nonneg hq, Int.add_mul_emod_self_left]
    show (Int.tmod (Int.tdiv v (pw 27 k)) 27 + 96).toNat :: dgs 27 96 v k = (Int.tmod (Int.tdiv y (pw 27 k)) 27 + 96).toNat :: dgs 27 96 y k
    rw [e3, ih]
theorem dgs_wcd : ∀ (l : List Nat), (∀ c ∈ l, 97 ≤ c ∧ c ≤ 122) → dgs 27 96 (wcd l 0) l.length = l
  | [], _ => rfl
  | c :: l, hl => by
    have hl' : ∀ d ∈ l, 97 ≤ d ∧ d ≤ 122 := fun d hd => hl d (List.mem_cons_of_mem _ hd)
    obtain ⟨i1, i2, _⟩ := wcd_bd l hl'
    have hc := hl c (List.mem_cons_self ..)
    have hp := pw_pos27 l.length
    have e4 : wcd (c :: l) 0 = ((c : Int) - 96) * pw 27 l.length + wcd l 0 := by
      have e2 : wcd (c :: l) 0 = wcd l (0 * 27 + ((c : Int) - 96)) := rfl
      rw [e2, wcd_lin l (0 * 27 + ((c : Int) - 96)), Int.zero_mul, Int.zero_add]
    have h1 : 0 ≤ ((c : Int) - 96) * pw 27 l.length := Int.mul_nonneg (by omega) (by omega)
    have hm := dgs_mod i1 l.length ((c : Int) - 96) (by omega) e4 l.length (Nat.le_refl _)
    have ed : Int.tdiv (wcd (c :: l) 0) (pw 27 l.length) = (c : Int) - 96 := by
      rw [Int.tdiv_eq_ediv_of_nonneg (by omega), e4, Int.add_comm, Int.add_mul_ediv_right _ _ (by omega), Int.ediv_eq_zero_of_lt i1 i2, Int.zero_add]
    show (Int.tmod (Int.tdiv (wcd (c :: l) 0) (pw 27 l.length)) 27 + 96).toNat :: dgs 27 96 (wcd (c :: l) 0) l.length = c :: l
    rw [hm, dgs_wcd l hl', ed, Int.tmod_eq_emod_of_nonneg (by omega), Int.emod_eq_of_lt (by omega) (by omega)]
    have : ((c : Int) - 96 + 96).toNat = c := by omega
    rw [this]
theorem isld_let : ∀ c : Nat, 97 ≤ c → c ≤ 122 → isld c = true := by
  have : ∀ c : Nat, c < 123 → 97 ≤ c → isld c = true := by decide
  exact fun c h1 h2 => this c (by omega) h1
theorem isld_dig : ∀ c : Nat, 48 ≤ c → c ≤ 57 → isld c = true := by
  have : ∀ c : Nat, c < 58 → 48 ≤ c → isld c = true := by decide
  exact fun c h1 h2 => this c (by omega) h1
theorem lld_all : ∀ (l : List Nat), l ≠ [] → (∀ c ∈ l, isld c = true) → lld l = true
  | [], h, _ => absurd rfl h
  | [c], _, h => h c (List.mem_cons_self ..)
  | _ :: d :: l, _, h => lld_all (d :: l) (by intro e; cases e) fun c hc => h c (List.mem_cons_of_mem _ hc)
/-- a word or a number more -/
def wW (l ws : List Nat) : List Nat := (if lld l = true then l ++ [32] else l) ++ ws
theorem wW_len (l ws : List Nat) : (wW l ws).length ≤ l.length + 1 + ws.length ∧ l.length ≤ (wW l ws).length := by
  unfold wW
  rw [List.length_append]
  by_cases h : lld l = true
  · rw [if_pos h, List.length_append]
    show l.length + 1 + ws.length ≤ _ ∧ l.length ≤ l.length + 1 + ws.length
    omega
  · rw [if_neg h]; omega
variable {σ : xS}
/-- the reference writes a word -/
theorem M_wW {l ws : List Nat} (h : wo σ.1 l) (hw : wlt ws) (hl : l.length + ws.length + 1 ≤ 1400) : ∃ τ, X iM_writesWord 0 [(2, 305), (1, wcd ws 0), (8, 0), (9, 0), (9, 0)] [] σ = some ((9, 0), τ) ∧ wo τ.1 (wW l ws) ∧ wfr1 σ τ := by
  obtain ⟨⟨h1, h8⟩, h2⟩ := hw
  have hne : ws ≠ [] := fun e => by rw [e] at h1; exact absurd h1 (by decide)
  obtain ⟨b1, b2, b3⟩ := wcd_bd ws h2
  have ek : ws.length - 1 + 1 = ws.length := by omega
  have ed : dgs 27 96 (wcd ws 0) (ws.length - 1 + 1) = ws := by rw [ek]; exact dgs_wcd ws h2
  have := M_wWord (K := ws.length - 1) h (by omega) (Or.inr (b3 hne)) ⟨b1, by rw [ek]; exact b2⟩ (by omega) (by
    rw [ed, lld_app hne]
    exact lld_all ws hne fun c hc => isld_let c (h2 c hc).1 (h2 c hc).2)
  rw [ed] at this
  exact this
/-- digits of a number -/
def dec (v : Int) : List Nat := dgs 10 48 v (d10 v)
theorem d10_bd {v : Int} (h : 0 ≤ v ∧ v ≤ 999999999) : ∃ K, d10 v = K + 1 ∧ K < 9 ∧ (K = 0 ∨ pw 10 K ≤ v) ∧ v < pw 10 (K + 1) := by
  unfold d10
  by_cases h1 : v < 10
  · rw [if_pos h1]; exact ⟨0, rfl, by decide, Or.inl rfl, h1⟩
  by_cases h2 : v < 100
  · rw [if_neg h1, if_pos h2]; exact ⟨1, rfl, by decide, Or.inr (by show (10 : Int) ≤ v; omega), h2⟩
  by_cases h3 : v < 1000
  · rw [if_neg h1, if_neg h2, if_pos h3]; exact ⟨2, rfl, by decide, Or.inr (by show (100 : Int) ≤ v; omega), h3⟩
  by_cases h4 : v < 10000
  · rw [if_neg h1, if_neg h2, if_neg h3, if_pos h4]; exact ⟨3, rfl, by decide, Or.inr (by show (1000 : Int) ≤ v; omega), h4⟩
  by_cases h5 : v < 100000
  · rw [if_neg h1, if_neg h2, if_neg h3, if_neg h4, if_pos h5]; exact ⟨4, rfl, by decide, Or.inr (by show (10000 : Int) ≤ v; omega), h5⟩
  by_cases h6 : v < 1000000
  · rw [if_neg h1, if_neg h2, if_neg h3, if_neg h4, if_neg h5, if_pos h6]; exact ⟨5, rfl, by decide, Or.inr (by show (100000 : Int) ≤ v; omega), h6⟩
  by_cases h7 : v < 10000000
  · rw [if_neg h1, if_neg h2, if_neg h3, if_neg h4, if_neg h5, if_neg h6, if_pos h7]; exact ⟨6, rfl, by decide, Or.inr (by show (1000000 : Int) ≤ v; omega), h7⟩
  by_cases h8 : v < 100000000
  · rw [if_neg h1, if_neg h2, if_neg h3, if_neg h4, if_neg h5, if_neg h6, if_neg h7, if_pos h8]; exact ⟨7, rfl, by decide, Or.inr (by show (10000000 : Int) ≤ v; omega), h8⟩
  · rw [if_neg h1, if_neg h2, if_neg h3, if_neg h4, if_neg h5, if_neg h6, if_neg h7, if_neg h8]; exact ⟨8, rfl, by decide, Or.inr (by show (100000000 : Int) ≤ v; omega), by show v < (1000000000 : Int); omega⟩
theorem dgs_ld {v : Int} (hv : 0 ≤ v) : ∀ k : Nat, k ≤ 9 → ∀ c ∈ dgs 10 48 v k, isld c = true
  | 0, _, c, hc => absurd hc (by intro h; cases h)
  | k + 1, hk, c, hc => by
    have hc : c ∈ (Int.tmod (Int.tdiv v (pw 10 k)) 10 + 48).toNat :: dgs 10 48 v k := hc
    rcases List.mem_cons.mp hc with e | h
    · obtain ⟨p1, p2⟩ := pwb_Number k (by omega)
      have h0 := Int.tdiv_nonneg hv (show 0 ≤ pw 10 k by omega)
      have h1 := Int.tmod_nonneg (a := Int.tdiv v (pw 10 k)) 10 h0
      have h2 := Int.tmod_lt_of_pos (Int.tdiv v (pw 10 k)) (show (0 : Int) < 10 by decide)
      rw [e]
      exact isld_dig _ (by omega) (by omega)
    · exact dgs_ld hv k (by omega) c h
/-- the reference writes a number -/
theorem M_wN {l : List Nat} (h : wo σ.1 l) {v : Int} (hv : 0 ≤ v ∧ v ≤ 999999999) (hl : l.length + (dec v).length + 1 ≤ 1400) : ∃ τ, X iM_writesNumber 0 [(2, 305), (1, v), (8, 0), (9, 0), (9, 0)] [] σ = some ((9, 0), τ) ∧ wo τ.1 (wW l (dec v)) ∧ wfr1 σ τ := by
  obtain ⟨K, k1, k2, k3, k4⟩ := d10_bd hv
  have hd : (dec v).length = K + 1 := by unfold dec; rw [dgs_len, k1]
  have hne : dgs 10 48 v (K + 1) ≠ [] := fun e => by
    have := dgs_len (b := 10) (off := 48) (v := v) (K + 1)
    rw [e] at this
    exact absurd this (by intro h; cases h)
  have := M_wNumber (K := K) h k2 k3 ⟨hv.1, k4⟩ (by omega) (by
    rw [lld_app hne]
    exact lld_all _ hne (dgs_ld hv.1 (K + 1) (by omega)))
  have e : dec v = dgs 10 48 v (K + 1) := by unfold dec; rw [k1]
  unfold wW
  rw [e]
  exact this
end PTX

/-! which word a token is -/
section WOF
variable {σ : xS} {B : Nat → Int} {n : Nat}
def cdn (l : List Nat) : Nat → Int
  | 0 => 0
  | k + 1 => cdn l k * 27 + (((l.getD k 0 : Nat) : Int) - 96)
theorem cdn_pos {l : List Nat} : ∀ {k : Nat}, (∀ i, i < k → 97 ≤ l.getD i 0) → 0 ≤ cdn l k ∧ (0 < k → 0 < cdn l k)
  | 0, _ => ⟨Int.le_refl _, fun h => absurd h (Nat.lt_irrefl 0)⟩
  | k + 1, h => by
    have ih := (cdn_pos fun i hi => h i (Nat.lt_succ_of_lt hi)).1
    have := h k (Nat.lt_succ_self k)
    show 0 ≤ cdn l k * 27 + (((l.getD k 0 : Nat) : Int) - 96) ∧ (0 < k + 1 → 0 < cdn l k * 27 + (((l.getD k 0 : Nat) : Int) - 96))
    omega
theorem wmt_1 {l : List Nat} {s : Nat} : ∀ {f i : Nat}, wmt l B s f i = 1 ↔ ∀ q, i ≤ q → q < i + f → ((l.getD q 0 : Nat) : Int) = B (s + q)
  | 0, i => ⟨fun _ q h1 h2 => absurd h1 (by omega), fun _ => rfl⟩
  | f + 1, i => by
    show (if ((l.getD i 0 : Nat) : Int) = B (s + i) then wmt l B s f (i + 1) else 0) = 1 ↔ _
    by_cases c : ((l.getD i 0 : Nat) : Int) = B (s + i)
    · rw [if_pos c, wmt_1]
      refine ⟨fun h q h1 h2 => ?_, fun h q h1 h2 => h q (by omega) (by omega)⟩
      by_cases e : q = i
      · rw [e]; exact c
      · exact h q (by omega) (by omega)
    · rw [if_neg c]
      exact ⟨fun h => absurd h (by decide), fun h => absurd (h i (Nat.le_refl i) (by omega)) c⟩
theorem cdv_inj {l : List Nat} {s : Nat} : ∀ {k k' : Nat}, k ≤ 8 → (∀ i, i < k → 97 ≤ B (s + i) ∧ B (s + i) ≤ 122) → (∀ i, i < k' → 97 ≤ l.getD i 0 ∧ l.getD i 0 ≤ 122) → cdv B s k = cdn l k' → k = k' ∧ ∀ i, i < k → ((l.getD i 0 : Nat) : Int) = B (s + i)
  | 0, 0, _, _, _, _ => ⟨rfl, fun i hi => absurd hi (Nat.not_lt_zero i)⟩
  | 0, k' + 1, _, _, h2, h3 => by
    have := (cdn_pos (l := l) (k := k' + 1) fun i hi => (h2 i hi).1).2 (Nat.succ_pos k')
    have h3 : (0 : Int) = cdn l (k' + 1) := h3
    omega
  | k + 1, 0, hk, h1, _, h3 => by
    have h3 : cdv B s (k + 1) = 0 := h3
    have hb := h1 k (Nat.lt_succ_self k)
    have hc := (cdv_bd k fun i hi => h1 i (Nat.lt_succ_of_lt hi)).1 (by omega)
    have e : cdv B s (k + 1) = if k < 8 then cdv B s k * 27 + (B (s + k) - 96) else -1 := rfl
    rw [if_pos (by omega)] at e
    omega
  | k + 1, k' + 1, hk, h1, h2, h3 => by
    have hb := h1 k (Nat.lt_succ_self k)
    have hb' := h2 k' (Nat.lt_succ_self k')
    have e : cdv B s (k + 1) = if k < 8 then cdv B s k * 27 + (B (s + k) - 96) else -1 := rfl
    rw [if_pos (by omega)] at e
    have e2 : cdn l (k' + 1) = cdn l k' * 27 + (((l.getD k' 0 : Nat) : Int) - 96) := rfl
    have e3 : cdv B s k = cdn l k' := by omega
    obtain ⟨g1, g2⟩ := cdv_inj (by omega) (fun i hi => h1 i (Nat.lt_succ_of_lt hi)) (fun i hi => h2 i (Nat.lt_succ_of_lt hi)) e3
    refine ⟨by omega, fun i hi => ?_⟩
    by_cases z : i = k
    · rw [z]
      have e4 : ((l.getD k' 0 : Nat) : Int) = B (s + k) := by omega
      rw [← g1] at e4
      exact e4
    · exact g2 i (by omega)
theorem cdv_cdn {l : List Nat} {s : Nat} : ∀ {k : Nat}, k ≤ 8 → (∀ i, i < k → ((l.getD i 0 : Nat) : Int) = B (s + i)) → cdv B s k = cdn l k
  | 0, _, _ => rfl
  | k + 1, hk, h => by
    show (if k < 8 then cdv B s k * 27 + (B (s + k) - 96) else -1) = cdn l k * 27 + (((l.getD k 0 : Nat) : Int) - 96)
    rw [if_pos (by omega), cdv_cdn (by omega) fun i hi => h i (Nat.lt_succ_of_lt hi), h k (Nat.lt_succ_self k)]
/-- alike in letters, alike in numbers -/
theorem wis_cd {l : List Nat} {s k : Nat} (hl : l.length ≤ 8) (hl2 : ∀ i, i < l.length → 97 ≤ l.getD i 0 ∧ l.getD i 0 ≤ 122) (hb : ∀ i, i < k → 97 ≤ B (s + i) ∧ B (s + i) ≤ 122) : wis l B s k = 1 ↔ cdv B s k = cdn l l.length := by
  unfold wis
  by_cases c : l.length = k
  · rw [if_pos c, wmt_1, c]
    refine ⟨fun h => cdv_cdn (by omega) fun i hi => h i (Nat.zero_le i) (by omega), fun h q _ h2 => ?_⟩
    exact (cdv_inj (by omega) hb (fun i hi => hl2 i (by omega)) h).2 q (by omega)
  · rw [if_neg c]
    refine ⟨fun h => absurd h (by decide), fun h => ?_⟩
    by_cases k8 : k ≤ 8
    · exact absurd (cdv_inj k8 hb hl2 h).1.symm c
    · have := (cdv_bd k hb).2 (by omega)
      have := (cdn_pos (l := l) (k := l.length) fun i hi => (hl2 i hi).1).1
      omega
theorem wis_01 {l : List Nat} {s k : Nat} : wis l B s k = 0 ∨ wis l B s k = 1 := by
  unfold wis
  by_cases c : l.length = k
  · rw [if_pos c]; exact wmt_01
  · rw [if_neg c]; exact Or.inl rfl
/-- the first kind so written -/
def kfi (g : Nat → Int) : Nat → Nat → Int
  | 0, _ => 0
  | f + 1, k => if g k = 0 then kfi g f (k + 1) else ((2 + k : Nat) : Int)
theorem kwd_all : ∀ k, k < 38 → xag xE1 σ 40 k = ((2 + k : Nat) : Int) ∧ ∃ a, xfld xE1 σ ((2 + k : Nat) : Int) 50 1 = some a ∧ swd σ a (kwl k)
  | 0, _ => ⟨rfl, 44, rfl, kwd_0⟩
  | 1, _ => ⟨rfl, 46, rfl, kwd_1⟩
  | 2, _ => ⟨rfl, 48, rfl, kwd_2⟩
  | 3, _ => ⟨rfl, 50, rfl, kwd_3⟩
  | 4, _ => ⟨rfl, 52, rfl, kwd_4⟩
  | 5, _ => ⟨rfl, 54, rfl, kwd_5⟩
  | 6, _ => ⟨rfl, 56, rfl, kwd_6⟩
  | 7, _ => ⟨rfl, 58, rfl, kwd_7⟩
  | 8, _ => ⟨rfl, 60, rfl, kwd_8⟩
  | 9, _ => ⟨rfl, 62, rfl, kwd_9⟩
  | 10, _ => ⟨rfl, 64, rfl, kwd_10⟩
  | 11, _ => ⟨rfl, 66, rfl, kwd_11⟩
  | 12, _ => ⟨rfl, 68, rfl, kwd_12⟩
  | 13, _ => ⟨rfl, 70, rfl, kwd_13⟩
  | 14, _ => ⟨rfl, 72, rfl, kwd_14⟩
  | 15, _ => ⟨rfl, 74, rfl, kwd_15⟩
  | 16, _ => ⟨rfl, 76, rfl, kwd_16⟩
  | 17, _ => ⟨rfl, 78, rfl, kwd_17⟩
  | 18, _ => ⟨rfl, 80, rfl, kwd_18⟩
  | 19, _ => ⟨rfl, 82, rfl, kwd_19⟩
  | 20, _ => ⟨rfl, 84, rfl, kwd_20⟩
  | 21, _ => ⟨rfl, 86, rfl, kwd_21⟩
  | 22, _ => ⟨rfl, 88, rfl, kwd_22⟩
  | 23, _ => ⟨rfl, 90, rfl, kwd_23⟩
  | 24, _ => ⟨rfl, 92, rfl, kwd_24⟩
  | 25, _ => ⟨rfl, 94, rfl, kwd_25⟩
  | 26, _ => ⟨rfl, 96, rfl, kwd_26⟩
  | 27, _ => ⟨rfl, 98, rfl, kwd_27⟩
  | 28, _ => ⟨rfl, 100, rfl, kwd_28⟩
  | 29, _ => ⟨rfl, 102, rfl, kwd_29⟩
  | 30, _ => ⟨rfl, 104, rfl, kwd_30⟩
  | 31, _ => ⟨rfl, 106, rfl, kwd_31⟩
  | 32, _ => ⟨rfl, 108, rfl, kwd_e⟩
  | 33, _ => ⟨rfl, 108, rfl, kwd_e⟩
  | 34, _ => ⟨rfl, 108, rfl, kwd_e⟩
  | 35, _ => ⟨rfl, 108, rfl, kwd_e⟩
  | 36, _ => ⟨rfl, 108, rfl, kwd_e⟩
  | 37, _ => ⟨rfl, 108, rfl, kwd_e⟩
  | k + 38, h => absurd h (by omega)
theorem C_wordOf_2 (hB : rdr σ.1 B n) {j s e : Nat} (hj : j < 401) (h1 : σ.1 299 j = (s : Int)) (h2 : σ.1 300 j = (e : Int)) (hse : s ≤ e) (he : e ≤ n) : ∀ (f k : Nat), k + f = 38 → X iReader_wordOf 2 [(2, 297), (0, (j : Int)), (0, (k : Int))] [] σ = some ((2, kfi (fun k => wis (kwl k) B s (e - s)) f k), σ)
  | 0, k, hk => by
    rw [qReader_wordOf_2, if_neg (by omega)]
    rfl
  | f + 1, k, hk => by
    have ih := C_wordOf_2 hB hj h1 h2 hse he f (k + 1) (by omega)
    obtain ⟨a1, a, a2, a3⟩ := kwd_all (σ := σ) k (by omega)
    have hx : xin (k : Int) 38 := xin_of (by omega) (by omega)
    rw [qReader_wordOf_2, if_pos (by omega), if_pos hx, Int.toNat_natCast, a1, a2, xob_some, C_isWritten a3 hB hj h1 h2 hse he, Option.bind_some, qReader_wordOf_23]
    show _ = some ((2, if wis (kwl k) B s (e - s) = 0 then kfi (fun k => wis (kwl k) B s (e - s)) f (k + 1) else ((2 + k : Nat) : Int)), σ)
    by_cases c : wis (kwl k) B s (e - s) = 0
    · rw [if_pos c, if_pos c, xw_t (by omega)]
      exact ih
    · rw [if_neg c, if_neg c, if_pos hx, Int.toNat_natCast, a1]
theorem C_wordOf (hB : rdr σ.1 B n) {j s e : Nat} (hj : j < 401) (h1 : σ.1 299 j = (s : Int)) (h2 : σ.1 300 j = (e : Int)) (hse : s ≤ e) (he : e ≤ n) : X iReader_wordOf 0 [(2, 297), (0, (j : Int)), (9, 0)] [] σ = some ((2, kfi (fun k => wis (kwl k) B s (e - s)) 38 0), σ) := by
  rw [qReader_wordOf_0]
  exact C_wordOf_2 hB hj h1 h2 hse he 38 0 rfl
/-- words and their numbers -/
def kcd (k : Nat) : Int := cdn (kwl k) (kwl k).length
theorem kwl_ok : ∀ k, k < 32 → ((kwl k).length ≤ 8 ∧ 1 ≤ (kwl k).length) ∧ ∀ i, i < (kwl k).length → 97 ≤ (kwl k).getD i 0 ∧ (kwl k).getD i 0 ≤ 122 := by decide
theorem kcd_inj : ∀ k, k < 32 → ∀ k', k' < 32 → kcd k = kcd k' → k = k' := by decide
theorem kwl_e {k : Nat} (h : 32 ≤ k) : kwl k = [] := by
  match k, h with
  | k + 32, _ => rfl
theorem kfi_at {g : Nat → Int} {k0 : Nat} (h0 : g k0 ≠ 0) : ∀ (f k : Nat), k ≤ k0 → k0 < k + f → (∀ k, k < k0 → g k = 0) → kfi g f k = ((2 + k0 : Nat) : Int)
  | 0, k, h1, h2, _ => absurd h1 (by omega)
  | f + 1, k, h1, h2, h3 => by
    show (if g k = 0 then kfi g f (k + 1) else ((2 + k : Nat) : Int)) = _
    by_cases e : k = k0
    · rw [e, if_neg h0]
    · rw [if_pos (h3 k (by omega))]
      exact kfi_at h0 f (k + 1) (by omega) (by omega) h3
theorem kfi_of {g : Nat → Int} : ∀ (f k : Nat), (kfi g f k = 0 ∧ ∀ i, k ≤ i → i < k + f → g i = 0) ∨ ∃ k0, k ≤ k0 ∧ k0 < k + f ∧ g k0 ≠ 0 ∧ kfi g f k = ((2 + k0 : Nat) : Int)
  | 0, k => Or.inl ⟨rfl, fun i h1 h2 => absurd h1 (by omega)⟩
  | f + 1, k => by
    show ((if g k = 0 then kfi g f (k + 1) else ((2 + k : Nat) : Int)) = 0 ∧ _) ∨ ∃ k0, _ ∧ _ ∧ _ ∧ (if g k = 0 then kfi g f (k + 1) else ((2 + k : Nat) : Int)) = _
    by_cases e : g k = 0
    · rw [if_pos e]
      rcases kfi_of (g := g) f (k + 1) with ⟨h1, h2⟩ | ⟨k0, h1, h2, h3, h4⟩
      · exact Or.inl ⟨h1, fun i h3 h4 => by
          by_cases z : i = k
          · rw [z]; exact e
          · exact h2 i (by omega) (by omega)⟩
      · exact Or.inr ⟨k0, by omega, by omega, h3, h4⟩
    · rw [if_neg e]
      exact Or.inr ⟨k, Nat.le_refl k, by omega, e, rfl⟩
/-- the kind's reference of letters -/
def kwf (B : Nat → Int) (s k : Nat) : Int := kfi (fun q => wis (kwl q) B s k) 38 0
theorem kwf_iff {s k : Nat} (hb : ∀ i, i < k → 97 ≤ B (s + i) ∧ B (s + i) ≤ 122) (hk : 1 ≤ k) {q : Nat} (hq : q < 32) : kwf B s k = ((2 + q : Nat) : Int) ↔ cdv B s k = kcd q := by
  have one : ∀ q, q < 32 → (wis (kwl q) B s k ≠ 0 ↔ cdv B s k = kcd q) := fun q hq => by
    rw [kcd, ← wis_cd (kwl_ok q hq).1.1 (kwl_ok q hq).2 hb]
    rcases wis_01 (l := kwl q) (B := B) (s := s) (k := k) with h | h
    · rw [h]; decide
    · rw [h]; decide
  refine ⟨fun h => ?_, fun h => ?_⟩
  · rcases kfi_of (g := fun q => wis (kwl q) B s k) 38 0 with ⟨h1, _⟩ | ⟨k0, _, _, h3, h4⟩
    · have : kwf B s k = 0 := h1
      omega
    · have h4 : kwf B s k = ((2 + k0 : Nat) : Int) := h4
      have : k0 = q := by omega
      rw [this] at h3
      exact (one q hq).mp h3
  · refine kfi_at (g := fun q => wis (kwl q) B s k) (k0 := q) ((one q hq).mpr h) 38 0 (Nat.zero_le q) (by omega) fun k' hk' => ?_
    rcases wis_01 (l := kwl k') (B := B) (s := s) (k := k) with h' | h'
    · exact h'
    · have := (one k' (by omega)).mp (by rw [h']; decide)
      have := kcd_inj k' (by omega) q hq (this.symm.trans h)
      omega
theorem kwf_0 {s k : Nat} (hb : ∀ i, i < k → 97 ≤ B (s + i) ∧ B (s + i) ≤ 122) (hk : 1 ≤ k) : (∃ q, q < 32 ∧ kwf B s k = ((2 + q : Nat) : Int) ∧ cdv B s k = kcd q) ∨ (kwf B s k = 0 ∧ ∀ q, q < 32 → cdv B s k ≠ kcd q) := by
  rcases kfi_of (g := fun q => wis (kwl q) B s k) 38 0 with ⟨h1, h2⟩ | ⟨k0, _, h2, h3, h4⟩
  · refine Or.inr ⟨h1, fun q hq e => ?_⟩
    have := (kwf_iff hb hk hq).mpr e
    have h1 : kwf B s k = 0 := h1
    omega
  · have h4 : kwf B s k = ((2 + k0 : Nat) : Int) := h4
    by_cases c : k0 < 32
    · exact Or.inl ⟨k0, c, h4, (kwf_iff hb hk c).mp h4⟩
    · refine absurd ?_ h3
      show (if (kwl k0).length = k then _ else (0 : Int)) = 0
      rw [kwl_e (by omega), if_neg (by show ¬ 0 = k; omega)]
end WOF

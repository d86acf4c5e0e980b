/-! what a byte is, in the class -/
section KOF
variable {σ : xS} {B : Nat → Int} {n : Nat}
def sgl : List Nat := [61, 59, 43, 45, 42, 47, 37, 40, 41, 44, 91, 93, 60, 62]
theorem xag111 : ∀ i, i < 14 → xag xE1 σ 111 i = ((sgl.getD i 0 : Nat) : Int) := fun i hi => match i, hi with | 0, _ => rfl | 1, _ => rfl | 2, _ => rfl | 3, _ => rfl | 4, _ => rfl | 5, _ => rfl | 6, _ => rfl | 7, _ => rfl | 8, _ => rfl | 9, _ => rfl | 10, _ => rfl | 11, _ => rfl | 12, _ => rfl | 13, _ => rfl | i + 14, h => absurd h (by omega)
def fix (v : Int) : Nat → Nat → Int
  | 0, _ => -1
  | f + 1, i => if ((sgl.getD i 0 : Nat) : Int) = v then (i : Int) else fix v f (i + 1)
theorem fix_iff {v : Int} : ∀ (f i : Nat), 0 ≤ fix v f i ↔ ∃ q, i ≤ q ∧ q < i + f ∧ ((sgl.getD q 0 : Nat) : Int) = v
  | 0, i => ⟨fun h => absurd h (show ¬ (0 : Int) ≤ -1 by decide), fun ⟨q, h1, h2, _⟩ => absurd h1 (by omega)⟩
  | f + 1, i => by
    show 0 ≤ (if ((sgl.getD i 0 : Nat) : Int) = v then (i : Int) else fix v f (i + 1)) ↔ _
    by_cases c : ((sgl.getD i 0 : Nat) : Int) = v
    · rw [if_pos c]
      exact ⟨fun _ => ⟨i, Nat.le_refl i, by omega, c⟩, fun _ => Int.natCast_nonneg i⟩
    · rw [if_neg c, fix_iff f (i + 1)]
      refine ⟨fun ⟨q, h1, h2, h3⟩ => ⟨q, by omega, by omega, h3⟩, fun ⟨q, h1, h2, h3⟩ => ⟨q, ?_, by omega, h3⟩⟩
      by_cases e : q = i
      · rw [e] at h3; exact absurd h3 c
      · omega
theorem C_ixc (v : Int) (w1 w2 : xAV) : ∀ (f i : Nat), i + f = 14 → X iJL_indexOfChar 7 [(2, 111), w1, w2, (0, 14), (0, v), (0, (i : Int))] [] σ = some ((0, fix v f i), σ)
  | 0, i, h => by
    rw [qJL_indexOfChar_7, if_neg (by omega)]
    rfl
  | f + 1, i, h => by
    have ih := C_ixc v w1 w2 f (i + 1) (by omega)
    have e1 : xna 2 ((sgl.getD i 0 : Nat) : Int) = ((sgl.getD i 0 : Nat) : Int) := by
      have : ∀ i, i < 14 → sgl.getD i 0 < 128 := by decide
      have := this i (by omega)
      show (((sgl.getD i 0 : Nat) : Int) + 128) % 256 - 128 = _
      omega
    rw [qJL_indexOfChar_7, if_pos (by omega), show xarr xE1 σ 111 2 = some 14 from rfl, xob_some, if_pos (xin_of (by omega) (by omega)), Int.toNat_natCast, xag111 i (by omega), e1]
    show _ = some ((0, if ((sgl.getD i 0 : Nat) : Int) = v then (i : Int) else fix v f (i + 1)), σ)
    by_cases c : ((sgl.getD i 0 : Nat) : Int) = v
    · rw [if_pos c, if_pos c]
    · rw [if_neg c, if_neg c, xw_t (by omega)]
      exact ih
theorem C_ix {b : Int} (h : 0 ≤ b ∧ b ≤ 255) : X iJS_indexOf1 0 [(2, 110), (0, b)] [] σ = some ((0, fix (xna 2 b) 14 0), σ) := by
  have ih := C_ixc (σ := σ) (xna 2 b) (0, b) (0, 0) 14 0 rfl
  have e : X iJS_indexOf2 0 [(2, 110), (0, b), (0, 0)] [] σ = some ((0, fix (xna 2 b) 14 0), σ) := by
    rw [qJS_indexOf2_0, show xisO xE1 σ 110 0 = true from rfl, cnd_t, show xfld xE1 σ 110 0 1 = some 0 from rfl, xob_some, if_pos (show xna 2 0 = 0 from rfl), show xfld xE1 σ 110 0 0 = some 111 from rfl, xob_some, cnd_t, xob_some, show xlen xE1 σ 111 = some 14 from rfl, xob_some, cnd_t, xob_some, if_pos (show xna 2 (xna 2 0) = xna 2 0 from rfl), show xna 2 0 = 0 from rfl, show xshr ((14 : Nat) : Int) 0 = 14 from xshr0 14 (by decide), qJL_indexOf_0, if_neg (by omega), if_neg (by omega), show xlen xE1 σ 111 = some 14 from rfl, xob_some, show xmm 0 0 0 = 0 from rfl, show xmm 1 14 ((14 : Nat) : Int) = 14 from rfl, if_pos (by decide), qJL_indexOfChar_0]
    rw [show X iJL_indexOfChar 7 [(2, 111), (0, b), (0, 0), (0, 14), (0, xna 2 b), (0, 0)] [] σ = some ((0, fix (xna 2 b) 14 0), σ) from ih, Option.bind_some, qJL_indexOf_36, Option.bind_some, qJS_indexOf2_20, qJS_indexOf2_36]
  rw [qJS_indexOf1_0, show xisO xE1 σ 110 0 = true from rfl, cnd_t, e, Option.bind_some, qJS_indexOf1_6]
theorem sgl_iff {b : Int} (h : 0 ≤ b ∧ b ≤ 255) : (∃ q, q < 14 ∧ ((sgl.getD q 0 : Nat) : Int) = xna 2 b) ↔ sgn b := by
  have e : xna 2 b = (b + 128) % 256 - 128 := rfl
  rw [e]
  unfold sgn
  refine ⟨fun ⟨q, h1, h2⟩ => ?_, fun hs => ?_⟩
  · match q, h1 with
    | 0, _ => have h2 : (61 : Int) = (b + 128) % 256 - 128 := h2; omega
    | 1, _ => have h2 : (59 : Int) = (b + 128) % 256 - 128 := h2; omega
    | 2, _ => have h2 : (43 : Int) = (b + 128) % 256 - 128 := h2; omega
    | 3, _ => have h2 : (45 : Int) = (b + 128) % 256 - 128 := h2; omega
    | 4, _ => have h2 : (42 : Int) = (b + 128) % 256 - 128 := h2; omega
    | 5, _ => have h2 : (47 : Int) = (b + 128) % 256 - 128 := h2; omega
    | 6, _ => have h2 : (37 : Int) = (b + 128) % 256 - 128 := h2; omega
    | 7, _ => have h2 : (40 : Int) = (b + 128) % 256 - 128 := h2; omega
    | 8, _ => have h2 : (41 : Int) = (b + 128) % 256 - 128 := h2; omega
    | 9, _ => have h2 : (44 : Int) = (b + 128) % 256 - 128 := h2; omega
    | 10, _ => have h2 : (91 : Int) = (b + 128) % 256 - 128 := h2; omega
    | 11, _ => have h2 : (93 : Int) = (b + 128) % 256 - 128 := h2; omega
    | 12, _ => have h2 : (60 : Int) = (b + 128) % 256 - 128 := h2; omega
    | 13, _ => have h2 : (62 : Int) = (b + 128) % 256 - 128 := h2; omega
    | q + 14, h1 => exact absurd h1 (by omega)
  · rcases hs with hs | hs | hs | hs | hs | hs | hs | hs | hs | hs | hs | hs | hs | hs
    · exact ⟨1, by decide, by rw [hs]; rfl⟩
    · exact ⟨0, by decide, by rw [hs]; rfl⟩
    · exact ⟨2, by decide, by rw [hs]; rfl⟩
    · exact ⟨3, by decide, by rw [hs]; rfl⟩
    · exact ⟨4, by decide, by rw [hs]; rfl⟩
    · exact ⟨5, by decide, by rw [hs]; rfl⟩
    · exact ⟨6, by decide, by rw [hs]; rfl⟩
    · exact ⟨7, by decide, by rw [hs]; rfl⟩
    · exact ⟨8, by decide, by rw [hs]; rfl⟩
    · exact ⟨9, by decide, by rw [hs]; rfl⟩
    · exact ⟨10, by decide, by rw [hs]; rfl⟩
    · exact ⟨11, by decide, by rw [hs]; rfl⟩
    · exact ⟨12, by decide, by rw [hs]; rfl⟩
    · exact ⟨13, by decide, by rw [hs]; rfl⟩
theorem C_kindOf {b : Int} (h : 0 ≤ b ∧ b ≤ 255) : X iReader_kindOf 0 [(0, b)] [] σ = some ((0, kq b), σ) := by
  have fin : ¬ (b = 32 ∨ b = 10) → ¬ (97 ≤ b ∧ b ≤ 122) → ¬ (48 ≤ b ∧ b ≤ 57) → X iReader_kindOf 38 [(0, b)] [(0, fix (xna 2 b) 14 0)] σ = some ((0, kq b), σ) := fun c1 c2 c3 => by
    have key : 0 ≤ fix (xna 2 b) 14 0 ↔ sgn b := by
      rw [fix_iff]
      rw [← sgl_iff h]
      exact ⟨fun ⟨q, _, h2, h3⟩ => ⟨q, by omega, h3⟩, fun ⟨q, h2, h3⟩ => ⟨q, Nat.zero_le q, by omega, h3⟩⟩
    rw [qReader_kindOf_38]
    unfold kq
    rw [if_neg c1, if_neg c2, if_neg c3]
    by_cases c : sgn b
    · have := key.mpr c
      rw [if_neg (by omega), if_pos (show xna 3 b = b by show b % 65536 = b; omega), if_pos c]
    · have : ¬ 0 ≤ fix (xna 2 b) 14 0 := fun q => c (key.mp q)
      rw [if_pos (by omega), if_neg c]
  rw [qReader_kindOf_0, C_ix h, Option.bind_some]
  by_cases c1 : b = 32
  · rw [if_pos c1, kq_4.mpr (Or.inl c1)]
  rw [if_neg c1]
  by_cases c2 : b = 10
  · rw [if_pos c2, kq_4.mpr (Or.inr c2)]
  rw [if_neg c2]
  have c12 : ¬ (b = 32 ∨ b = 10) := fun q => q.elim c1 c2
  by_cases c3 : b < 97
  · rw [if_pos c3]
    by_cases c4 : b < 48
    · rw [if_pos c4]
      exact fin c12 (by omega) (by omega)
    rw [if_neg c4]
    by_cases c5 : 57 < b
    · rw [if_pos c5]
      exact fin c12 (by omega) (by omega)
    · rw [if_neg c5, kq_3.mpr (by omega)]
  rw [if_neg c3]
  by_cases c4 : 122 < b
  · rw [if_pos c4, if_neg (by omega), if_pos (by omega)]
    exact fin c12 (by omega) (by omega)
  · rw [if_neg c4, kq_2.mpr (by omega)]
end KOF

/-! is a token so written -/
section WRT
variable {σ : xS} {B : Nat → Int} {n : Nat}
theorem wmt_01 {l : List Nat} {s : Nat} : ∀ {f i : Nat}, wmt l B s f i = 0 ∨ wmt l B s f i = 1
  | 0, _ => Or.inr rfl
  | f + 1, i => by
    show (if ((l.getD i 0 : Nat) : Int) = B (s + i) then wmt l B s f (i + 1) else 0) = 0 ∨ (if ((l.getD i 0 : Nat) : Int) = B (s + i) then wmt l B s f (i + 1) else 0) = 1
    by_cases c : ((l.getD i 0 : Nat) : Int) = B (s + i)
    · rw [if_pos c]; exact wmt_01
    · rw [if_neg c]; exact Or.inl rfl
theorem getD_lt {l : List Nat} {b : Nat} (h : ∀ c ∈ l, c < b) {i : Nat} (hi : i < l.length) : l.getD i 0 < b := by
  rw [List.getD_eq_getElem?_getD, List.getElem?_eq_getElem hi]
  exact h _ (List.getElem_mem hi)
theorem C_isWritten_29 {a : Int} {l : List Nat} (hs : swd σ a l) (hB : rdr σ.1 B n) {j s : Nat} (hj : j < 401) (h1 : σ.1 299 j = (s : Int)) (he : s + l.length ≤ n) : ∀ (f i : Nat), i + f = l.length → X iReader_isWritten 29 [(2, 297), (2, a), (0, (j : Int)), (0, 1), (0, (i : Int))] [] σ = some ((0, wmt l B s f i), σ) := by
  obtain ⟨a1, ⟨v, b1, b2, b3, b4⟩, a2, a3, a4⟩ := hs
  obtain ⟨t1, t2, t3, t4⟩ := hB
  have e0 : xshr ((l.length : Nat) : Int) 0 = (l.length : Int) := xshr0 _ (by omega)
  have z : ∀ i : Nat, X iReader_isWritten 29 [(2, 297), (2, a), (0, (j : Int)), (0, 0), (0, (i : Int))] [] σ = some ((0, 0), σ) := fun i => by
    rw [qReader_isWritten_29, a1, cnd_t, b1, xob_some, b2, xob_some, cnd_t, a2, xob_some, if_pos (show xna 2 (xna 2 0) = xna 2 0 from rfl)]
    by_cases q : (i : Int) < xshr ((l.length : Nat) : Int) (xna 2 0)
    · rw [if_pos q, if_pos (show (0 : Int) = 0 from rfl), if_pos (show xna 4 0 = 0 from rfl)]
    · rw [if_neg q, if_pos (show xna 4 0 = 0 from rfl)]
  intro f
  induction f with
  | zero =>
    intro i hi
    rw [qReader_isWritten_29, a1, cnd_t, b1, xob_some, b2, xob_some, cnd_t, a2, xob_some, if_pos (show xna 2 (xna 2 0) = xna 2 0 from rfl), show xna 2 0 = 0 from rfl, e0, if_neg (by omega), if_pos (show xna 4 1 = 1 from rfl)]
    rfl
  | succ f ih =>
    intro i hi
    have hil : i < l.length := by omega
    have g := getD_lt a4 hil
    have e1 : xna 3 (xiand (xna 2 ((l.getD i 0 : Nat) : Int)) 255) = ((l.getD i 0 : Nat) : Int) := by
      rw [and255]
      show (((((l.getD i 0 : Nat) : Int) + 128) % 256 - 128) % 256) % 65536 = _
      omega
    have e2 : xna 3 (σ.1 304 (s + i)) = B (s + i) := (t4 (s + i) (by omega)).1
    have e3 : xin ((s + i : Nat) : Int) 400 := xin_of (by omega) (by omega)
    have e4 : xna 3 (xna 3 (xiand (xna 2 ((l.getD i 0 : Nat) : Int)) 255)) = xna 3 (xiand (xna 2 ((l.getD i 0 : Nat) : Int)) 255) := by
      rw [e1]
      show ((l.getD i 0 : Nat) : Int) % 65536 = _
      omega
    rw [qReader_isWritten_29, a1, cnd_t, b1, xob_some, b2, xob_some, cnd_t, a2, xob_some, if_pos (show xna 2 (xna 2 0) = xna 2 0 from rfl), show xna 2 0 = 0 from rfl, e0, if_pos (by omega), if_neg (show ¬ (1 : Int) = 0 by decide), cnd_t, cnd_t, xob_some, if_pos (show xna 2 0 = 0 from rfl), xob_some, b2, xob_some, if_neg (by omega), if_pos (by omega), b3, xob_some, if_pos (xin_of (by omega) (by omega)), Int.toNat_natCast, b4 i hil, if_pos e4, if_pos e4, if_pos (xin_of (by omega) (by omega)), t1, x304, xob_some, Int.toNat_natCast, h1, xw_pl (by omega), if_pos e3, Int.toNat_natCast, xag304, e1, e2]
    show _ = some ((0, if ((l.getD i 0 : Nat) : Int) = B (s + i) then wmt l B s f (i + 1) else 0), σ)
    rw [xw_t (by omega)]
    by_cases c : ((l.getD i 0 : Nat) : Int) = B (s + i)
    · rw [if_pos c, if_pos c]
      exact ih (i + 1) (by omega)
    · rw [if_neg c, if_neg c]
      exact z (i + 1)
/-- is it so written -/
def wis (l : List Nat) (B : Nat → Int) (s k : Nat) : Int := if l.length = k then wmt l B s l.length 0 else 0
theorem C_isWritten {a : Int} {l : List Nat} (hs : swd σ a l) (hB : rdr σ.1 B n) {j s e : Nat} (hj : j < 401) (h1 : σ.1 299 j = (s : Int)) (h2 : σ.1 300 j = (e : Int)) (hse : s ≤ e) (he : e ≤ n) : X iReader_isWritten 0 [(2, 297), (2, a), (0, (j : Int)), (9, 0), (9, 0)] [] σ = some ((0, wis l B s (e - s)), σ) := by
  have hs' := hs
  obtain ⟨a1, ⟨v, b1, b2, b3, b4⟩, a2, a3, a4⟩ := hs
  have hn := hB.2.2.1
  have e0 : xshr ((l.length : Nat) : Int) 0 = (l.length : Int) := xshr0 _ (by omega)
  have z : X iReader_isWritten 29 [(2, 297), (2, a), (0, (j : Int)), (0, 0), (0, 0)] [] σ = some ((0, 0), σ) := by
    rw [qReader_isWritten_29, a1, cnd_t, b1, xob_some, b2, xob_some, cnd_t, a2, xob_some, if_pos (show xna 2 (xna 2 0) = xna 2 0 from rfl)]
    by_cases q : (0 : Int) < xshr ((l.length : Nat) : Int) (xna 2 0)
    · rw [if_pos q, if_pos (show (0 : Int) = 0 from rfl), if_pos (show xna 4 0 = 0 from rfl)]
    · rw [if_neg q, if_pos (show xna 4 0 = 0 from rfl)]
  have hx : xin (j : Int) 401 := xin_of (by omega) (by omega)
  rw [qReader_isWritten_0, a1, cnd_t, b1, xob_some, b2, xob_some, cnd_t, a2, xob_some, if_pos (show xna 2 (xna 2 0) = xna 2 0 from rfl), if_pos hx, if_pos hx, show xna 2 0 = 0 from rfl, e0, Int.toNat_natCast, h1, h2, xw_id (x := (e : Int) - (s : Int)) (by omega) (by omega)]
  unfold wis
  by_cases c : l.length = e - s
  · rw [if_pos (by omega), if_pos c]
    exact C_isWritten_29 hs' hB hj h1 (by omega) l.length 0 (by omega)
  · rw [if_neg (by omega), if_neg c]
    exact z
end WRT

/-! the reference's machine of frames -/
section MACH
/-- fault, open, token, rows, table, got, frames -/
abbrev PF := Int × Int × Int × Int × Int
def pfs (m : Nat → Nat → Int) : List PF → Prop
  | [] => True
  | (w, a, x, y, h) :: K => (m 358 K.length = w ∧ m 359 K.length = a ∧ m 360 K.length = x ∧ m 361 K.length = y ∧ m 362 K.length = h) ∧ pfs m K
def mse (m : Nat → Nat → Int) (e : Int) : Prop := (e = -1 ∧ m 305 74 = 0 ∧ m 305 67 = -1) ∨ (0 ≤ e ∧ m 305 74 = 1 ∧ m 305 67 = e)
def wenv (m : Nat → Nat → Int) (sk sn : Nat → Int) (F S : Nat) : Prop := m 305 76 = (F : Int) ∧ m 305 57 = (S : Int) ∧ m 344 = sk ∧ m 350 = sn ∧ F ≤ S ∧ S ≤ 200
/-- a row written -/
def nwr (f : Nat → Nat → Int) (c : Nat) (k a b d v : Int) : Nat → Nat → Int := fun q => if q = 0 then xup (f 0) c k else if q = 1 then xup (f 1) c a else if q = 2 then xup (f 2) c b else if q = 3 then xup (f 3) c d else if q = 4 then xup (f 4) c (-1) else if q = 5 then xup (f 5) c v else f q
def nxr (f : Nat → Nat → Int) (r : Nat) (v : Int) : Nat → Nat → Int := fun q => if q = 4 then xup (f 4) r v else f q
variable (B : Nat → Int) (n : Nat) (sk sn : Nat → Int) (F S : Nat)
def ms (m : Nat → Nat → Int) (e o : Int) (j c : Nat) (f : Nat → Nat → Int) (g : Int) (K : List PF) : Prop :=
  (tpB m B n ∧ wenv m sk sn F S) ∧ tkn m B n j ∧ mse m e ∧ (m 305 75 = o ∧ 0 ≤ o ∧ o ≤ 100) ∧ (m 305 64 = (c : Int) ∧ ∀ q, q < 6 → m (351 + q) = f q) ∧ m 305 83 = g ∧ m 305 82 = (K.length : Int) ∧ pfs m K
/-- what the machine leaves alone -/
def msc (k : Nat) : Prop := k = 64 ∨ k = 67 ∨ k = 69 ∨ k = 70 ∨ k = 71 ∨ k = 72 ∨ k = 73 ∨ k = 74 ∨ k = 75 ∨ k = 82 ∨ k = 83
def fm (c0 : Nat) (σ τ : xS) : Prop := τ.2 = σ.2 ∧ (∀ a, a ≠ 305 → ¬ (351 ≤ a ∧ a ≤ 356) → ¬ (358 ≤ a ∧ a ≤ 362) → τ.1 a = σ.1 a) ∧ (∀ k, ¬ msc k → τ.1 305 k = σ.1 305 k) ∧ ∀ q r, q < 6 → r < c0 → τ.1 (351 + q) r = σ.1 (351 + q) r
variable {B n sk sn F S}
variable {c0 : Nat} {σ τ υ : xS} {e o g : Int} {j c : Nat} {f : Nat → Nat → Int} {K : List PF}
theorem fm_rf : fm c0 σ σ := ⟨rfl, fun _ _ _ _ => rfl, fun _ _ => rfl, fun _ _ _ _ => rfl⟩
theorem fm_tr (h : fm c0 σ τ) (k : fm c0 τ υ) : fm c0 σ υ := ⟨k.1.trans h.1, fun a h1 h2 h3 => (k.2.1 a h1 h2 h3).trans (h.2.1 a h1 h2 h3), fun a h1 => (k.2.2.1 a h1).trans (h.2.2.1 a h1), fun q r h1 h2 => (k.2.2.2 q r h1 h2).trans (h.2.2.2 q r h1 h2)⟩
theorem fm_s {k : Nat} (hk : msc k) (v : Int) : fm c0 σ (xs σ 305 k v) := ⟨rfl, fun a h1 _ _ => by rw [xs_ne h1], fun i hi => by rw [xs_at, xup_ne (fun z => hi (by rw [z]; exact hk))], fun q r h1 _ => by rw [xs_ne (by omega)]⟩
theorem fm_slt (h : slt pnx σ τ) : fm c0 σ τ := ⟨h.1, fun a h1 _ _ => h.2.1 a h1, fun k hk => h.2.2 k (fun z => hk (by unfold msc; omega)), fun q r _ _ => by rw [h.2.1 _ (by omega)]⟩
theorem fm_f {a k : Nat} (ha : 358 ≤ a ∧ a ≤ 362) (v : Int) : fm c0 σ (xs σ a k v) := ⟨rfl, fun b _ _ h3 => by rw [xs_ne (fun z => h3 (by omega))], fun i _ => by rw [xs_ne (by omega)], fun q r h1 _ => by rw [xs_ne (by omega)]⟩
theorem fm_r {q k : Nat} (hq : q < 6) (hk : c0 ≤ k) (v : Int) : fm c0 σ (xs σ (351 + q) k v) := ⟨rfl, fun b _ h2 _ => by rw [xs_ne (fun z => h2 (by omega))], fun i _ => by rw [xs_ne (by omega)], fun q' r _ h2 => by
  by_cases z : q' = q
  · rw [z, xs_at, xup_ne (by omega)]
  · rw [xs_ne (by omega)]⟩
theorem pfs_cg {m m' : Nat → Nat → Int} : ∀ {K : List PF}, (∀ a k, 358 ≤ a → a ≤ 362 → k < K.length → m' a k = m a k) → pfs m K → pfs m' K
  | [], _, _ => trivial
  | (w, a, x, y, h) :: K, hc, hp => by
    have e (b : Nat) (h1 : 358 ≤ b) (h2 : b ≤ 362) : m' b K.length = m b K.length := hc b K.length h1 h2 (Nat.lt_succ_self _)
    refine ⟨?_, pfs_cg (fun b k h1 h2 h3 => hc b k h1 h2 (Nat.lt_succ_of_lt h3)) hp.2⟩
    rw [e 358 (by decide) (by decide), e 359 (by decide) (by decide), e 360 (by decide) (by decide), e 361 (by decide) (by decide), e 362 (by decide) (by decide)]
    exact hp.1
/-- nothing of the machine's but some slots changed -/
theorem ms_cg {m m' : Nat → Nat → Int} {e' o' g' : Int} {j' : Nat} (h : ms B n sk sn F S m e o j c f g K) (h1 : ∀ a, a ≠ 305 → m' a = m a) (h2 : m' 305 68 = m 305 68 ∧ m' 305 76 = m 305 76 ∧ m' 305 57 = m 305 57 ∧ m' 305 64 = m 305 64 ∧ m' 305 82 = m 305 82) (ht : tkn m' B n j') (he : mse m' e') (ho : m' 305 75 = o' ∧ 0 ≤ o' ∧ o' ≤ 100) (hg : m' 305 83 = g') : ms B n sk sn F S m' e' o' j' c f g' K := by
  obtain ⟨⟨a1, a2⟩, _, _, _, a5, _, a7, a8⟩ := h
  refine ⟨⟨?_, ?_⟩, ht, he, ho, ⟨by rw [h2.2.2.2.1]; exact a5.1, fun q hq => by rw [h1 _ (by omega)]; exact a5.2 q hq⟩, hg, by rw [h2.2.2.2.2]; exact a7, pfs_cg (fun a k _ _ _ => by rw [h1 _ (by omega)]) a8⟩
  · unfold tpB
    rw [h2.1, h1 357 (by decide)]
    exact a1
  · unfold wenv
    rw [h2.2.1, h2.2.2.1, h1 344 (by decide), h1 350 (by decide)]
    exact a2
theorem tkn_cg {m m' : Nat → Nat → Int} (h : tkn m B n j) (h1 : ∀ k, pnx k → m' 305 k = m 305 k) : tkn m' B n j := by
  unfold tkn
  rw [h1 69 (by decide), h1 70 (by decide), h1 71 (by decide), h1 72 (by decide), h1 73 (by decide)]
  exact h
theorem mse_cg {m m' : Nat → Nat → Int} (h : mse m e) (h1 : m' 305 74 = m 305 74 ∧ m' 305 67 = m 305 67) : mse m' e := by
  unfold mse
  rw [h1.1, h1.2]
  exact h
/-- on to the next token -/
theorem ms_next (h : ms B n sk sn F S σ.1 e o j c f g K) (w : xAV) : ∃ τ, X iM_next 0 [(2, 305), w] [] σ = some ((9, 0), τ) ∧ ms B n sk sn F S τ.1 e o (j + 1) c f g K ∧ fm c0 σ τ := by
  obtain ⟨τ, h1, h2, h3⟩ := M_next h.1.1 w (j := j + 1) h.2.1.1
  have ht (k : Nat) (hk : ¬ pnx k) : τ.1 305 k = σ.1 305 k := h2.2.2 k hk
  refine ⟨τ, h1, ms_cg h h2.2.1 ⟨ht _ (by decide), ht _ (by decide), ht _ (by decide), ht _ (by decide), ht _ (by decide)⟩ h3 (mse_cg h.2.2.1 ⟨ht _ (by decide), ht _ (by decide)⟩) ?_ ?_, fm_slt h2⟩
  · rw [ht _ (by decide)]; exact h.2.2.2.1
  · rw [ht _ (by decide)]; exact h.2.2.2.2.2.1
/-- a fault -/
theorem ms_fail (h : ms B n sk sn F S σ.1 (-1) o j c f g K) : ms B n sk sn F S (xs (xs σ 305 74 1) 305 67 (σ.1 305 70)).1 (t_s B n j : Int) o j c f g K ∧ fm c0 σ (xs (xs σ 305 74 1) 305 67 (σ.1 305 70)) := by
  have ht (k : Nat) (hk : k ≠ 74) (hk2 : k ≠ 67) : (xs (xs σ 305 74 1) 305 67 (σ.1 305 70)).1 305 k = σ.1 305 k := by rw [xs_at, xup_ne hk2, xs_at, xup_ne hk]
  refine ⟨ms_cg h (fun a ha => by rw [xs_ne ha, xs_ne ha]) ⟨ht _ (by decide) (by decide), ht _ (by decide) (by decide), ht _ (by decide) (by decide), ht _ (by decide) (by decide), ht _ (by decide) (by decide)⟩ (tkn_cg h.2.1 fun k hk => ht k (by omega) (by omega)) (Or.inr ⟨by omega, by rw [xs_at, xup_ne (by decide), xs_at, xup_eq], by rw [xs_at, xup_eq]; exact h.2.1.2.1⟩) ?_ ?_, fm_tr (fm_s (by unfold msc; omega) _) (fm_s (by unfold msc; omega) _)⟩
  · rw [ht _ (by decide) (by decide)]; exact h.2.2.2.1
  · rw [ht _ (by decide) (by decide)]; exact h.2.2.2.2.2.1
theorem ms_open (h : ms B n sk sn F S σ.1 e o j c f g K) {o' : Int} (ho : 0 ≤ o' ∧ o' ≤ 100) : ms B n sk sn F S (xs σ 305 75 o').1 e o' j c f g K ∧ fm c0 σ (xs σ 305 75 o') := by
  have ht (k : Nat) (hk : k ≠ 75) : (xs σ 305 75 o').1 305 k = σ.1 305 k := by rw [xs_at, xup_ne hk]
  refine ⟨ms_cg h (fun a ha => by rw [xs_ne ha]) ⟨ht _ (by decide), ht _ (by decide), ht _ (by decide), ht _ (by decide), ht _ (by decide)⟩ (tkn_cg h.2.1 fun k hk => ht k (by omega)) (mse_cg h.2.2.1 ⟨ht _ (by decide), ht _ (by decide)⟩) ⟨by rw [xs_at, xup_eq], ho⟩ (by rw [ht _ (by decide)]; exact h.2.2.2.2.2.1), fm_s (by unfold msc; omega) _⟩
end MACH

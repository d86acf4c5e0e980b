/-! the reference's writer of rows: its frames -/
section WMA
variable {σ τ υ : xS} {f : Nat → Nat → Int} {l : List Nat} {t : Int}
abbrev WF := Int × Int × Int × Int
def wfs4 (m : Nat → Nat → Int) : List WF → Prop
  | [] => True
  | (i, a, r, p) :: K => (m 371 K.length = i ∧ m 372 K.length = a ∧ m 373 K.length = r ∧ m 374 K.length = p) ∧ wfs4 m K
theorem wfs4_cg {m m' : Nat → Nat → Int} : ∀ {K : List WF}, (∀ a k, 371 ≤ a → a ≤ 374 → k < K.length → m' a k = m a k) → wfs4 m K → wfs4 m' K
  | [], _, _ => trivial
  | (i, a, r, p) :: K, hc, hp => by
    have e (b : Nat) (h1 : 371 ≤ b) (h2 : b ≤ 374) : m' b K.length = m b K.length := hc b K.length h1 h2 (Nat.lt_succ_self _)
    refine ⟨?_, wfs4_cg (fun b k h1 h2 h3 => hc b k h1 h2 (Nat.lt_succ_of_lt h3)) hp.2⟩
    rw [e 371 (by decide) (by decide), e 372 (by decide) (by decide), e 373 (by decide) (by decide), e 374 (by decide) (by decide)]
    exact hp.1
/-- the text so far, the frames -/
def wz (f : Nat → Nat → Int) (m : Nat → Nat → Int) (l : List Nat) (K : List WF) : Prop := wo m l ∧ m 305 98 = (K.length : Int) ∧ wfs4 m K ∧ ∀ q, q < 6 → m (351 + q) = f q
/-- what it leaves alone -/
def wf2 (σ τ : xS) : Prop := τ.2 = σ.2 ∧ (∀ a, a ≠ 305 → ¬ (370 ≤ a ∧ a ≤ 374) → τ.1 a = σ.1 a) ∧ ∀ k, k ≠ 92 → k ≠ 93 → k ≠ 98 → τ.1 305 k = σ.1 305 k
theorem wf2_rf : wf2 σ σ := ⟨rfl, fun _ _ _ => rfl, fun _ _ _ _ => rfl⟩
theorem wf2_tr (h : wf2 σ τ) (k : wf2 τ υ) : wf2 σ υ := ⟨k.1.trans h.1, fun a h1 h2 => (k.2.1 a h1 h2).trans (h.2.1 a h1 h2), fun i h1 h2 h3 => (k.2.2 i h1 h2 h3).trans (h.2.2 i h1 h2 h3)⟩
theorem wf2_1 (h : wfr1 σ τ) : wf2 σ τ := ⟨h.1, fun a h1 h2 => h.2.1 a h1 (by omega), fun k h1 h2 _ => h.2.2 k h1 h2⟩
theorem wf2_s {a k : Nat} (h : (371 ≤ a ∧ a ≤ 374) ∨ (a = 305 ∧ k = 98)) (v : Int) : wf2 σ (xs σ a k v) := ⟨rfl, fun b h1 h2 => by rw [xs_ne (by omega)], fun i h1 h2 h3 => by
  by_cases e : a = 305
  · rw [e, xs_at, xup_ne (by omega)]
  · rw [xs_ne (by omega)]⟩
/-- behind letters that were written -/
theorem wz_wr {K : List WF} {l' : List Nat} (h : wz f σ.1 l K) (hw : wo τ.1 l') (hf : wfr1 σ τ) : wz f τ.1 l' K := by
  obtain ⟨h1, h2, h3, h4⟩ := h
  exact ⟨hw, by rw [hf.2.2 98 (by decide) (by decide)]; exact h2, wfs4_cg (fun a k a1 a2 _ => by rw [hf.2.1 a (by omega) (by omega)]) h3, fun q hq => by rw [hf.2.1 _ (by omega) (by omega)]; exact h4 q hq⟩
theorem wo_o {m m' : Nat → Nat → Int} (h : wo m l) (h1 : m' 370 = m 370) (h2 : m' 305 92 = m 305 92 ∧ m' 305 93 = m 305 93) : wo m' l := by
  unfold wo wo2
  rw [h1, h2.1, h2.2]
  exact h
theorem wz_begin {K : List WF} (h : wz f σ.1 l K) (hK : K.length < 500) (i r : Int) : ∃ τ, X iM_begins 0 [(2, 305), (0, i), (0, r)] [] σ = some ((9, 0), τ) ∧ wz f τ.1 l ((i, 0, r, -1) :: K) ∧ wf2 σ τ := by
  obtain ⟨h1, h2, h3, h4⟩ := h
  have hx : xin (σ.1 305 98) 500 := by rw [h2]; exact xin_of (by omega) (by omega)
  have one (σ : xS) (a b k : Nat) (v : Int) (hk : k ≠ K.length) : (xs σ b K.length v).1 a k = σ.1 a k := by
    by_cases z : a = b
    · rw [z, xs_at, xup_ne hk]
    · rw [xs_ne z]
  refine ⟨xs (xs (xs (xs (xs σ 371 K.length i) 372 K.length 0) 373 K.length r) 374 K.length (-1)) 305 98 ((K.length + 1 : Nat) : Int), ?_, ⟨wo_o h1 ?_ ⟨?_, ?_⟩, ?_, ⟨⟨?_, ?_, ?_, ?_⟩, wfs4_cg (fun a k a1 a2 a3 => ?_) h3⟩, fun q hq => ?_⟩, wf2_tr (wf2_tr (wf2_tr (wf2_tr (wf2_s (Or.inl (by omega)) _) (wf2_s (Or.inl (by omega)) _)) (wf2_s (Or.inl (by omega)) _)) (wf2_s (Or.inl (by omega)) _)) (wf2_s (Or.inr ⟨rfl, rfl⟩) _)⟩
  · rw [qM_begins_0, if_pos hx, if_pos hx, if_pos hx, if_pos hx, h2, Int.toNat_natCast, xw_t (by omega)]
  · rw [xs_ne (by decide), xs_ne (by decide), xs_ne (by decide), xs_ne (by decide), xs_ne (by decide)]
  · rw [xs_at, xup_ne (by decide), xs_ne (by decide), xs_ne (by decide), xs_ne (by decide), xs_ne (by decide)]
  · rw [xs_at, xup_ne (by decide), xs_ne (by decide), xs_ne (by decide), xs_ne (by decide), xs_ne (by decide)]
  · rw [xs_at, xup_eq]; rfl
  · rw [xs_ne (by decide), xs_ne (by decide), xs_ne (by decide), xs_ne (by decide), xs_at, xup_eq]
  · rw [xs_ne (by decide), xs_ne (by decide), xs_ne (by decide), xs_at, xup_eq]
  · rw [xs_ne (by decide), xs_ne (by decide), xs_at, xup_eq]
  · rw [xs_ne (by decide), xs_at, xup_eq]
  · rw [xs_ne (by omega), one _ _ _ _ _ (by omega), one _ _ _ _ _ (by omega), one _ _ _ _ _ (by omega), one _ _ _ _ _ (by omega)]
  · rw [xs_ne (by omega), xs_ne (by omega), xs_ne (by omega), xs_ne (by omega), xs_ne (by omega)]
    exact h4 q hq
/-- a frame ends: what stands around it is closed -/
theorem wz_close {K : List WF} {i a r p : Int} (h : wz f σ.1 l ((i, a, r, p) :: K)) (hK : K.length < 500) (hr : r = 0 ∨ r = 1 ∨ r = 2) (hl : l.length < 1400) : ∃ τ, X iM_closes 0 [(2, 305), (0, (K.length : Int))] [] σ = some ((9, 0), τ) ∧ wz f τ.1 (if r = 1 then l ++ [41] else if r = 2 then l ++ [93] else l) K ∧ wf2 σ τ := by
  obtain ⟨h1, h2, h3, h4⟩ := h
  obtain ⟨⟨f1, f2, f3, f4⟩, f5⟩ := h3
  have hx : xin (K.length : Int) 500 := xin_of (by omega) (by omega)
  have h98 : σ.1 305 98 = ((K.length + 1 : Nat) : Int) := h2
  have hx2 : xin (l.length : Int) 1400 := xin_of (by omega) (by omega)
  have fin : ∀ (υ : xS) (l' : List Nat), wo υ.1 l' → wfr1 σ υ → wz f (xs υ 305 98 (K.length : Int)).1 l' K ∧ wf2 σ (xs υ 305 98 (K.length : Int)) := fun υ l' w1 w2 => by
    refine ⟨⟨wo_o w1 (xs_ne (by decide)) ⟨by rw [xs_at, xup_ne (by decide)], by rw [xs_at, xup_ne (by decide)]⟩, by rw [xs_at, xup_eq], wfs4_cg (fun a k a1 a2 _ => by rw [xs_ne (by omega), w2.2.1 a (by omega) (by omega)]) f5, fun q hq => by rw [xs_ne (by omega), w2.2.1 _ (by omega) (by omega)]; exact h4 q hq⟩, wf2_tr (wf2_1 w2) (wf2_s (Or.inr ⟨rfl, rfl⟩) _)⟩
  have put : ∀ c : Nat, isld c = false → wo (xs (xs (xs σ 370 l.length (c : Int)) 305 92 ((l.length + 1 : Nat) : Int)) 305 93 0).1 (l ++ [c]) ∧ wfr1 σ (xs (xs (xs σ 370 l.length (c : Int)) 305 92 ((l.length + 1 : Nat) : Int)) 305 93 0) := fun c hc =>
    ⟨⟨wo2_93 (wo2_put h1.1 c) 0, by rw [xs_at, xup_eq, lld_snoc, hc]; rfl⟩, wfr1_tr (wfr1_tr (wfr1_s (Or.inl rfl) _) (wfr1_s (Or.inr ⟨rfl, Or.inl rfl⟩) _)) (wfr1_s (Or.inr ⟨rfl, Or.inr rfl⟩) _)⟩
  have e98 : xw (((K.length + 1 : Nat) : Int) - 1) = (K.length : Int) := by rw [xw_id (by omega) (by omega)]; omega
  have e92 : xw ((l.length : Int) + 1) = ((l.length + 1 : Nat) : Int) := by clear e98; rw [xw_id (by omega) (by omega)]; omega
  rcases hr with rfl | rfl | rfl
  · obtain ⟨g1, g2⟩ := fin σ l h1 wfr1_rf
    refine ⟨_, ?_, g1, g2⟩
    rw [qM_closes_0, if_pos hx, Int.toNat_natCast, f3, if_neg (by decide), if_pos hx, if_neg (by decide), h98, e98]
  · obtain ⟨p1, p2⟩ := put 41 rfl
    obtain ⟨g1, g2⟩ := fin _ _ p1 p2
    refine ⟨_, ?_, g1, g2⟩
    rw [qM_closes_0, if_pos hx, Int.toNat_natCast, f3, if_pos rfl, h1.1.1, if_pos hx2, if_pos hx, if_neg (by decide), h98, e98, e92, Int.toNat_natCast]
    rfl
  · obtain ⟨p1, p2⟩ := put 93 rfl
    obtain ⟨g1, g2⟩ := fin _ _ p1 p2
    refine ⟨_, ?_, g1, g2⟩
    rw [qM_closes_0, if_pos hx, Int.toNat_natCast, f3, if_neg (by decide), if_pos hx, if_pos rfl, h1.1.1, if_pos hx2, h98, e98, e92, Int.toNat_natCast]
    rfl
/-- one round of its loop -/
def wgo (t : Int) (σ τ : xS) : Prop := ∀ w2 w3 w4 w5 : xAV, ∃ u2 u3 u4 u5 : xAV, X iM_writesNode 11 [(2, 305), (0, t), w2, w3, w4, w5] [] σ = X iM_writesNode 11 [(2, 305), (0, t), u2, u3, u4, u5] [] τ
theorem wgo_tr (h : wgo t σ τ) (k : wgo t τ υ) : wgo t σ υ := fun w2 w3 w4 w5 => by
  obtain ⟨u2, u3, u4, u5, e1⟩ := h w2 w3 w4 w5
  obtain ⟨v2, v3, v4, v5, e2⟩ := k u2 u3 u4 u5
  exact ⟨v2, v3, v4, v5, e1.trans e2⟩
end WMA

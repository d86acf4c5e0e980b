/-! the class reckons a node: what its row is -/
section CEV
variable {σ0 : xS} {f : Nat → Nat → Int} {sk sn nm : Nat → Int} {F S lo hi T N nn : Nat}
/-- what reckoning stands on -/
def evC (σ0 : xS) (f : Nat → Nat → Int) (sk nm : Nat → Int) (F S lo hi T N nn : Nat) : Prop := tob σ0.1 σ0.2.1 T N nn ∧ wfs f sk F S lo hi ∧ (∀ i, lo ≤ i → i < hi → -1000000000000 ≤ EV f (σ0.1 254) nm i ∧ EV f (σ0.1 254) nm i ≤ 1000000000000) ∧ ∀ j, F + j < S → sk (F + j) = 0 → lkc sk F j < nn ∧ σ0.1 N (lkc sk F j) = nm j
/-- a node's answer, as deep as n -/
def evP (σ0 : xS) (f : Nat → Nat → Int) (sk sn nm : Nat → Int) (F S lo hi T n : Nat) : Prop := ∀ (σ : xS), σ.1 = σ0.1 → σ.2.1 = σ0.2.1 → 2 * n ≤ xdp σ → ∀ (cl ch a i : Nat), rl f σ0.1 σ0.2.1 sk sn F S n cl ch a i → lo ≤ i → i < hi →
  (f 0 i ≤ 10 → X iTerms_exOf 0 [(2, (T : Int)), (2, (a : Int))] [] σ = some ((1, EV f (σ0.1 254) nm i), σ)) ∧ (11 ≤ f 0 i → X iTerms_holds 0 [(2, (T : Int)), (2, (a : Int))] [] σ = some ((0, EV f (σ0.1 254) nm i), σ))
theorem EV_bit {f : Nat → Nat → Int} {sk h nm : Nat → Int} {F S lo hi i : Nat} (w : wfs f sk F S lo hi) (h1 : lo ≤ i) (h2 : i < hi) (hk : 11 ≤ f 0 i) : EV f h nm i = 0 ∨ EV f h nm i = 1 := by
  have w0 := (w i h1 h2).1
  rw [EV_eq w h1 h2]
  have bit : ∀ (c : Prop) [Decidable c] (x y : Int), (x = 0 ∨ x = 1) → (y = 0 ∨ y = 1) → (if c then x else y) = 0 ∨ (if c then x else y) = 1 := fun c _ x y hx hy => by
    by_cases hc : c
    · rw [if_pos hc]; exact hx
    · rw [if_neg hc]; exact hy
  have hks : f 0 i = 11 ∨ f 0 i = 12 ∨ f 0 i = 13 ∨ f 0 i = 14 ∨ f 0 i = 15 ∨ f 0 i = 16 := by omega
  rcases hks with z | z | z | z | z | z
  · rw [evo_11 z]; exact bit _ _ _ (Or.inr rfl) (Or.inl rfl)
  · rw [evo_12 z]; exact bit _ _ _ (Or.inr rfl) (Or.inl rfl)
  · rw [evo_13 z]; exact bit _ _ _ (Or.inr rfl) (Or.inl rfl)
  · rw [evo_14 z]; exact bit _ _ _ (Or.inr rfl) (Or.inl rfl)
  · rw [evo_15 z]; exact bit _ _ _ (Or.inl rfl) (bit _ _ _ (Or.inl rfl) (Or.inr rfl))
  · rw [evo_16 z]; exact bit _ _ _ (bit _ _ _ (Or.inl rfl) (Or.inr rfl)) (Or.inr rfl)
theorem tob_is (hT : tob σ0.1 σ0.2.1 T N nn) {σ : xS} (h2 : σ.2.1 = σ0.2.1) : xisO xE1 σ (T : Int) 11 = true := xisO_new hT.1.1 (by rw [h2]; exact hT.1.2)
theorem tob_f (hT : tob σ0.1 σ0.2.1 T N nn) {σ : xS} (h1 : σ.1 = σ0.1) (h2 : σ.2.1 = σ0.2.1) (k : Nat) : xfld xE1 σ (T : Int) 11 k = some (σ0.1 T k) := by rw [xfld_new k hT.1.1 (by rw [h2]; exact hT.1.2), h1]
theorem nd_g {σ : xS} (h1 : σ.1 = σ0.1) (h2 : σ.2.1 = σ0.2.1) {a : Nat} (h : nd σ0.2.1 a) (k : Nat) : xfld xE1 σ (a : Int) 7 k = some (σ0.1 a k) := by rw [nd_f (by rw [h2]; exact h), h1]
/-- a call one deeper -/
theorem dp_dn {σ : xS} (hd : 0 < xdp σ) : Nat.beq (xdp σ) 0 = false := beq_ff (by omega)
theorem evP_E {n : Nat} (P : evP σ0 f sk sn nm F S lo hi T n) {σ : xS} (h1 : σ.1 = σ0.1) (h2 : σ.2.1 = σ0.2.1) (hd : 2 * n + 1 ≤ xdp σ) {cl ch a i : Nat} (hr : rl f σ0.1 σ0.2.1 sk sn F S n cl ch a i) (hlo : lo ≤ i) (hhi : i < hi) (hk : f 0 i ≤ 10) {β : Type} (k : xAV × xS → Option β) :
    (X iTerms_exOf 0 [(2, (T : Int)), (2, (a : Int))] [] (xsetdp σ (xdp σ - 1))).bind k = k ((1, EV f (σ0.1 254) nm i), xsetdp σ (xdp σ - 1)) := by
  rw [(P (xsetdp σ (xdp σ - 1)) h1 h2 (by show 2 * n ≤ xdp σ - 1; omega) cl ch a i hr hlo hhi).1 hk, Option.bind_some]
theorem evP_H {n : Nat} (P : evP σ0 f sk sn nm F S lo hi T n) {σ : xS} (h1 : σ.1 = σ0.1) (h2 : σ.2.1 = σ0.2.1) (hd : 2 * n + 1 ≤ xdp σ) {cl ch a i : Nat} (hr : rl f σ0.1 σ0.2.1 sk sn F S n cl ch a i) (hlo : lo ≤ i) (hhi : i < hi) (hk : 11 ≤ f 0 i) {β : Type} (k : xAV × xS → Option β) :
    (X iTerms_holds 0 [(2, (T : Int)), (2, (a : Int))] [] (xsetdp σ (xdp σ - 1))).bind k = k ((0, EV f (σ0.1 254) nm i), xsetdp σ (xdp σ - 1)) := by
  rw [(P (xsetdp σ (xdp σ - 1)) h1 h2 (by show 2 * n ≤ xdp σ - 1; omega) cl ch a i hr hlo hhi).2 hk, Option.bind_some]
theorem nz {a : Nat} (h : 392 ≤ a) : ¬ ((a : Int) = 0) := by omega
set_option maxHeartbeats 4000000 in
/-- parts of a sum, of a product -/
theorem C_parts (hC : evC σ0 f sk nm F S lo hi T N nn) {n a : Nat} (P : evP σ0 f sk sn nm F S lo hi T n) {σ : xS} (h1 : σ.1 = σ0.1) (h2 : σ.2.1 = σ0.2.1) (hd : 2 * n + 1 ≤ xdp σ) (ha : nd σ0.2.1 a) (ok : Nat → Nat → Prop) (hka : (σ0.1 a 0 = 36 ∧ ok = okS σ0.1 f) ∨ (σ0.1 a 0 = 37 ∧ ok = okP σ0.1 f)) {cl ch : Nat} {pr : Nat → Nat → Prop} (hp : ∀ c j, pr c j → f 0 j ≤ 10 ∧ ∃ lo' hi', rl f σ0.1 σ0.2.1 sk sn F S n lo' hi' c j) : ∀ (L : List Nat) (c r i : Nat), chS pr ok σ0.1 f L c r i → lo ≤ i → i < hi → ∀ (w4 w6 w7 : xAV), X iTerms_exOfParts 33 [(2, (T : Int)), (2, (a : Int)), (1, EV f (σ0.1 254) nm r), (8, 0), w4, (2, σ0.1 c 7), w6, w7] [] σ = some ((1, EV f (σ0.1 254) nm i), σ) := by
  have hokk : ∀ r c, ok r c → (2 ≤ f 0 r ∧ f 0 r < 7) ∨ (9 < f 0 r ∧ f 0 r ≠ 14) := by
    intro r c h
    rcases hka with ⟨_, e⟩ | ⟨_, e⟩
    · rw [e] at h; rcases h with h | h <;> omega
    · rw [e] at h; rcases h with h | h | h <;> omega
  intro L
  induction L with
  | nil =>
    intro c r i h g1 g2 w4 w6 w7
    rw [qTerms_exOfParts_33, if_pos h.1, h.2]
  | cons c' L ih =>
    intro c r i h g1 g2 w4 w6 w7
    obtain ⟨e7, r', e1, e2, hok, hsub, hch⟩ := h
    obtain ⟨hk10, lo', hi', hrl⟩ := hp _ _ hsub
    obtain ⟨_, _, hn⟩ := rl_nd hrl
    obtain ⟨k1, k2⟩ := chS_in hC.2.1 hokk hch g1 g2
    have wr := hC.2.1 r' k1 (by omega)
    have w4' := wr.2.2.2.2.1 (hokk _ _ hok)
    have w3' := wr.2.2.2.1 (by have := hokk _ _ hok; omega)
    have er : r = (f 1 r').toNat := by rw [e1]; rfl
    have b1 := hC.2.2.1 r (by omega) (by omega)
    have b2 := hC.2.2.1 (f 2 r').toNat w4'.2.1 (by omega)
    rw [qTerms_exOfParts_33, e7, if_neg (nz hn.1), tob_is hC.1 h2, cnd_t, dp_dn (by omega), cnd_f, evP_E P h1 h2 hd hrl w4'.2.1 (by omega) hk10]
    show X iTerms_exOfParts 44 _ [(1, _)] (xsetdp (xsetdp σ (xdp σ - 1)) (xdp σ)) = _
    rw [xsetdp_back, qTerms_exOfParts_44, nd_g h1 h2 ha, xob_some]
    have fin : ∀ (v : Int), v = evo f (σ0.1 254) nm (EV f (σ0.1 254) nm) r' → X iTerms_exOfParts 115 [(2, (T : Int)), (2, (a : Int)), (1, EV f (σ0.1 254) nm r), (8, 0), w4, (2, (c' : Int)), (1, EV f (σ0.1 254) nm (f 2 r').toNat), (8, 0)] [(1, v)] σ = some ((1, EV f (σ0.1 254) nm i), σ) := by
      intro v hv
      rw [qTerms_exOfParts_115, nd_g h1 h2 hn, xob_some, hv, ← EV_eq hC.2.1 k1 (by omega)]
      exact ih c' r' i hch g1 g2 _ _ _
    rcases hka with ⟨e, eo⟩ | ⟨e, eo⟩
    · rw [e, show xisO xE1 σ 36 50 = true from rfl, cnd_t, show xfld xE1 σ 36 50 0 = some 34 from rfl, xob_some, if_pos (show xin (34 : Int) 38 from ⟨by decide, by decide⟩), show xag xE1 σ 41 (34 : Int).toNat = 9 from rfl, if_neg (by decide), if_neg (by decide), nd_g h1 h2 hn, xob_some]
      rw [eo] at hok
      rcases hok with ⟨z, z5⟩ | ⟨z, z5⟩
      · rw [z5, show xna 3 43 = 43 from rfl, C_joined_43 b1 b2, Option.bind_some]
        exact fin _ (by rw [evo_2 z, er])
      · rw [z5, show xna 3 45 = 45 from rfl, C_joined_45 b1 b2, Option.bind_some]
        exact fin _ (by rw [evo_3 z, er])
    · rw [e, show xisO xE1 σ 37 50 = true from rfl, cnd_t, show xfld xE1 σ 37 50 0 = some 35 from rfl, xob_some, if_pos (show xin (35 : Int) 38 from ⟨by decide, by decide⟩), show xag xE1 σ 41 (35 : Int).toNat = 10 from rfl, if_neg (by decide), if_neg (by decide), nd_g h1 h2 hn, xob_some]
      rw [eo] at hok
      rcases hok with ⟨z, z5⟩ | ⟨z, z5⟩ | ⟨z, z5⟩
      · rw [z5, show xna 3 42 = 42 from rfl, C_joined_42 b1 b2, Option.bind_some]
        exact fin _ (by rw [evo_4 z, er])
      · rw [z5, show xna 3 47 = 47 from rfl, C_joined_47 b1, Option.bind_some]
        exact fin _ (by rw [evo_5 z, er])
      · rw [z5, show xna 3 37 = 37 from rfl, C_joined_37, Option.bind_some]
        exact fin _ (by rw [evo_6 z, er])
set_option maxHeartbeats 4000000 in
/-- a list's parts -/
theorem C_partsL (hC : evC σ0 f sk nm F S lo hi T N nn) {n a : Nat} (P : evP σ0 f sk sn nm F S lo hi T n) {σ : xS} (h1 : σ.1 = σ0.1) (h2 : σ.2.1 = σ0.2.1) (hd : 2 * n + 1 ≤ xdp σ) (ha : nd σ0.2.1 a) {k : Int} (hka : (σ0.1 a 0 = 19 ∧ k = 8) ∨ (σ0.1 a 0 = 20 ∧ k = 9)) {i : Nat} (hi2 : i < hi) {pr : Nat → Nat → Prop} (hp : ∀ c j, pr c j → f 0 j ≤ 10 ∧ ∃ lo' hi', rl f σ0.1 σ0.2.1 sk sn F S n lo' hi' c j) : ∀ (L : List Nat) (c r C : Nat) (v : Int), chL pr σ0.1 f L c r → chw f lo i C (f 4 r) → ∀ (w4 w6 w7 : xAV), X iTerms_exOfParts 33 [(2, (T : Int)), (2, (a : Int)), (1, v), (8, 0), w4, (2, σ0.1 c 7), w6, w7] [] σ = some ((1, lfo f (EV f (σ0.1 254) nm) k C (f 4 r) v), σ) := by
  intro L
  induction L with
  | nil =>
    intro c r C v h hc w4 w6 w7
    rw [qTerms_exOfParts_33, if_pos h.1]
    cases C with
    | zero => rfl
    | succ C => rw [show lfo f (EV f (σ0.1 254) nm) k (C + 1) (f 4 r) v = v from if_pos (by rw [h.2]; decide)]
  | cons c' L ih =>
    intro c r C v h hc w4 w6 w7
    obtain ⟨e7, e4, hsub, hch⟩ := h
    obtain ⟨hk10, lo', hi', hrl⟩ := hp _ _ hsub
    obtain ⟨_, _, hn⟩ := rl_nd hrl
    cases C with
    | zero => exact absurd hc (by show ¬ f 4 r < 0; omega)
    | succ C =>
      rcases hc with hc | ⟨⟨c1, c2⟩, c3⟩
      · omega
      rw [qTerms_exOfParts_33, e7, if_neg (nz hn.1), tob_is hC.1 h2, cnd_t, dp_dn (by omega), cnd_f, evP_E P h1 h2 hd hrl c1 (by omega) hk10]
      show X iTerms_exOfParts 44 _ [(1, _)] (xsetdp (xsetdp σ (xdp σ - 1)) (xdp σ)) = _
      rw [xsetdp_back, qTerms_exOfParts_44, nd_g h1 h2 ha, xob_some, show lfo f (EV f (σ0.1 254) nm) k (C + 1) (f 4 r) v = lfo f (EV f (σ0.1 254) nm) k C (f 4 (f 4 r).toNat) (pck k (EV f (σ0.1 254) nm (f 4 r).toNat) v) from if_neg (by omega)]
      rcases hka with ⟨e, ek⟩ | ⟨e, ek⟩
      · rw [e, show xisO xE1 σ 19 50 = true from rfl, cnd_t, show xfld xE1 σ 19 50 0 = some 17 from rfl, xob_some, if_pos (show xin (17 : Int) 38 from ⟨by decide, by decide⟩), show xag xE1 σ 41 (17 : Int).toNat = 17 from rfl, if_pos rfl, nd_g h1 h2 hn, xob_some, show xmm 1 v (EV f (σ0.1 254) nm (f 4 r).toNat) = pck k (EV f (σ0.1 254) nm (f 4 r).toNat) v from by rw [ek]; exact (if_pos rfl).symm]
        exact ih c' _ C _ hch c3 _ _ _
      · rw [e, show xisO xE1 σ 20 50 = true from rfl, cnd_t, show xfld xE1 σ 20 50 0 = some 18 from rfl, xob_some, if_pos (show xin (18 : Int) 38 from ⟨by decide, by decide⟩), show xag xE1 σ 41 (18 : Int).toNat = 18 from rfl, if_neg (by decide), if_pos rfl, nd_g h1 h2 hn, xob_some, show xmm 0 v (EV f (σ0.1 254) nm (f 4 r).toNat) = pck k (EV f (σ0.1 254) nm (f 4 r).toNat) v from by rw [ek]; exact (if_neg (by decide)).symm]
        exact ih c' _ C _ hch c3 _ _ _
/-- "and", "or": once it stands, it stands -/
theorem chS_stay {h : Nat → Int} {pr : Nat → Nat → Prop} {m : Nat → Nat → Int} (w : wfs f sk F S lo hi) {k v : Int} (hk : (k = 15 ∧ v = 0) ∨ (k = 16 ∧ v = 1)) : ∀ (L : List Nat) (c r i : Nat), chS pr (okK f k) m f L c r i → lo ≤ i → i < hi → EV f h nm r = v → EV f h nm i = v := by
  have hokk : ∀ r c, okK f k r c → (2 ≤ f 0 r ∧ f 0 r < 7) ∨ (9 < f 0 r ∧ f 0 r ≠ 14) := by
    intro r c e
    have e : f 0 r = k := e
    omega
  intro L
  induction L with
  | nil => intro c r i e _ _ e2; rw [← e.2]; exact e2
  | cons c' L ih =>
    intro c r i e g1 g2 e2
    obtain ⟨_, r', e1, _, hok, _, hch⟩ := e
    obtain ⟨k1, k2⟩ := chS_in w hokk hch g1 g2
    refine ih c' r' i hch g1 g2 ?_
    have er : (f 1 r').toNat = r := by rw [e1]; rfl
    have hok : f 0 r' = k := hok
    rw [EV_eq w k1 (by omega)]
    rcases hk with ⟨rfl, rfl⟩ | ⟨rfl, rfl⟩
    · rw [evo_15 hok, er, if_pos e2]
    · rw [evo_16 hok, er, if_neg (by rw [e2]; decide)]
set_option maxHeartbeats 4000000 in
theorem C_hasPart (hC : evC σ0 f sk nm F S lo hi T N nn) {n : Nat} (P : evP σ0 f sk sn nm F S lo hi T n) {σ : xS} (h1 : σ.1 = σ0.1) (h2 : σ.2.1 = σ0.2.1) (hd : 2 * n + 1 ≤ xdp σ) {k v : Int} (hk : (k = 15 ∧ v = 0) ∨ (k = 16 ∧ v = 1)) {pr : Nat → Nat → Prop} (hp : ∀ c j, pr c j → 11 ≤ f 0 j ∧ ∃ lo' hi', rl f σ0.1 σ0.2.1 sk sn F S n lo' hi' c j) (w1 : xAV) : ∀ (L : List Nat) (c r i : Nat), chS pr (okK f k) σ0.1 f L c r i → lo ≤ i → i < hi → EV f (σ0.1 254) nm r = 1 - v → X iTerms_hasPart 5 [(2, (T : Int)), w1, (0, v), (2, σ0.1 c 7)] [] σ = some ((0, if EV f (σ0.1 254) nm i = v then 1 else 0), σ) := by
  have hokk : ∀ r c, okK f k r c → (2 ≤ f 0 r ∧ f 0 r < 7) ∨ (9 < f 0 r ∧ f 0 r ≠ 14) := by
    intro r c e
    have e : f 0 r = k := e
    omega
  intro L
  induction L with
  | nil =>
    intro c r i e _ _ e2
    rw [qTerms_hasPart_5, if_pos e.1, ← e.2, if_neg (by omega)]
  | cons c' L ih =>
    intro c r i e g1 g2 e2
    have e' := e
    obtain ⟨e7, r', e1, _, hok, hsub, hch⟩ := e
    obtain ⟨hk11, lo', hi', hrl⟩ := hp _ _ hsub
    obtain ⟨_, _, hn⟩ := rl_nd hrl
    obtain ⟨k1, k2⟩ := chS_in hC.2.1 hokk hch g1 g2
    have w4' := (hC.2.1 r' k1 (by omega)).2.2.2.2.1 (hokk _ _ hok)
    have er : (f 1 r').toNat = r := by rw [e1]; rfl
    have hok : f 0 r' = k := hok
    have hb := EV_bit (h := σ0.1 254) (nm := nm) hC.2.1 w4'.2.1 (by omega) hk11
    rw [qTerms_hasPart_5, e7, if_neg (nz hn.1), tob_is hC.1 h2, cnd_t, dp_dn (by omega), cnd_f, evP_H P h1 h2 hd hrl w4'.2.1 (by omega) hk11]
    show X iTerms_hasPart 14 _ [(0, _)] (xsetdp (xsetdp σ (xdp σ - 1)) (xdp σ)) = _
    rw [xsetdp_back, qTerms_hasPart_14]
    have er' := EV_eq (h := σ0.1 254) (nm := nm) hC.2.1 k1 (by omega)
    by_cases c0 : EV f (σ0.1 254) nm (f 2 r').toNat = v
    · rw [if_pos c0]
      have e3 : EV f (σ0.1 254) nm r' = v := by
        rw [er']
        rcases hk with ⟨rfl, rfl⟩ | ⟨rfl, rfl⟩
        · rw [evo_15 hok, er, if_neg (by rw [e2]; decide), if_pos c0]
        · rw [evo_16 hok, er, if_pos (by rw [e2]; rfl), if_neg (by rw [c0]; decide)]
      rw [if_pos (chS_stay hC.2.1 hk L c' r' i hch g1 g2 e3)]
    · rw [if_neg c0, nd_g h1 h2 hn, xob_some]
      refine ih c' r' i hch g1 g2 ?_
      rw [er']
      rcases hk with ⟨rfl, rfl⟩ | ⟨rfl, rfl⟩
      · rw [evo_15 hok, er, if_neg (by rw [e2]; decide), if_neg c0]; rfl
      · rw [evo_16 hok, er, if_pos (by rw [e2]; rfl), if_pos (hb.resolve_right c0)]; rfl
end CEV

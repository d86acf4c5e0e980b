/-! the head of a chain; the nodes that are made -/
section CHH
variable {B : Nat → Int} {n C : Nat} {sk sn : Nat → Int} {F M c0 : Nat} {cs : Nat → Nat}
variable {md md2 h h2 KR : Int} {hp : Nat} {P : Int → Prop} {J : Nat → Int → Int → Prop} {kd : Int → Int} {zn : Int → Int → Int} {ok : (Nat → Nat → Int) → (Nat → Nat → Int) → Nat → Nat → Prop} {LP : Int → Int → Int → xS → Option (xAV × xS) → Prop}
set_option maxHeartbeats 2000000 in
theorem chain_head (hh : h = h2 + 1)
    (hJ : ∀ j k w, J j k w → P k ∧ ((2 ≤ k ∧ k < 7) ∨ (15 ≤ k ∧ k ≤ 16)) ∧ t_c B n j ≠ 1 ∧ own k + 3 * ptk B n j ≤ 3 * ptk B n (j + 1))
    (ok1 : ∀ m f r c j k w, J j k w → f 0 r = k → m c 5 = w → ok m f r c)
    (ok2 : ∀ m m' f f' r c, f' 0 r = f 0 r → m' c 5 = m c 5 → ok m f r c → ok m' f' r c)
    (ok3 : ∀ m f r c, ok m f r c → (2 ≤ f 0 r ∧ f 0 r < 7) ∨ (9 < f 0 r ∧ f 0 r ≠ 14))
    (okr : ∀ (f m : Nat → Nat → Int) (t : List (Nat × Nat)) (N lo hi s i c r c' : Nat) (L : List Nat), lo ≤ s ∧ s < hi ∧ nd t s → (∃ j k w, J j k w ∧ f 0 i = k) → m s 0 = KR → m s 6 = (c : Int) → (P (f 0 r) ∧ ∃ lo' hi', lo ≤ lo' ∧ hi' ≤ hi ∧ ¬ (lo' ≤ s ∧ s < hi') ∧ rl f m t sk sn F (F + M) N lo' hi' c r) → chS (fun c j => P (f 0 j) ∧ ∃ lo' hi', lo ≤ lo' ∧ hi' ≤ hi ∧ ¬ (lo' ≤ s ∧ s < hi') ∧ rl f m t sk sn F (F + M) N lo' hi' c j) (ok m f) m f (c' :: L) c r i → rl f m t sk sn F (F + M) (N + 1) lo hi s i)
    (gz : ∀ j k w z, J j k w → kd (zn z k) = k)
    (gp : ∀ (o : Int) (j c : Nat) (f : Nat → Nat → Int) (g x y z : Int) (K : List PF) (x' : Int) (c' : Nat) (f' : Nat → Nat → Int) (k w : Int), K.length < 499 → jn c0 (kd z) x g c f x' c' f' → J j k w → GO B n sk sn F (F + M) c0 (-1, o, j, c, f, g, (md, 1, x, y, z) :: K) (-1, o, j + 1, c', f', g, (md2, 0, -1, -1, 0) :: (md, 1, x', y, zn z k) :: K))
    (gd : ∀ (o : Int) (j c : Nat) (f : Nat → Nat → Int) (g x y z : Int) (K : List PF) (x' : Int) (c' : Nat) (f' : Nat → Nat → Int), K.length < 499 → jn c0 (kd z) x g c f x' c' f' → (∀ k w, ¬ J j k w) → GO B n sk sn F (F + M) c0 (-1, o, j, c, f, g, (md, 1, x, y, z) :: K) (-1, o, j, c', f', x', K))
    (gb : ∀ (o : Int) (j c : Nat) (f : Nat → Nat → Int) (g x y z : Int) (K : List PF), K.length < 499 → GO B n sk sn F (F + M) c0 (-1, o, j, c, f, g, (md, 0, x, y, z) :: K) (-1, o, j, c, f, g, (md2, 0, -1, -1, 0) :: (md, 1, x, y, z) :: K))
    (H0 : ∀ (s i : Nat) σ, LP 0 s i σ (some ((2, 0), σ)))
    {o : Int} (H1 : ∀ (p s i : Nat) σ j, 0 < p → 0 < s → rst σ.1 B n C o j → (∀ k w, ¬ J j k w) → LP p s i σ (some ((2, (s : Int)), σ)))
    (H2 : ∀ (p s i : Nat) σ j k w c f, nd σ.2.1 p → rst σ.1 B n C o j → J j k w → i < n → ltc σ.1 σ.2.1 sk sn F M cs → 20 * (11 - o) + (hp : Int) + 1 ≤ (xdp σ : Int) → c + (C - (j + 1)) < 3300 → c0 ≤ c → ∃ τ1 v τ2, rf σ τ1 ∧ rst τ1.1 B n C o (j + 1) ∧ RO B n C sk sn F (F + M) c0 md2 h2 P τ1 τ2 v o (j + 1) c f ∧ (v = 0 → ∀ r, LP 0 s (i + 1 : Nat) τ2 r → LP p s i σ r) ∧ ∀ b : Nat, v = (b : Int) → nd τ2.2.1 b → ∀ r, LP b s (i + 1 : Nat) (xs (xs τ2 b 5 w) p 7 b) r → LP p s i σ r)
    {mi : Nat} {ls : List xAV}
    (H3 : ∀ (σ : xS) (j c : Nat) (f : Nat → Nat → Int), rst σ.1 B n C o j → ltc σ.1 σ.2.1 sk sn F M cs → 20 * (11 - o) + (hp : Int) + 1 ≤ (xdp σ : Int) → c + (C - j) < 3300 → c0 ≤ c → ∃ v τ, RO B n C sk sn F (F + M) c0 md2 h2 P σ τ v o j c f ∧ (v = 0 → X mi 0 ls [] σ = some ((2, 0), τ)) ∧ ∀ a : Nat, v = (a : Int) → nd τ.2.1 a → ∀ j', rst τ.1 B n C o j' → ((∀ k w, ¬ J j' k w) → X mi 0 ls [] σ = some ((2, (a : Int)), τ)) ∧ ((∃ k w, J j' k w) → ∀ r, LP a (nn τ) (0 : Nat) (xs (nnd τ KR) (nn τ) 6 a) r → X mi 0 ls [] σ = r))
    (hn : 1 ≤ h2) : RD B n C sk sn F M c0 cs md h (hp + 1) P mi ls o := by
  intro σ j c f hr hl hd hc h0
  have ho := hr.2.2.1.2
  have hd' : 20 * (11 - o) + (hp : Int) + 1 ≤ (xdp σ : Int) := by omega
  obtain ⟨v, τ, k1, k2, k3⟩ := H3 σ j c f hr hl hd' hc h0
  rcases k1 with ⟨k, a, j', c', f', rfl, m1, m2, ⟨m3, m4, m5, m6⟩, m7, m8, ⟨m9, m13⟩, m10, m11, m12⟩ | ⟨rfl, k', q, m1, m2, m3, m6⟩
  · obtain ⟨l1, l2, l3⟩ := rl_nd (m11 _ (Nat.le_refl _))
    obtain ⟨g1, g2⟩ := k3 a rfl l3 j' m2
    have gc : ∀ g K, ((List.length K : Nat) : Int) + 10 * (11 - o) + h ≤ 490 → GO B n sk sn F (F + M) c0 (-1, o, j, c, f, g, (md, 0, -1, -1, 0) :: K) (-1, o, j', c', f', ((c' - 1 : Nat) : Int), (md, 1, -1, -1, 0) :: K) := fun g K hK => GO_tr (gb o j c f g (-1) (-1) 0 K (by omega)) (m12 g _ (by rw [List.length_cons]; omega))
    have hjn : jn c0 (kd 0) (-1) ((c' - 1 : Nat) : Int) c' f' ((c' - 1 : Nat) : Int) c' f' := Or.inl ⟨by decide, rfl, rfl, rfl⟩
    by_cases hj : ∃ k w, J j' k w
    · have n1 := hg_nn m1
      have n2 := nn_ge (σ := σ)
      have hd1 : hg τ (xs (nnd τ KR) (nn τ) 6 (a : Int)) 1 := hg_s (hg_nd KR) (Nat.le_refl _) 6 _
      have n3 := hg_nn hd1
      obtain ⟨o1, o2⟩ := nnd_o (k := KR) l3
      have em : ∀ x, x ≠ nn τ → (xs (nnd τ KR) (nn τ) 6 (a : Int)).1 x = τ.1 x := fun x hx => by rw [xs_ne hx, nnd_m hx]
      have cI : CI B n C sk sn F (F + M) c0 md h KR P J kd ok σ (xs (nnd τ KR) (nn τ) 6 (a : Int)) o j j' c f 0 a (nn τ) := by
        refine ⟨k + 1, c', c', a, c' - 1, c' - c, f', f', ((c' - 1 : Nat) : Int), -1, 0, [], ⟨hg_tr m1 hd1, rst_cg m2 (fun x hx => em x (by omega)), ⟨by omega, by omega, m4, m5, m6.2⟩, fun _ => hj, fun e => absurd rfl e⟩, ⟨m7, ⟨m8, m13⟩, hjn, gc⟩, ⟨by omega, by omega, nnd_nd (k := KR), ?_, ?_, ?_⟩, ⟨l1, by omega, by omega, o1, ?_, rfl⟩, fun e => absurd rfl e, ⟨Nat.le_refl _, fun e => absurd rfl e, by omega, by omega⟩, fun N hN => ⟨⟨m9, nn σ, nn τ, Nat.le_refl _, by omega, by omega, fun _ => rfl, ?_⟩, ?_, rfl⟩⟩
        · rw [xs_at, xup_ne (by decide), nnd_v, if_pos rfl]
        · rw [xs_at, xup_eq]
        · rw [xs_at, xup_ne (by decide), nnd_v]; rfl
        · rw [em a (by omega)]; exact m10
        · exact rl_cg m8 (fun x hx => (hg_ndk hd1 hx).1) (fun _ _ _ => ⟨rfl, rfl⟩) (fun x w hx => hg_nam hd1 hx) N (nn σ) (nn τ) a (c' - 1) (by omega) (by omega) (fun x q x1 x2 x3 x4 => by rw [em x (by omega)]) (fun j' _ _ => ⟨fun _ _ _ => rfl, fun _ => rfl⟩) (m11 N hN)
        · rw [em a (by omega)]; exact m10
      obtain ⟨v, υ, r1, r2⟩ := chain_loop hh hJ ok1 ok2 ok3 okr gz gp gd H0 H1 H2 hl hd' hc h0 ho hn (C - j' + 1) _ j' 0 a (nn τ) (by omega) cI
      exact ⟨v, υ, g2 hj _ r1, r2⟩
    · have hj' : ∀ k w, ¬ J j' k w := fun k w q => hj ⟨k, w, q⟩
      exact ⟨(a : Int), τ, g1 hj', Or.inl ⟨k, a, j', c', f', rfl, m1, m2, ⟨m3, m4, m5, m6⟩, m7, m8, ⟨m9, m13⟩, m10, m11, fun g K hK => GO_tr (gc g K hK) (gd o j' c' f' _ (-1) (-1) 0 K _ _ _ (by omega) hjn hj')⟩⟩
  · exact ⟨0, τ, k2 rfl, Or.inr ⟨rfl, k', q, m1, m2, m3, fun g K hK => BAD_tr (gb o j c f g (-1) (-1) 0 K (by omega)) (m6 g _ (by rw [List.length_cons]; omega))⟩⟩
variable {σ : xS}
/-- a node of a Kind with a first part -/
theorem of_run {G : xS → Option (xAV × xS)} (k x : Int) : (bif xisO xE1 (xal xE1 σ 7 8) ((xnew xE1 σ : Nat) : Int) 7 then (bif Nat.beq ((xnew xE1 σ : Nat) : Int).toNat 0 then none
    else bif xisO xE1 (xal xE1 σ 7 8) ((xnew xE1 σ : Nat) : Int) 7 then (xob (xwr xE1 (xal xE1 σ 7 8) ((xnew xE1 σ : Nat) : Int) 1 (-1)) none fun s1 => bif xisO xE1 s1 ((xnew xE1 σ : Nat) : Int) 7 then (xob (xwr xE1 s1 ((xnew xE1 σ : Nat) : Int) 4 108) none fun s2 => bif xisO xE1 s2 ((xnew xE1 σ : Nat) : Int) 7 then (xob (xwr xE1 s2 ((xnew xE1 σ : Nat) : Int) 0 k) none fun s3 => bif xisO xE1 s3 ((xnew xE1 σ : Nat) : Int) 7 then (xob (xwr xE1 s3 ((xnew xE1 σ : Nat) : Int) 6 x) none fun s4 => G s4) else none) else none) else none) else none) else none) = G (xs (nnd σ k) (nn σ) 6 x) := by
  rw [nn_run (G := fun s3 => bif xisO xE1 s3 ((xnew xE1 σ : Nat) : Int) 7 then (xob (xwr xE1 s3 ((xnew xE1 σ : Nat) : Int) 6 x) none fun s4 => G s4) else none)]
  have e : nd (nnd σ k).2.1 (nn σ) := nnd_nd
  show (bif xisO xE1 (nnd σ k) ((nn σ : Nat) : Int) 7 then (xob (xwr xE1 (nnd σ k) ((nn σ : Nat) : Int) 6 x) none fun s4 => G s4) else none) = _
  rw [nd_o e, cnd_t, nd_wr e, xob_some]
theorem C_append_0 (a0 a1 : Int) : X iReader_append 0 [(2, a0), (0, a1), (2, 0)] [] σ = some ((2, 0), σ) := by rw [qReader_append_0, if_pos rfl]
theorem C_append {p b : Nat} (hp : nd σ.2.1 p) (hb : nd σ.2.1 b) {w : Int} (hw : xna 3 w = w) : X iReader_append 0 [(2, (p : Int)), (0, w), (2, (b : Int))] [] σ = some ((2, (b : Int)), xs (xs σ b 5 w) p 7 (b : Int)) := by
  have := hb.1
  have hp' : nd (xs σ b 5 w).2.1 p := hp
  rw [qReader_append_0, if_neg (by omega), nd_o hb, cnd_t, if_pos hw, nd_wr hb, xob_some, nd_o hp', cnd_t, nd_wr hp', xob_some]
variable {o : Int} {j : Nat}
theorem wd_at (h : rst σ.1 B n C o j) {q : Nat} (hq : q < 32) : (xcm (σ.1 297 9) && xcm ((2 + q : Nat) : Int)) = true ∧ (σ.1 297 9 = ((2 + q : Nat) : Int) ↔ tW B n j (kcd q)) := by
  rw [h.2.1.2.2.2]
  exact ⟨by rw [xcm_tk, xcm_q q (by omega)]; rfl, t_k_iff hq⟩
theorem wd_if (h : rst σ.1 B n C o j) : (xcm (σ.1 297 9) && xcm 16) = true ∧ (σ.1 297 9 = 16 ↔ tW B n j 249) := wd_at h (q := 14) (by decide)
theorem wd_min (h : rst σ.1 B n C o j) : (xcm (σ.1 297 9) && xcm 19) = true ∧ (σ.1 297 9 = 19 ↔ tW B n j 9734) := wd_at h (q := 17) (by decide)
theorem wd_max (h : rst σ.1 B n C o j) : (xcm (σ.1 297 9) && xcm 20) = true ∧ (σ.1 297 9 = 20 ↔ tW B n j 9528) := wd_at h (q := 18) (by decide)
theorem wd_or (h : rst σ.1 B n C o j) : (xcm (σ.1 297 9) && xcm 21) = true ∧ (σ.1 297 9 = 21 ↔ tW B n j 423) := wd_at h (q := 19) (by decide)
theorem wd_and (h : rst σ.1 B n C o j) : (xcm (σ.1 297 9) && xcm 22) = true ∧ (σ.1 297 9 = 22 ↔ tW B n j 1111) := wd_at h (q := 20) (by decide)
theorem wd_not (h : rst σ.1 B n C o j) : (xcm (σ.1 297 9) && xcm 23) = true ∧ (σ.1 297 9 = 23 ↔ tW B n j 10631) := wd_at h (q := 21) (by decide)
theorem tc_at (h : rst σ.1 B n C o j) : xna 3 (σ.1 297 8) = t_c B n j := by rw [h.2.1.2.2.1]; exact xna3_c h.1.1
end CHH

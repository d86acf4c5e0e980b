/-! a chain of parts: the class's loop against the machine's -/
section CHN
variable {B : Nat → Int} {n C : Nat} {sk sn : Nat → Int} {F M S c0 : Nat} {cs : Nat → Nat}
variable {md md2 h h2 KR : Int} {hp : Nat} {P : Int → Prop} {J : Nat → Int → Int → Prop} {kd : Int → Int} {zn : Int → Int → Int} {ok : (Nat → Nat → Int) → (Nat → Nat → Int) → Nat → Nat → Prop} {LP : Int → Int → Int → xS → Option (xAV × xS) → Prop}
/-- at the loop's head: p the last part, s the node -/
def CI (B : Nat → Int) (n C : Nat) (sk sn : Nat → Int) (F S c0 : Nat) (md h KR : Int) (P : Int → Prop) (J : Nat → Int → Int → Prop) (kd : Int → Int) (ok : (Nat → Nat → Int) → (Nat → Nat → Int) → Nat → Nat → Prop) (σ τ : xS) (o : Int) (j j1 c : Nat) (f : Nat → Nat → Int) (i p s : Nat) : Prop :=
  ∃ (k c1 c1' a1 r D : Nat) (f1 f1' : Nat → Nat → Int) (g1 x z : Int) (L : List Nat),
    (hg σ τ k ∧ rst τ.1 B n C o j1 ∧ (i + j < j1 ∧ k + j ≤ j1 + 1 ∧ c < c1' ∧ c1' + j ≤ c + j1 ∧ wl f1' (lwd sn F) (c1' - 1) + 3 * ptk B n j ≤ 3 * ptk B n j1) ∧ ((L = [] → ∃ k w, J j1 k w) ∧ (L ≠ [] → k + j ≤ j1))) ∧
    ((∀ q r, r < c → f1' q r = f q r) ∧ (wfs f1' sk F S c c1' ∧ f1' 4 (c1' - 1) = -1) ∧ jn c0 (kd z) x g1 c1 f1 ((c1' - 1 : Nat) : Int) c1' f1' ∧
      ∀ g K, ((List.length K : Nat) : Int) + 10 * (11 - o) + h ≤ 490 → GO B n sk sn F S c0 (-1, o, j, c, f, g, (md, 0, -1, -1, 0) :: K) (-1, o, j1, c1, f1, g1, (md, 1, x, -1, z) :: K)) ∧
    (nn σ ≤ s ∧ s < nn τ ∧ nd τ.2.1 s ∧ τ.1 s 0 = KR ∧ τ.1 s 6 = (a1 : Int) ∧ τ.1 s 7 = 0) ∧
    (nn σ ≤ p ∧ p < nn τ ∧ p ≠ s ∧ nd τ.2.1 p ∧ τ.1 p 7 = 0 ∧ lst a1 L = p) ∧
    (L ≠ [] → ∃ j0 k0 w0, J j0 k0 w0 ∧ f1' 0 (c1' - 1) = k0) ∧
    (D ≤ c1' - c ∧ (L ≠ [] → D + 1 ≤ c1' - c) ∧ c ≤ r ∧ r < c1') ∧
    ∀ N, D ≤ N → sbi P f1' τ.1 τ.2.1 sk sn F S N s p (nn σ) (nn τ) a1 r ∧ chS (sbi P f1' τ.1 τ.2.1 sk sn F S N s p (nn σ) (nn τ)) (ok τ.1 f1') τ.1 f1' L a1 r (c1' - 1)
set_option maxHeartbeats 4000000 in
theorem chain_loop (hh : h = h2 + 1)
    (hJ : ∀ j k w, J j k w → P k ∧ ((2 ≤ k ∧ k < 7) ∨ (15 ≤ k ∧ k ≤ 16)) ∧ t_c B n j ≠ 1 ∧ own k + 3 * ptk B n j ≤ 3 * ptk B n (j + 1))
    (ok1 : ∀ m f r c j k w, J j k w → f 0 r = k → m c 5 = w → ok m f r c)
    (ok2 : ∀ m m' f f' r c, f' 0 r = f 0 r → m' c 5 = m c 5 → ok m f r c → ok m' f' r c)
    (ok3 : ∀ m f r c, ok m f r c → (2 ≤ f 0 r ∧ f 0 r < 7) ∨ (9 < f 0 r ∧ f 0 r ≠ 14))
    (okr : ∀ (f m : Nat → Nat → Int) (t : List (Nat × Nat)) (N lo hi s i c r c' : Nat) (L : List Nat), lo ≤ s ∧ s < hi ∧ nd t s → (∃ j k w, J j k w ∧ f 0 i = k) → m s 0 = KR → m s 6 = (c : Int) → (P (f 0 r) ∧ ∃ lo' hi', lo ≤ lo' ∧ hi' ≤ hi ∧ ¬ (lo' ≤ s ∧ s < hi') ∧ rl f m t sk sn F S N lo' hi' c r) → chS (fun c j => P (f 0 j) ∧ ∃ lo' hi', lo ≤ lo' ∧ hi' ≤ hi ∧ ¬ (lo' ≤ s ∧ s < hi') ∧ rl f m t sk sn F S N lo' hi' c j) (ok m f) m f (c' :: L) c r i → rl f m t sk sn F S (N + 1) lo hi s i)
    (gz : ∀ j k w z, J j k w → kd (zn z k) = k)
    (gp : ∀ (o : Int) (j c : Nat) (f : Nat → Nat → Int) (g x y z : Int) (K : List PF) (x' : Int) (c' : Nat) (f' : Nat → Nat → Int) (k w : Int), K.length < 499 → jn c0 (kd z) x g c f x' c' f' → J j k w → GO B n sk sn F S c0 (-1, o, j, c, f, g, (md, 1, x, y, z) :: K) (-1, o, j + 1, c', f', g, (md2, 0, -1, -1, 0) :: (md, 1, x', y, zn z k) :: K))
    (gd : ∀ (o : Int) (j c : Nat) (f : Nat → Nat → Int) (g x y z : Int) (K : List PF) (x' : Int) (c' : Nat) (f' : Nat → Nat → Int), K.length < 499 → jn c0 (kd z) x g c f x' c' f' → (∀ k w, ¬ J j k w) → GO B n sk sn F S c0 (-1, o, j, c, f, g, (md, 1, x, y, z) :: K) (-1, o, j, c', f', x', K))
    (H0 : ∀ (s i : Nat) σ, LP 0 s i σ (some ((2, 0), σ)))
    {o : Int} (H1 : ∀ (p s i : Nat) σ j, 0 < p → 0 < s → rst σ.1 B n C o j → (∀ k w, ¬ J j k w) → LP p s i σ (some ((2, (s : Int)), σ)))
    (H2 : ∀ (p s i : Nat) σ j k w c f, nd σ.2.1 p → rst σ.1 B n C o j → J j k w → i < n → ltc σ.1 σ.2.1 sk sn F M cs → 20 * (11 - o) + (hp : Int) + 1 ≤ (xdp σ : Int) → c + (C - (j + 1)) < 3300 → c0 ≤ c → ∃ τ1 v τ2, rf σ τ1 ∧ rst τ1.1 B n C o (j + 1) ∧ RO B n C sk sn F S c0 md2 h2 P τ1 τ2 v o (j + 1) c f ∧ (v = 0 → ∀ r, LP 0 s (i + 1 : Nat) τ2 r → LP p s i σ r) ∧ ∀ b : Nat, v = (b : Int) → nd τ2.2.1 b → ∀ r, LP b s (i + 1 : Nat) (xs (xs τ2 b 5 w) p 7 b) r → LP p s i σ r)
    {σ : xS} {j c : Nat} {f : Nat → Nat → Int} (hl : ltc σ.1 σ.2.1 sk sn F M cs) (hd : 20 * (11 - o) + (hp : Int) + 1 ≤ (xdp σ : Int)) (hc : c + (C - j) < 3300) (h0 : c0 ≤ c) (ho : 0 ≤ o ∧ o ≤ 10) (hn : 1 ≤ h2) :
    ∀ (fu : Nat) (τ : xS) (j1 i p s : Nat), C - j1 < fu → CI B n C sk sn F S c0 md h KR P J kd ok σ τ o j j1 c f i p s → ∃ v υ, LP p s i τ (some ((2, v), υ)) ∧ RO B n C sk sn F S c0 md h P σ υ v o j c f := by
  intro fu
  induction fu with
  | zero => intro τ j1 i p s hf _; exact absurd hf (Nat.not_lt_zero _)
  | succ fu ih =>
    intro τ j1 i p s hf ⟨k, c1, c1', a1, r, D, f1, f1', g1, x, z, L, ⟨e1, e2, ⟨e3, e4, e5, e6⟩, e7, e8⟩, ⟨d1, ⟨d2, d5⟩, d3, d4⟩, ⟨s1, s2, s3, s4, s5, s6⟩, ⟨p1, p2, p3, p4, p5, p6⟩, q1, ⟨q2, q3, q4, q5⟩, q6⟩
    have gσ := nn_ge (σ := σ)
    have e10 := e2.2.1.1
    by_cases hj : ∃ k w, J j1 k w
    · obtain ⟨k0, w0, hj⟩ := hj
      obtain ⟨t1, t2, t3, t4⟩ := hJ _ _ _ hj
      have hlt := tc_lt e2 t3
      have hin := rst_lt e2 hlt
      obtain ⟨τ1, v, τ2, b1, b2, b3, b4, b5⟩ := H2 p s i τ j1 k0 w0 c1' f1' p4 e2 hj (by omega) (hg_ltc e1 hl) (by rw [hg_xdp e1]; exact hd) (by omega) (by omega)
      have gp1 : ∀ g K, ((List.length K : Nat) : Int) + 10 * (11 - o) + h ≤ 490 → GO B n sk sn F S c0 (-1, o, j, c, f, g, (md, 0, -1, -1, 0) :: K) (-1, o, j1 + 1, c1', f1', g1, (md2, 0, -1, -1, 0) :: (md, 1, ((c1' - 1 : Nat) : Int), -1, zn z k0) :: K) := fun g K hK => GO_tr (d4 g K hK) (gp o j1 c1 f1 g1 x (-1) z K _ _ _ k0 w0 (by omega) d3 hj)
      rcases b3 with ⟨k2, b, j2, c2, f2, rfl, m1, m2, ⟨m3, m4, m5, m6⟩, m7, m8, ⟨m9, m13⟩, m10, m11, m12⟩ | ⟨rfl, k2, q, m1, m2, ⟨m3, m4, m5⟩, m6⟩
      · have hgτ := hg_tr e1 (hg_tr (hg_rf b1) m1)
        have n1 := hg_nn (hg_rf b1)
        have n2 := hg_nn m1
        have n3 := hg_nn e1
        have n4 := hg_nn hgτ
        obtain ⟨l1, l2, l3⟩ := rl_nd (m11 _ (Nat.le_refl _))
        have m2C := m2.2.1.1
        have hold := hg_tr (hg_rf b1) m1
        have p4' := (hg_ndk hold p4)
        have s3' := (hg_ndk hold s3)
        -- the state behind
        have hmold : ∀ x, x < nn τ → x ≠ 297 → ∀ q, (x = p → q ≠ 7) → (xs (xs τ2 b 5 w0) p 7 b).1 x q = τ.1 x q := fun x hx hx2 q hq => by
          by_cases e : x = p
          · rw [e, xs_at, xup_ne (hq e), xs_ne (by omega), p4'.2]
          · rw [xs_ne e, xs_ne (by omega), hold.2.2.2.1 x hx2 hx]
        have hmnew : ∀ x, nn τ1 ≤ x → ∀ q, (x = b → q ≠ 5) → (xs (xs τ2 b 5 w0) p 7 b).1 x q = τ2.1 x q := fun x hx q hq => by
          rw [xs_ne (by omega)]
          by_cases e : x = b
          · rw [e, xs_at, xup_ne (hq e)]
          · rw [xs_ne e]
        have hb5 : (xs (xs τ2 b 5 w0) p 7 b).1 b 5 = w0 := by rw [xs_ne (by omega), xs_at, xup_eq]
        have hb7 : (xs (xs τ2 b 5 w0) p 7 b).1 b 7 = 0 := by rw [hmnew b l1 7 (fun _ => by decide)]; exact m10
        have hp7 : (xs (xs τ2 b 5 w0) p 7 b).1 p 7 = (b : Int) := by rw [xs_at, xup_eq]
        have hnam : ∀ x w, nam τ.1 τ.2.1 x w → nam (xs (xs τ2 b 5 w0) p 7 b).1 τ2.2.1 x w := fun x w hx => by
          obtain ⟨cc, l, u1, ⟨u2, u3, u4, v, u5, u6, u7, u8⟩, u9, u10⟩ := hx
          have y1 := ty_lt u2 u3
          have y2 := ty_lt u6 u7
          have hcp : cc ≠ p := fun e => by
            have : some (0, 4) = some (7, 8) := u3.symm.trans (by rw [e]; exact p4.2)
            exact absurd this (by decide)
          have hvp : v ≠ p := fun e => by
            have : some (102, l.length) = some (7, 8) := u7.symm.trans (by rw [e]; exact p4.2)
            injection this with h; injection h with h _; exact absurd h (by decide)
          exact ⟨cc, l, u1, ⟨u2, hg_ty hold u3, by rw [hmold cc y1 (by omega) 1 (fun e => absurd e hcp)]; exact u4, v, by rw [hmold cc y1 (by omega) 0 (fun e => absurd e hcp)]; exact u5, u6, hg_ty hold u7, fun q hq => by rw [hmold v y2 (by omega) q (fun e => absurd e hvp)]; exact u8 q hq⟩, u9, u10⟩
        have hnam2 : ∀ x w, nam τ2.1 τ2.2.1 x w → nam (xs (xs τ2 b 5 w0) p 7 b).1 τ2.2.1 x w := fun x w hx => by
          obtain ⟨cc, l, u1, ⟨u2, u3, u4, v, u5, u6, u7, u8⟩, u9, u10⟩ := hx
          have hne : ∀ (x y kk nx : Nat) (q : Nat), xnth τ2.2.1 (x - 392) = some (kk, nx) → kk ≠ 7 → nd τ2.2.1 y → x ≠ y := fun x y kk nx q h1 h2 h3 e => by
            have : some (kk, nx) = some (7, 8) := h1.symm.trans (by rw [e]; exact h3.2)
            injection this with h; injection h with h _; exact h2 h
          exact ⟨cc, l, u1, ⟨u2, u3, by rw [xs_ne (hne cc p _ _ 0 u3 (by decide) p4'.1), xs_ne (hne cc b _ _ 0 u3 (by decide) l3)]; exact u4, v, by rw [xs_ne (hne cc p _ _ 0 u3 (by decide) p4'.1), xs_ne (hne cc b _ _ 0 u3 (by decide) l3)]; exact u5, u6, u7, fun q hq => by rw [xs_ne (hne v p _ _ 0 u7 (by decide) p4'.1), xs_ne (hne v b _ _ 0 u7 (by decide) l3)]; exact u8 q hq⟩, u9, u10⟩
        have hf' : ∀ q r, r < c1' → nwr f2 c2 k0 ((c1' - 1 : Nat) : Int) ((c2 - 1 : Nat) : Int) 0 0 q r = f1' q r := fun q r hr => by rw [nwr_lo (by omega), m7 q r hr]
        have hf2 : ∀ q r, r < c2 → nwr f2 c2 k0 ((c1' - 1 : Nat) : Int) ((c2 - 1 : Nat) : Int) 0 0 q r = f2 q r := fun q r hr => nwr_lo (by omega)
        obtain ⟨w0', w1', w2', w3', wq', w5'⟩ := nwr_at (f := f2) (c := c2) (k := k0) (a := ((c1' - 1 : Nat) : Int)) (b := ((c2 - 1 : Nat) : Int)) (d := 0) (v := 0)
        have wfs' : wfs (nwr f2 c2 k0 ((c1' - 1 : Nat) : Int) ((c2 - 1 : Nat) : Int) 0 0) sk F S c (c2 + 1) := by
          refine wfs_snoc (wfs_app (wfs_cg (fun q r _ hr => hf' q r hr) d2) (wfs_cg (fun q r _ hr => hf2 q r hr) m8) (by omega)) ?_
          unfold wfr
          rw [w0', w1', w2', w3', w5']
          refine ⟨by omega, fun q => by omega, fun q => by omega, fun _ => by omega, fun _ => by omega, fun q => by omega, fun q => by omega⟩
        have hW : wl (nwr f2 c2 k0 ((c1' - 1 : Nat) : Int) ((c2 - 1 : Nat) : Int) 0 0) (lwd sn F) (c2 + 1 - 1) = own k0 + wl f1' (lwd sn F) (c1' - 1) + wl f2 (lwd sn F) (c2 - 1) := by
          show wl (nwr f2 c2 k0 ((c1' - 1 : Nat) : Int) ((c2 - 1 : Nat) : Int) 0 0) (lwd sn F) c2 = _
          rw [wl_b wfs' (show c ≤ c2 by omega) (Nat.lt_succ_self c2) (by rw [w0']; omega), w0', w1', w2', Int.toNat_natCast, Int.toNat_natCast, wl_cg d2 (show c ≤ c1' - 1 by omega) (by omega) (fun q r hr _ => hf' q r (by omega)), wl_cg m8 (show c1' ≤ c2 - 1 by omega) (by omega) (fun q r hr _ => hf2 q r (by omega))]
        have CIn : CI B n C sk sn F S c0 md h KR P J kd ok σ (xs (xs τ2 b 5 w0) p 7 b) o j j2 c f (i + 1) b s := by
          refine ⟨k + (0 + k2), c2, c2 + 1, a1, r, max D (c2 - c1'), f2, nwr f2 c2 k0 ((c1' - 1 : Nat) : Int) ((c2 - 1 : Nat) : Int) 0 0, ((c2 - 1 : Nat) : Int), ((c1' - 1 : Nat) : Int), zn z k0, L ++ [b], ⟨hg_s (hg_s hgτ (by omega) 5 w0) p1 7 b, rst_cg m2 (fun a ha => by rw [xs_ne (by omega), xs_ne (by omega)]), ⟨by omega, by omega, by omega, by omega⟩, fun e => absurd e (by simp), fun _ => by omega⟩, ⟨fun q r hr => by rw [hf' q r (by omega), d1 q r hr], ⟨wfs', wq'⟩, Or.inr ⟨by omega, by omega, rfl, by rw [gz _ _ _ _ hj], by omega, by omega⟩, fun g K hK => GO_tr (gp1 g K hK) (m12 g1 _ (by rw [List.length_cons]; omega))⟩, ⟨s1, ?_, s3'.1, ?_, ?_, ?_⟩, ⟨by omega, ?_, by omega, l3, hb7, lst_snoc⟩, fun _ => ⟨j1, k0, w0, hj, w0'⟩, ⟨by omega, fun _ => by omega, q4, by omega⟩, fun N hN => ?_⟩
          · show s < nn τ2; omega
          · rw [hmold s s2 (by omega) 0 (fun e => absurd e.symm p3)]; exact s4
          · rw [hmold s s2 (by omega) 6 (fun e => absurd e.symm p3)]; exact s5
          · rw [hmold s s2 (by omega) 7 (fun e => absurd e.symm p3)]; exact s6
          · show b < nn τ2; exact l2
          · obtain ⟨y1, y2⟩ := q6 N (by omega)
            have st : ∀ c' j', c ≤ j' → j' < c1' → sbi P f1' τ.1 τ.2.1 sk sn F S N s p (nn σ) (nn τ) c' j' → sbi P (nwr f2 c2 k0 ((c1' - 1 : Nat) : Int) ((c2 - 1 : Nat) : Int) 0 0) (xs (xs τ2 b 5 w0) p 7 b).1 τ2.2.1 sk sn F S N s b (nn σ) (nn τ2) c' j' ∧ (τ.1 c' 7 ≠ 0 → (xs (xs τ2 b 5 w0) p 7 b).1 c' 7 = τ.1 c' 7) ∧ (xs (xs τ2 b 5 w0) p 7 b).1 c' 5 = τ.1 c' 5 := fun c' j' hj1 hj2 hs => sbi_step d2 (fun x hx => (hg_ndk hold hx).1) hnam (fun x hx hnx q hq => hmold x hx (by have := hnx.1; omega) q hq) (fun q r hr _ => hf' q r (by omega)) (fun r hr => hf' 4 r (by omega)) (by omega) (by omega) p5 hj1 hj2 hs
            have stb : sbi P (nwr f2 c2 k0 ((c1' - 1 : Nat) : Int) ((c2 - 1 : Nat) : Int) 0 0) (xs (xs τ2 b 5 w0) p 7 b).1 τ2.2.1 sk sn F S N s b (nn σ) (nn τ2) b (c2 - 1) := by
              refine ⟨by rw [hf2 0 _ (by omega)]; exact m9, nn τ1, nn τ2, by omega, Nat.le_refl _, by omega, fun _ => rfl, ?_⟩
              exact rl_cg m8 (fun _ hx => hx) (fun _ _ _ => ⟨rfl, rfl⟩) hnam2 N (nn τ1) (nn τ2) b (c2 - 1) (by omega) (by omega) (fun x q x1 x2 x3 x4 => hmnew x x1 q (fun e => (x4 e).1)) (fun j' _ hj' => ⟨fun q _ _ => hf2 q j' (by omega), fun _ => hf2 4 j' (by omega)⟩) (m11 N (by omega))
            refine ⟨(st a1 r q4 q5 y1).1, ?_⟩
            show chS (sbi P (nwr f2 c2 k0 ((c1' - 1 : Nat) : Int) ((c2 - 1 : Nat) : Int) 0 0) (xs (xs τ2 b 5 w0) p 7 b).1 τ2.2.1 sk sn F S N s b (nn σ) (nn τ2)) _ _ _ (L ++ [b]) a1 r c2
            refine chS_snoc d2 (fun r c => ok3 _ _ r c) (i := c1' - 1) (by omega) (by omega) (fun c j hs => sbi_nz hs) (fun j' _ hj' => ⟨hf' 1 j' (by omega), hf' 2 j' (by omega)⟩) (fun c' j' h1 h2 hs => ⟨(st c' j' h1 (by omega) hs).1, (st c' j' h1 (by omega) hs).2.1⟩) (fun r' c' h1 h2 hs hk => ?_) ⟨w1', by rw [w2']; omega, ok1 _ _ _ _ _ _ _ hj w0' hb5, by rw [w2', Int.toNat_natCast]; exact stb, hb7⟩ (st a1 r q4 q5 y1).2.1 (by rw [p6]; exact hp7) y2
            have w4 := (d2 r' h1 (by omega)).2.2.2.2.1 (ok3 _ _ _ _ hk)
            exact ok2 _ _ _ _ _ _ (hf' 0 r' (by omega)) (st c' _ w4.2.1 (by omega) hs).2.2 hk
        obtain ⟨v, υ, r1, r2⟩ := ih _ j2 (i + 1) b s (by omega) CIn
        exact ⟨v, υ, b5 b rfl l3 _ r1, r2⟩
      · refine ⟨0, τ2, b4 rfl _ (H0 _ _ _), Or.inr ⟨rfl, k + (0 + k2), q, hg_tr e1 (hg_tr (hg_rf b1) m1), m2, ⟨by omega, by omega, by omega⟩, fun g K hK => BAD_tr (gp1 g K hK) (m6 g1 _ (by rw [List.length_cons]; omega))⟩⟩
    · have hj' : ∀ k w, ¬ J j1 k w := fun k w q => hj ⟨k, w, q⟩
      match L, e7, e8, p6, q1, q3, q6 with
      | [], e7, _, _, _, _, _ => exact absurd (e7 rfl) hj
      | c' :: L, e7, e8, p6, q1, q3, q6 =>
        have e8 := e8 (by simp)
        have q3 := q3 (by simp)
        obtain ⟨j0, k0, w0, q1, q1'⟩ := q1 (by simp)
        refine ⟨_, _, H1 p s i τ j1 (by omega) (by omega) e2 hj', Or.inl ⟨k, s, j1, c1', f1', rfl, e1, e2, ⟨by omega, e5, e6.1, e8, e6.2⟩, d1, d2, ⟨by rw [q1']; exact (hJ _ _ _ q1).1, d5⟩, s6, fun N hN => ?_, fun g K hK => GO_tr (d4 g K hK) (gd o j1 c1 f1 g1 x (-1) z K _ _ _ (by omega) d3 hj')⟩⟩
        obtain ⟨N, rfl⟩ : ∃ N', N = N' + 1 := ⟨N - 1, by omega⟩
        obtain ⟨y1, y2⟩ := q6 N (by omega)
        exact okr f1' τ.1 τ.2.1 N (nn σ) (nn τ) s (c1' - 1) a1 r c' L ⟨s1, s2, s3⟩ ⟨j0, k0, w0, q1, q1'⟩ s4 s5 (sbi_rl y1) (chS_mono (fun c j hs => sbi_rl hs) y2)
end CHN

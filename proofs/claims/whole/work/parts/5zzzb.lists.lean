/-! "min" and "max" -/
section LSC
/-- a list's parts, behind the first, to row e -/
def chLe (sub : Nat → Nat → Prop) (m f : Nat → Nat → Int) : List Nat → Nat → Nat → Nat → Prop
  | [], c, r, e => m c 7 = 0 ∧ r = e
  | c' :: L, c, r, e => m c 7 = (c' : Int) ∧ 0 ≤ f 4 r ∧ sub c' (f 4 r).toNat ∧ chLe sub m f L c' (f 4 r).toNat e
variable {sub sub' : Nat → Nat → Prop} {m m' f f' : Nat → Nat → Int} {e e' nh b lo : Nat}
theorem chLe_out (hs : ∀ c j, sub c j → sub' c j ∧ m' c 7 = m c 7) (hr : ∀ c j, sub c j → j < nh) (hf : ∀ r, r < nh → f' 4 r = f 4 r) (he : f 4 e = -1) : ∀ {L : List Nat} {c r : Nat}, r < nh → m' c 7 = m c 7 → chLe sub m f L c r e → chL sub' m' f' L c r
  | [], c, r, h1, h2, h => ⟨by rw [h2]; exact h.1, by rw [hf r h1, h.2]; exact he⟩
  | c' :: L, c, r, h1, h2, ⟨g1, g2, g3, g4⟩ => by
    obtain ⟨s1, s2⟩ := hs _ _ g3
    refine ⟨by rw [h2]; exact g1, by rw [hf r h1]; exact g2, by rw [hf r h1]; exact s1, ?_⟩
    rw [hf r h1]
    exact chLe_out hs hr hf he (hr _ _ g3) s2 g4
theorem chLe_chw (hr : ∀ c j, sub c j → lo ≤ j ∧ j < nh) (he : f 4 e = -1) : ∀ {L : List Nat} {c r cnt : Nat}, L.length ≤ cnt → chLe sub m f L c r e → chw f lo nh cnt (f 4 r)
  | [], c, r, cnt, _, h => by
    have h4 : f 4 r < 0 := by rw [h.2, he]; decide
    cases cnt with
    | zero => exact h4
    | succ cnt => exact Or.inl h4
  | c' :: L, c, r, cnt, hl, ⟨g1, g2, g3, g4⟩ => by
    cases cnt with
    | zero => exact absurd hl (Nat.not_succ_le_zero _)
    | succ cnt => exact Or.inr ⟨hr _ _ g3, chLe_chw hr he (Nat.le_of_succ_le_succ hl) g4⟩
theorem chLe_snoc (hz : ∀ c j, sub c j → c ≠ 0) (hr : ∀ c j, sub c j → j < nh) (hs : ∀ c j, sub c j → sub' c j ∧ (m c 7 ≠ 0 → m' c 7 = m c 7)) (hf : ∀ r, r < nh → r ≠ e → f' 4 r = f 4 r) (he : f 4 e = -1) (hb : f' 4 e = (e' : Int) ∧ sub' b e' ∧ m' b 7 = 0) : ∀ {L : List Nat} {c r : Nat}, r < nh → (m c 7 ≠ 0 → m' c 7 = m c 7) → m' (lst c L) 7 = (b : Int) → chLe sub m f L c r e → chLe sub' m' f' (L ++ [b]) c r e'
  | [], c, r, _, _, hl, h => by
    obtain ⟨b1, b2, b3⟩ := hb
    have e4 : f' 4 r = (e' : Int) := by rw [h.2]; exact b1
    refine ⟨hl, by rw [e4]; omega, ?_, b3, ?_⟩
    · rw [e4, Int.toNat_natCast]; exact b2
    · rw [e4, Int.toNat_natCast]
  | c' :: L, c, r, h1, h2, hl, ⟨g1, g2, g3, g4⟩ => by
    obtain ⟨s1, s2⟩ := hs _ _ g3
    have z := hz _ _ g3
    have hre : r ≠ e := fun q => by rw [q, he] at g2; exact absurd g2 (by decide)
    refine ⟨by rw [h2 (by rw [g1]; omega)]; exact g1, by rw [hf r h1 hre]; exact g2, by rw [hf r h1 hre]; exact s1, ?_⟩
    rw [hf r h1 hre]
    exact chLe_snoc hz hr hs hf he hb (hr _ _ g3) s2 hl g4
variable {lw : Int → Nat}
/-- weights of further parts -/
def chW (f : Nat → Nat → Int) (lw : Int → Nat) : List Nat → Nat → Nat
  | [], _ => 0
  | _ :: L, r => 1 + wl f lw (f 4 r).toNat + chW f lw L (f 4 r).toNat
theorem chW_snoc (hr : ∀ c j, sub c j → j < nh ∧ wl f' lw j = wl f lw j) (hf : ∀ r, r < nh → r ≠ e → f' 4 r = f 4 r) (he : f 4 e = -1) (hb : f' 4 e = (e' : Int)) : ∀ {L : List Nat} {c r : Nat}, r < nh → chLe sub m f L c r e → chW f' lw (L ++ [b]) r = chW f lw L r + 1 + wl f' lw e'
  | [], c, r, _, h => by
    show 1 + wl f' lw (f' 4 r).toNat + 0 = 0 + 1 + wl f' lw e'
    rw [h.2, hb, Int.toNat_natCast]
    omega
  | c' :: L, c, r, h1, ⟨g1, g2, g3, g4⟩ => by
    have hre : r ≠ e := fun q => by rw [q, he] at g2; exact absurd g2 (by decide)
    have ih := chW_snoc hr hf he hb (hr _ _ g3).1 g4
    show 1 + wl f' lw (f' 4 r).toNat + chW f' lw (L ++ [b]) (f' 4 r).toNat = 1 + wl f lw (f 4 r).toNat + chW f lw L (f 4 r).toNat + 1 + wl f' lw e'
    rw [hf r h1 hre, ih, (hr _ _ g3).2]
    omega
theorem chW_lsw (he : f 4 e = -1) : ∀ {L : List Nat} {c r cnt : Nat}, L.length ≤ cnt → chLe sub m f L c r e → lsw f (wl f lw) cnt (f 4 r) = chW f lw L r
  | [], c, r, cnt, _, h => by
    have h4 : f 4 r < 0 := by rw [h.2, he]; decide
    cases cnt with
    | zero => rfl
    | succ cnt => exact if_pos h4
  | c' :: L, c, r, cnt, hl, ⟨g1, g2, g3, g4⟩ => by
    cases cnt with
    | zero => exact absurd hl (Nat.not_succ_le_zero _)
    | succ cnt =>
      show (if f 4 r < 0 then 0 else 1 + wl f lw (f 4 r).toNat + lsw f (wl f lw) cnt (f 4 (f 4 r).toNat)) = _
      rw [if_neg (by omega), chW_lsw he (Nat.le_of_succ_le_succ hl) g4]
      rfl
end LSC
section LSR
variable {B : Nat → Int} {n C : Nat} {sk sn : Nat → Int} {F M S c0 : Nat} {cs : Nat → Nat} {o : Int} {j c k : Nat} {f : Nat → Nat → Int} {σ τ υ : xS}
theorem T0p (v : Int) (τ τ1 : xS) (h : X iReader_pass 0 [(2, 297), (0, 41)] [] τ = some ((0, 0), τ1)) : X iReader_readToParen 0 [(2, 297), (2, v)] [] τ = some ((2, 0), τ1) := by rw [qReader_readToParen_0, h, Option.bind_some, qReader_readToParen_6, if_pos rfl]
theorem T1p (v : Int) (τ τ1 : xS) (u : Int) (τ2 : xS) (h : X iReader_pass 0 [(2, 297), (0, 41)] [] τ = some ((0, 1), τ1)) (h2 : X iReader_closes 0 [(2, 297), (2, v)] [] τ1 = some ((2, u), τ2)) : X iReader_readToParen 0 [(2, 297), (2, v)] [] τ = some ((2, u), τ2) := by rw [qReader_readToParen_0, h, Option.bind_some, qReader_readToParen_6, if_neg (show ¬ (1 : Int) = 0 by decide), h2, Option.bind_some, qReader_readToParen_14]
theorem T0b (v : Int) (τ τ1 : xS) (h : X iReader_pass 0 [(2, 297), (0, 93)] [] τ = some ((0, 0), τ1)) : X iReader_readToBracket 0 [(2, 297), (2, v)] [] τ = some ((2, 0), τ1) := by rw [qReader_readToBracket_0, h, Option.bind_some, qReader_readToBracket_6, if_pos rfl]
theorem T1b (v : Int) (τ τ1 : xS) (u : Int) (τ2 : xS) (h : X iReader_pass 0 [(2, 297), (0, 93)] [] τ = some ((0, 1), τ1)) (h2 : X iReader_closes 0 [(2, 297), (2, v)] [] τ1 = some ((2, u), τ2)) : X iReader_readToBracket 0 [(2, 297), (2, v)] [] τ = some ((2, u), τ2) := by rw [qReader_readToBracket_0, h, Option.bind_some, qReader_readToBracket_6, if_neg (show ¬ (1 : Int) = 0 by decide), h2, Option.bind_some, qReader_readToBracket_14]
/-- a part of a list's, its row within -/
def sbl (f m : Nat → Nat → Int) (t : List (Nat × Nat)) (sk sn : Nat → Int) (F S N s p lo hi c c1 c' j : Nat) : Prop := (c ≤ j ∧ j < c1) ∧ sbi (fun z => z ≤ 10) f m t sk sn F S N s p lo hi c' j
/-- at the loop's head -/
def LI (B : Nat → Int) (n C : Nat) (sk sn : Nat → Int) (F S c0 : Nat) (KR kk : Int) (σ τ : xS) (o : Int) (j j1 c : Nat) (f : Nat → Nat → Int) (i p s : Nat) : Prop :=
  ∃ (k c1 a1 r0 D : Nat) (f1 f1' : Nat → Nat → Int) (x y : Int) (L : List Nat),
    (hg σ τ k ∧ rst τ.1 B n C (o + 1) j1 ∧ (i + j < j1 ∧ k + j + 1 ≤ j1 ∧ c < c1 ∧ c1 + j + 2 ≤ c + j1 ∧ 6 + wl f1' (lwd sn F) r0 + chW f1' (lwd sn F) L r0 + 3 * ptk B n j ≤ 3 * ptk B n j1)) ∧
    ((∀ q r, r < c → f1' q r = f q r) ∧ (wfs f1' sk F S c c1 ∧ f1' 4 (c1 - 1) = -1) ∧ lj c0 x y ((c1 - 1 : Nat) : Int) f1 (r0 : Int) f1' ∧
      ∀ g K, ((List.length K : Nat) : Int) + 10 * (11 - o) + 1 ≤ 490 → GO B n sk sn F S c0 (-1, o, j, c, f, g, (3, 0, -1, -1, 0) :: K) (-1, o + 1, j1, c1, f1, ((c1 - 1 : Nat) : Int), (3, 1, x, y, kk) :: K)) ∧
    (nn σ ≤ s ∧ s < nn τ ∧ nd τ.2.1 s ∧ τ.1 s 0 = KR ∧ τ.1 s 6 = (a1 : Int) ∧ τ.1 s 7 = 0) ∧
    (nn σ ≤ p ∧ p < nn τ ∧ p ≠ s ∧ nd τ.2.1 p ∧ τ.1 p 7 = 0 ∧ lst a1 L = p) ∧
    (D ≤ c1 - c ∧ L.length + 1 ≤ c1 - c ∧ c ≤ r0 ∧ r0 < c1) ∧
    ∀ N, D ≤ N → sbl f1' τ.1 τ.2.1 sk sn F S N s p (nn σ) (nn τ) c c1 a1 r0 ∧ chLe (sbl f1' τ.1 τ.2.1 sk sn F S N s p (nn σ) (nn τ) c c1) τ.1 f1' L a1 r0 (c1 - 1)
set_option maxHeartbeats 4000000 in
theorem list_loop {KR kk : Int} (hk : (kk = 8 ∧ KR = 19) ∨ (kk = 9 ∧ KR = 20)) (ho : 0 ≤ o ∧ o < 10) (R : RD B n C sk sn F M c0 cs 0 4 9 (fun z => z ≤ 10) iReader_readEx [(2, 297)] (o + 1))
    (hl : ltc σ.1 σ.2.1 sk sn F M cs) (hd : 20 * (11 - o) + 5 ≤ (xdp σ : Int)) (hc : c + (C - j) < 3300) (h0 : c0 ≤ c) :
    ∀ (fu : Nat) (τ : xS) (j1 i p s : Nat), C - j1 < fu → LI B n C sk sn F (F + M) c0 KR kk σ τ o j j1 c f i p s → ∃ v υ, (∀ vw1, X iReader_readList 32 [(2, 297), vw1, (2, (p : Int)), (2, (s : Int)), (0, (i : Int))] [] τ = some ((2, v), υ)) ∧ RO B n C sk sn F (F + M) c0 3 1 (fun z => z ≤ 10) σ υ v o j c f := by
  intro fu
  induction fu with
  | zero => intro τ j1 i p s hf _; exact absurd hf (Nat.not_lt_zero _)
  | succ fu ih =>
    intro τ j1 i p s hf ⟨k, c1, a1, r0, D, f1, f1', x, y, L, ⟨e1, e2, e3, e4, e5, e6⟩, ⟨d1, ⟨d2, d5⟩, d3, d4⟩, ⟨s1, s2, s3, s4, s5, s6⟩, ⟨p1, p2, p3, p4, p5, p6⟩, ⟨q2, q3, q4, q5⟩, q6⟩
    have gσ := nn_ge (σ := σ)
    have e10 := e2.2.1.1
    have hp0 : ¬ ((p : Nat) : Int) = 0 := by omega
    have eo : o + 1 - 1 = o := by omega
    by_cases hj : t_c B n j1 = 44
    · have hlt := tc_lt e2 (by rw [hj]; decide)
      have hin := rst_lt e2 hlt
      have h400 := e2.1.1.2.2.1
      have hi2 : (i : Int) < τ.1 297 1 := by rw [e2.1.1.2.1]; omega
      obtain ⟨τ1, b1, b2, b3⟩ := C_step e2 (by rw [hj]; decide)
      have l1 := hg_ltc (hg_rf b3) (hg_ltc e1 hl)
      obtain ⟨v, τ2, k1, k2⟩ := RD_call R b2 l1 (by rw [hg_xdp (hg_rf b3), hg_xdp e1]; omega) (show c1 + (C - (j1 + 1)) < 3300 by omega) (show c0 ≤ c1 by omega) f1'
      generalize hτ2 : xsetdp τ2 (xdp τ1) = τ2' at k1
      have gp1 : ∀ g K, ((List.length K : Nat) : Int) + 10 * (11 - o) + 1 ≤ 490 → GO B n sk sn F (F + M) c0 (-1, o, j, c, f, g, (3, 0, -1, -1, 0) :: K) (-1, o + 1, j1 + 1, c1, f1', ((c1 - 1 : Nat) : Int), (0, 0, -1, -1, 0) :: (3, 1, (r0 : Int), ((c1 - 1 : Nat) : Int), kk) :: K) := fun g K hK => GO_tr (d4 g K hK) (go_list_c (by omega) d3 hj)
      rcases k1 with ⟨k2', b, j2, c2, f2, rfl, m1, m2, ⟨m3, m4, m5, m6⟩, m7, m8, ⟨m9, m13⟩, m10, m11, m12⟩ | ⟨rfl, k2', q, m1, m2, ⟨m3, m4, m5⟩, m6⟩
      · have hgτ := hg_tr e1 (hg_tr (hg_rf b3) m1)
        have n1 := hg_nn (hg_rf b3)
        have n2 := hg_nn m1
        have n3 := hg_nn e1
        have n4 := hg_nn hgτ
        obtain ⟨l1, l2, l3⟩ := rl_nd (m11 _ (Nat.le_refl _))
        have m2C := m2.2.1.1
        have hold := hg_tr (hg_rf b3) m1
        have p4' := (hg_ndk hold p4)
        have s3' := (hg_ndk hold s3)
        have hmold : ∀ x, x < nn τ → x ≠ 297 → ∀ q, (x = p → q ≠ 7) → (xs (xs τ2' b 5 44) p 7 b).1 x q = τ.1 x q := fun x hx hx2 q hq => by
          by_cases e : x = p
          · rw [e, xs_at, xup_ne (hq e), xs_ne (by omega), p4'.2]
          · rw [xs_ne e, xs_ne (by omega), hold.2.2.2.1 x hx2 hx]
        have hmnew : ∀ x, nn τ1 ≤ x → ∀ q, (x = b → q ≠ 5) → (xs (xs τ2' b 5 44) p 7 b).1 x q = τ2'.1 x q := fun x hx q hq => by
          rw [xs_ne (by omega)]
          by_cases e : x = b
          · rw [e, xs_at, xup_ne (hq e)]
          · rw [xs_ne e]
        have hb7 : (xs (xs τ2' b 5 44) p 7 b).1 b 7 = 0 := by rw [hmnew b l1 7 (fun _ => by decide)]; exact m10
        have hp7 : (xs (xs τ2' b 5 44) p 7 b).1 p 7 = (b : Int) := by rw [xs_at, xup_eq]
        have hnam2 : ∀ x w, nam τ2'.1 τ2'.2.1 x w → nam (xs (xs τ2' b 5 44) p 7 b).1 τ2'.2.1 x w := fun x w hx => by
          obtain ⟨cc, l, u1, ⟨u2, u3, u4, v, u5, u6, u7, u8⟩, u9, u10⟩ := hx
          have hne : ∀ (x y kk nx : Nat) (q : Nat), xnth τ2'.2.1 (x - 392) = some (kk, nx) → kk ≠ 7 → nd τ2'.2.1 y → x ≠ y := fun x y kk nx q h1 h2 h3 e => by
            have : some (kk, nx) = some (7, 8) := h1.symm.trans (by rw [e]; exact h3.2)
            injection this with h; injection h with h _; exact h2 h
          exact ⟨cc, l, u1, ⟨u2, u3, by rw [xs_ne (hne cc p _ _ 0 u3 (by decide) p4'.1), xs_ne (hne cc b _ _ 0 u3 (by decide) l3)]; exact u4, v, by rw [xs_ne (hne cc p _ _ 0 u3 (by decide) p4'.1), xs_ne (hne cc b _ _ 0 u3 (by decide) l3)]; exact u5, u6, u7, fun q hq => by rw [xs_ne (hne v p _ _ 0 u7 (by decide) p4'.1), xs_ne (hne v b _ _ 0 u7 (by decide) l3)]; exact u8 q hq⟩, u9, u10⟩
        have hnam : ∀ x w, nam τ.1 τ.2.1 x w → nam (xs (xs τ2' b 5 44) p 7 b).1 τ2'.2.1 x w := fun x w hx => hnam2 x w (hg_nam hold hx)
        have hf4 : ∀ r, r ≠ c1 - 1 → nxr f2 (c1 - 1) ((c2 - 1 : Nat) : Int) 4 r = f2 4 r := fun r hr => nxr_ne (fun _ => hr)
        have hfq : ∀ q r, q ≠ 4 → nxr f2 (c1 - 1) ((c2 - 1 : Nat) : Int) q r = f2 q r := fun q r hq => nxr_ne (fun z => absurd z hq)
        have wfs' : wfs (nxr f2 (c1 - 1) ((c2 - 1 : Nat) : Int)) sk F (F + M) c c2 := by
          refine wfs_app (mid := c1) (fun i i1 i2 => wfr_cg (f := f1') (fun q _ hq => by rw [hfq q i hq, m7 q i i2]) (fun r r1 r2 => by rw [hf4 r (by omega), m7 4 r (by omega)]) (d2 i i1 i2)) (fun i i1 i2 => wfr_cg (f := f2) (fun q _ hq => hfq q i hq) (fun r r1 r2 => hf4 r (by omega)) (m8 i i1 i2)) (by omega)
        have hwo : ∀ x, c ≤ x → x < c1 → wl (nxr f2 (c1 - 1) ((c2 - 1 : Nat) : Int)) (lwd sn F) x = wl f1' (lwd sn F) x := fun x x1 x2 => wl_cg d2 x1 x2 fun q y y1 y2 => by
          by_cases q4 : q = 4
          · rw [q4, hf4 y (by have := y2 q4; omega), m7 4 y (by omega)]
          · rw [hfq q y q4, m7 q y (by omega)]
        have hwn : wl (nxr f2 (c1 - 1) ((c2 - 1 : Nat) : Int)) (lwd sn F) (c2 - 1) = wl f2 (lwd sn F) (c2 - 1) := wl_cg2 m8 (by omega) (by omega) fun q y y0 y1 y2 => by
          by_cases q4 : q = 4
          · rw [q4, hf4 y (by omega)]
          · exact hfq q y q4
        have hwr := hwo r0 q4 q5
        have hws := chW_snoc (lw := lwd sn F) (b := b) (nh := c1) (f' := nxr f2 (c1 - 1) ((c2 - 1 : Nat) : Int)) (e' := c2 - 1) (fun c' j' (hs : sbl f1' τ.1 τ.2.1 sk sn F (F + M) D s p (nn σ) (nn τ) c c1 c' j') => ⟨hs.1.2, hwo j' hs.1.1 hs.1.2⟩) (fun r hr hre => by rw [hf4 r hre, m7 4 r hr]) d5 nxr_at q5 (q6 D (Nat.le_refl _)).2
        have pk44 := pk_1 (tc_n (B := B) (n := n) (j := j1) (by rw [hj]; decide))
        have CIn : LI B n C sk sn F (F + M) c0 KR kk σ (xs (xs τ2' b 5 44) p 7 b) o j j2 c f (i + 1) b s := by
          refine ⟨k + (0 + k2'), c2, a1, r0, max D (c2 - c1), f2, nxr f2 (c1 - 1) ((c2 - 1 : Nat) : Int), (r0 : Int), ((c1 - 1 : Nat) : Int), L ++ [b], ⟨hg_s (hg_s hgτ (by omega) 5 44) p1 7 b, rst_cg m2 (fun a ha => by rw [xs_ne (by omega), xs_ne (by omega)]), by omega, by omega, by omega, by omega, by omega⟩, ⟨fun q r hr => by rw [nxr_ne (fun _ => by omega), m7 q r (by omega), d1 q r hr], ⟨wfs', by rw [hf4 _ (by omega)]; exact m13⟩, Or.inr ⟨by omega, rfl, c1 - 1, rfl, by omega, by omega, rfl⟩, fun g K hK => GO_tr (gp1 g K hK) (m12 _ _ (by rw [List.length_cons]; omega))⟩, ⟨s1, ?_, s3'.1, ?_, ?_, ?_⟩, ⟨by omega, ?_, by omega, l3, hb7, lst_snoc⟩, ⟨by omega, by rw [List.length_append]; show L.length + 1 + 1 ≤ _; omega, q4, by omega⟩, fun N hN => ?_⟩
          · show s < nn τ2'; omega
          · rw [hmold s s2 (by omega) 0 (fun e => absurd e.symm p3)]; exact s4
          · rw [hmold s s2 (by omega) 6 (fun e => absurd e.symm p3)]; exact s5
          · rw [hmold s s2 (by omega) 7 (fun e => absurd e.symm p3)]; exact s6
          · show b < nn τ2'; exact l2
          · obtain ⟨y1, y2⟩ := q6 N (by omega)
            have st : ∀ c' j', sbl f1' τ.1 τ.2.1 sk sn F (F + M) N s p (nn σ) (nn τ) c c1 c' j' → sbl (nxr f2 (c1 - 1) ((c2 - 1 : Nat) : Int)) (xs (xs τ2' b 5 44) p 7 b).1 τ2'.2.1 sk sn F (F + M) N s b (nn σ) (nn τ2') c c2 c' j' ∧ (τ.1 c' 7 ≠ 0 → (xs (xs τ2' b 5 44) p 7 b).1 c' 7 = τ.1 c' 7) := fun c' j' ⟨⟨hj1, hj2⟩, hs⟩ => by
              have := sbi_step (f' := nxr f2 (c1 - 1) ((c2 - 1 : Nat) : Int)) (t' := τ2'.2.1) (b := b) (hi' := nn τ2') d2 (fun x hx => (hg_ndk hold hx).1) hnam (fun x hx hnx q hq => hmold x hx (by have := hnx.1; omega) q hq) (fun q r hr hq => by rw [hfq q r hq, m7 q r (by omega)]) (fun r hr => by rw [hf4 r (by omega), m7 4 r (by omega)]) (by omega) (by omega) p5 hj1 hj2 hs
              exact ⟨⟨⟨hj1, by omega⟩, this.1⟩, this.2.1⟩
            have stb : sbl (nxr f2 (c1 - 1) ((c2 - 1 : Nat) : Int)) (xs (xs τ2' b 5 44) p 7 b).1 τ2'.2.1 sk sn F (F + M) N s b (nn σ) (nn τ2') c c2 b (c2 - 1) := by
              refine ⟨⟨by omega, by omega⟩, by rw [hfq 0 _ (by decide)]; exact m9, nn τ1, nn τ2', by omega, Nat.le_refl _, by omega, fun _ => rfl, ?_⟩
              exact rl_cg m8 (fun _ hx => hx) (fun _ _ _ => ⟨rfl, rfl⟩) hnam2 N (nn τ1) (nn τ2') b (c2 - 1) (by omega) (by omega) (fun x q x1 x2 x3 x4 => hmnew x x1 q (fun e => (x4 e).1)) (fun j' hj1' hj' => ⟨fun q _ hq => hfq q j' hq, fun _ => hf4 j' (by omega)⟩) (m11 N (by omega))
            refine ⟨(st a1 r0 y1).1, ?_⟩
            exact chLe_snoc (nh := c1) (fun c' j' hs => sbi_nz hs.2) (fun c' j' hs => hs.1.2) st (fun r hr hre => by rw [hf4 r hre, m7 4 r hr]) d5 ⟨nxr_at, stb, hb7⟩ q5 (st a1 r0 y1).2 (by rw [p6]; exact hp7) y2
        obtain ⟨v, υ, r1, r2⟩ := ih _ j2 (i + 1) b s (by omega) CIn
        refine ⟨v, υ, fun vw1 => ?_, r2⟩
        have hp2 : nd (xsetdp τ2 (xdp τ1)).2.1 p := by rw [hτ2]; exact p4'.1
        have hb2 : nd (xsetdp τ2 (xdp τ1)).2.1 b := by rw [hτ2]; exact l3
        have ha := C_append (σ := xsetdp τ2 (xdp τ1)) (w := 44) hp2 hb2 rfl
        rw [qReader_readList_32, if_pos hi2, if_neg hp0, (tc_at e2).trans hj, if_pos (show (44 : Int) = 44 from rfl), b1, Option.bind_some, qReader_readList_58, k2, qReader_readList_65, ha, Option.bind_some, qReader_readList_68, xw_t (by omega), hτ2]
        exact r1 _
      · refine ⟨0, τ2', fun vw1 => ?_, Or.inr ⟨rfl, k + (0 + k2'), q, hg_tr e1 (hg_tr (hg_rf b3) m1), m2, ⟨by omega, by omega, by omega⟩, fun g K hK => BAD_tr (gp1 g K hK) (m6 _ _ (by rw [List.length_cons]; omega))⟩⟩
        rw [qReader_readList_32, if_pos hi2, if_neg hp0, (tc_at e2).trans hj, if_pos (show (44 : Int) = 44 from rfl), b1, Option.bind_some, qReader_readList_58, k2, qReader_readList_65, C_append_0, Option.bind_some, qReader_readList_68, xw_t (by omega), ← hτ2, qReader_readList_32]
        by_cases hi3 : ((i + 1 : Nat) : Int) < (xsetdp τ2 (xdp τ1)).1 297 1
        · rw [if_pos hi3, if_pos rfl, if_pos rfl, qReader_readList_88]
        · rw [if_neg hi3, if_pos rfl, qReader_readList_88]
    · have to32 : ∀ u τ', X iReader_readToParen 0 [(2, 297), (2, (s : Int))] [] τ = some ((2, u), τ') → ∀ vw1, X iReader_readList 32 [(2, 297), vw1, (2, (p : Int)), (2, (s : Int)), (0, (i : Int))] [] τ = some ((2, u), τ') := fun u τ' h vw1 => by
        rw [qReader_readList_32, tc_at e2]
        by_cases hi : (i : Int) < τ.1 297 1
        · rw [if_pos hi, if_neg hp0, if_neg hj, if_neg hp0, h, Option.bind_some, qReader_readList_88]
        · rw [if_neg hi, if_neg hp0, h, Option.bind_some, qReader_readList_88]
      obtain ⟨p1', p2'⟩ := C_pass e2 (w := 41) (by decide)
      have c3300 : c1 < 3300 := by omega
      by_cases h41 : t_c B n j1 = 41
      · obtain ⟨τ1, b1, b2, b3⟩ := p1' h41
        have hlt := tc_lt e2 (by rw [h41]; decide)
        obtain ⟨τ2, b4, b5, b6⟩ := C_closes b2 (by omega) (s : Int)
        rw [eo] at b5
        have hgA := hg_tr (hg_rf b3) (hg_rf b6)
        have n4 := hg_nn hgA
        obtain ⟨w0, w1, w2, w3, w4, w5⟩ := nwr_at (f := f1') (c := c1) (k := kk) (a := (r0 : Int)) (b := 0) (d := 0) (v := 0)
        have s3' := hg_ndk hgA s3
        have pk41 := pk_1 (tc_n (B := B) (n := n) (j := j1) (by rw [h41]; decide))
        have wfs' : wfs (nwr f1' c1 kk (r0 : Int) 0 0 0) sk F (F + M) c (c1 + 1) := by
          refine wfs_snoc (wfs_cg (fun q r _ hr => nwr_lo (by omega)) d2) ?_
          unfold wfr
          rw [w0, w1, w2, w3, w5]
          refine ⟨by omega, fun q => by omega, fun q => by omega, fun _ => by omega, fun q => by omega, fun q => by omega, fun q => ?_⟩
          obtain ⟨y1, y2⟩ := q6 D (Nat.le_refl _)
          rw [Int.toNat_natCast, nwr_lo (by omega)]
          exact chw_cg (fun r r1 r2 => nwr_lo (by omega)) (chLe_chw (nh := c1) (fun c' j' hs => hs.1) d5 (by omega) y2)
        have hW : wl (nwr f1' c1 kk (r0 : Int) 0 0 0) (lwd sn F) (c1 + 1 - 1) = 6 + wl f1' (lwd sn F) r0 + chW f1' (lwd sn F) L r0 := by
          show wl (nwr f1' c1 kk (r0 : Int) 0 0 0) (lwd sn F) c1 = _
          obtain ⟨y1, y2⟩ := q6 D (Nat.le_refl _)
          have hcw := chLe_chw (nh := c1) (lo := c) (cnt := c1) (fun c' j' (hs : sbl f1' τ.1 τ.2.1 sk sn F (F + M) D s p (nn σ) (nn τ) c c1 c' j') => hs.1) d5 (by omega) y2
          rw [wl_l wfs' (show c ≤ c1 by omega) (Nat.lt_succ_self c1) (by rw [w0]; omega), w1, Int.toNat_natCast, wl_cg d2 q4 q5 (fun q r hr _ => nwr_lo (by omega)), nwr_lo (show r0 ≠ c1 by omega), lsw_cg (f := f1') (g := wl f1' (lwd sn F)) (lo := c) (i := c1) (fun x x1 x2 => wl_cg d2 x1 x2 (fun q r hr _ => nwr_lo (by omega))) (fun x x1 x2 => nwr_lo (by omega)) hcw, chW_lsw d5 (by omega) y2]
        refine ⟨_, τ2, to32 _ _ (T1p _ _ _ _ _ b1 b4), Or.inl ⟨k + (0 + 0), s, j1 + 1, c1 + 1, nwr f1' c1 kk (r0 : Int) 0 0 0, rfl, hg_tr e1 hgA, b5, ⟨by omega, by omega, by omega, by omega, by omega⟩, fun q r hr => by rw [nwr_lo (by omega), d1 q r hr], wfs', ⟨?_, w4⟩, by rw [s3'.2]; exact s6, fun N hN => ?_, fun g K hK => ?_⟩⟩
        · show nwr f1' c1 kk (r0 : Int) 0 0 0 0 c1 ≤ 10
          rw [w0]; omega
        · obtain ⟨N, rfl⟩ : ∃ N', N = N' + 1 := ⟨N - 1, by omega⟩
          obtain ⟨y1, y2⟩ := q6 N (by omega)
          have so : ∀ c' j', sbl f1' τ.1 τ.2.1 sk sn F (F + M) N s p (nn σ) (nn τ) c c1 c' j' → (nwr f1' c1 kk (r0 : Int) 0 0 0 0 j' ≤ 10 ∧ ∃ lo' hi', nn σ ≤ lo' ∧ hi' ≤ nn τ2 ∧ ¬ (lo' ≤ s ∧ s < hi') ∧ rl (nwr f1' c1 kk (r0 : Int) 0 0 0) τ2.1 τ2.2.1 sk sn F (F + M) N lo' hi' c' j') ∧ τ2.1 c' 7 = τ.1 c' 7 := fun c' j' ⟨⟨hj1, hj2⟩, hs⟩ => by
            refine ⟨sbi_out d2 (fun x hx => (hg_ndk hgA hx).1) (fun x w hx => hg_nam hgA hx) (fun x hx => (hg_ndk hgA hx).2) (fun q r hr => nwr_lo (by omega)) (by omega) hj1 hj2 hs, ?_⟩
            obtain ⟨_, _, _, _, _, _, _, a5⟩ := hs
            rw [(hg_ndk hgA (rl_nd a5).2.2).2]
          refine ⟨⟨s1, by show s < nn τ2; omega, s3'.1⟩, Or.inr (Or.inr (Or.inr (Or.inr (Or.inr (Or.inl ⟨?_, a1, L, by rw [s3'.2]; exact s5, ?_⟩)))))⟩
          · show (nwr f1' c1 kk (r0 : Int) 0 0 0 0 c1 = 8 ∧ _) ∨ _
            rw [show c1 + 1 - 1 = c1 from rfl, w0, s3'.2, s4]
            rcases hk with ⟨h1, h2⟩ | ⟨h1, h2⟩
            · exact Or.inl ⟨h1, h2⟩
            · exact Or.inr ⟨h1, h2⟩
          · rw [show c1 + 1 - 1 = c1 from rfl, w1, Int.toNat_natCast]
            exact ⟨(so a1 r0 y1).1, chLe_out (nh := c1) so (fun c' j' hs => hs.1.2) (fun r hr => nwr_lo (by omega)) d5 q5 (so a1 r0 y1).2 y2⟩
        · have := (go_list_e (g := ((c1 - 1 : Nat) : Int)) (B := B) (n := n) (sk := sk) (sn := sn) (F := F) (S := F + M) (o := o + 1) (z := kk) (show K.length < 499 by omega) d3 (by omega) c3300 (show c0 ≤ c1 by omega) hj).1 h41
          rw [eo] at this
          exact GO_tr (d4 g K hK) this
      · obtain ⟨τ1, b1, b2, b3⟩ := p2' h41
        exact ⟨0, τ1, to32 _ _ (T0p _ _ _ b1), Or.inr ⟨rfl, k + 0, j1, hg_tr e1 (hg_rf b2), b3, ⟨by omega, by omega, by omega⟩, fun g K hK => BAD_tr (d4 g K hK) ((go_list_e (show K.length < 499 by omega) d3 (by omega) c3300 (show c0 ≤ c1 by omega) hj).2 h41)⟩⟩
end LSR

/-! the class writes a node: its loops -/
section WRL
variable {σ0 σ τ υ : xS} {l : List Nat} {f : Nat → Nat → Int} {wd : Int → List Nat} {sk sn : Nat → Int} {F S lo hi d : Nat}
/-- a chain of nodes -/
def chN (m : Nat → Nat → Int) : List Nat → Nat → Prop
  | [], c => m c 7 = 0
  | c' :: L, c => m c 7 = (c' : Int) ∧ 0 < c' ∧ chN m L c'
theorem chN_len {m : Nat → Nat → Int} : ∀ (L L2 : List Nat) (c : Nat), chN m L c → chN m L2 c → L.length = L2.length
  | [], [], _, _, _ => rfl
  | [], b :: L2, c, h, h2 => by
    have h : m c 7 = 0 := h
    have := h2.1
    have := h2.2.1
    omega
  | a :: L, [], c, h, h2 => by
    have h2 : m c 7 = 0 := h2
    have := h.1
    have := h.2.1
    omega
  | a :: L, b :: L2, c, h, h2 => by
    have e : a = b := by
      have := h.1
      have := h2.1
      omega
    subst e
    exact congrArg (· + 1) (chN_len L L2 a h.2.2 h2.2.2)
theorem chN_suf {m : Nat → Nat → Int} {x : Nat} : ∀ (L : List Nat) (c : Nat), chN m L c → x ∈ L → ∃ L2, L2.length < L.length ∧ chN m L2 x
  | [], _, _, h => absurd h (by intro q; cases q)
  | a :: L, c, h, hx => by
    rcases List.mem_cons.mp hx with e | e
    · subst e
      exact ⟨L, Nat.lt_succ_self _, h.2.2⟩
    · obtain ⟨L2, h1, h2⟩ := chN_suf L a h.2.2 e
      exact ⟨L2, Nat.lt_succ_of_lt h1, h2⟩
theorem chN_ne {m : Nat → Nat → Int} {L : List Nat} {c : Nat} (h : chN m L c) : ∀ z ∈ L, z ≠ c := fun z hz e => by
  subst e
  obtain ⟨L2, h1, h2⟩ := chN_suf L z h hz
  have := chN_len L L2 z h h2
  omega
/-- what is known of a part and its row -/
def pok (σ0 : xS) (f : Nat → Nat → Int) (wd : Int → List Nat) (d y j : Nat) : Prop := nd σ0.2.1 y ∧ kdr (f 0 j) (σ0.1 y 0) ∧ wok σ0 y d (tx f wd j)
theorem chS_N {sub ok : Nat → Nat → Prop} {m : Nat → Nat → Int} (hs : ∀ y j, sub y j → 0 < y) : ∀ {L : List Nat} {c r i : Nat}, chS sub ok m f L c r i → chN m L c
  | [], _, _, _, h => h.1
  | c' :: L, c, r, i, h => by
    obtain ⟨h1, r', g1, g2, g3, g4, g5⟩ := h
    exact ⟨h1, hs _ _ g4, chS_N hs g5⟩
theorem chL_N {sub : Nat → Nat → Prop} {m : Nat → Nat → Int} (hs : ∀ y j, sub y j → 0 < y) : ∀ {L : List Nat} {c r : Nat}, chL sub m f L c r → chN m L c
  | [], _, _, h => h.1
  | c' :: L, c, r, h => by
    obtain ⟨h1, h2, h3, h4⟩ := h
    exact ⟨h1, hs _ _ h3, chL_N hs h4⟩
/-- rows of a chain of kind K -/
def okr (f : Nat → Nat → Int) (K wk : Int) (r' : Nat) : Prop := (∀ p s, aro (f 0 r') p s = aro K p s) ∧ aro K (f 0 r') false = 0 ∧ whl (f 0 r') wk ∧ ((2 ≤ f 0 r' ∧ f 0 r' < 7) ∨ 11 ≤ f 0 r' ∧ f 0 r' ≠ 14)
abbrev pxx (f : Nat → Nat → Int) (wd : Int → List Nat) (K : Int) (r : Nat) (l : List Nat) : List Nat := brk (aro K (f 0 r) false) (tx f wd r) l
theorem brk_0 {g : List Nat → List Nat} : brk 0 g l = g l := by unfold brk; rw [if_neg (by decide), if_neg (by decide)]
theorem p_step {K wk : Int} {r r' : Nat} (w : wfs f sk F S lo hi) (h1 : lo ≤ r') (h2 : r' < hi) (ho : okr f K wk r') (e : f 1 r' = (r : Int)) : pxx f wd K r' l = brk (aro (f 0 r') (f 0 (f 2 r').toNat) true) (tx f wd (f 2 r').toNat) (opx (f 0 r') (pxx f wd K r l)) := by
  obtain ⟨o1, o2, o3, o4⟩ := ho
  show brk (aro K (f 0 r') false) (tx f wd r') l = _
  rw [o2, brk_0, tx_b w h1 h2 o4, e, Int.toNat_natCast, o1 (f 0 r) false]
theorem chS_ge {sub ok : Nat → Nat → Prop} {m : Nat → Nat → Int} {K wk : Int} (w : wfs f sk F S lo hi) (hok : ∀ r c, ok r c → okr f K wk r) : ∀ {L : List Nat} {c r i : Nat}, chS sub ok m f L c r i → lo ≤ i → i < hi → (pxx f wd K r l).length ≤ (pxx f wd K i l).length
  | [], c, r, i, h, _, _ => by rw [h.2]; exact Nat.le_refl _
  | c' :: L, c, r, i, h, h1, h2 => by
    obtain ⟨_, r', g1, g2, g3, g4, g5⟩ := h
    obtain ⟨k1, k2⟩ := chS_in w (fun r c q => by have := (hok r c q).2.2.2; omega) g5 h1 h2
    refine Nat.le_trans ?_ (chS_ge w hok g5 h1 h2)
    rw [p_step w k1 (by omega) (hok _ _ g3) g1]
    exact Nat.le_trans (opx_ge _ _) (brk_ge (tx_ge _) _)
theorem C_jl {sub ok : Nat → Nat → Prop} {a c : Nat} {K wk : Int} (w : wfs f sk F S lo hi) (hsub : ∀ y j, sub y j → lo ≤ j → j < hi → pok σ0 f wd d y j) (hok : ∀ r y, ok r y → okr f K wk r) (hj : ∀ r y, ok r y → ∃ j : Nat, σ0.1 y 5 = (j : Int) ∧ j < 128 ∧ ∀ T, opx (f 0 r) T = T ++ [j]) (ha : nd σ0.2.1 a) (ha0 : σ0.1 a 0 = wk) (ha6 : σ0.1 a 6 = (c : Int)) (hc : 392 ≤ c) {l0 : List Nat} : ∀ (L : List Nat) (y r i : Nat) (σ : xS), chS sub ok σ0.1 f L y r i → nd σ0.2.1 y → (∀ z ∈ L, z ≠ c) → lo ≤ i → i < hi → bs σ0 σ (pxx f wd K r l0) → d + 2 ≤ xdp σ → (pxx f wd K i l0).length ≤ 1389 → ∃ τ, X iNode_writeJoined 48 [(2, (a : Int)), (2, ((nn σ0 : Nat) : Int)), (2, (y : Int))] [] σ = some ((9, 0), τ) ∧ bs σ0 τ (pxx f wd K i l0) ∧ xdp τ = xdp σ
  | [], y, r, i, σ, hS, hy, _, _, _, h, _, _ => by
    obtain ⟨h7, e⟩ := hS
    subst e
    exact ⟨σ, by rw [qNode_writeJoined_48, bs_f h hy 7, xob_some, h7, qNode_writeJoined_5, if_pos rfl], h, rfl⟩
  | y' :: L, y, r, i, σ, hS, hy, hne, h1, h2, h, hd, hl => by
    obtain ⟨h7, r', g1, g2, g3, g4, g5⟩ := hS
    have ho := hok _ _ g3
    obtain ⟨k1, k2⟩ := chS_in w (fun r c q => by have := (hok r c q).2.2.2; omega) g5 h1 h2
    have w2 := (w r' k1 (by omega)).2.2.2.2.1 (by have := ho.2.2.2; omega)
    obtain ⟨p1, p2, p3⟩ := hsub _ _ g4 w2.2.1 (by omega)
    have es := p_step (wd := wd) (l := l0) w k1 (by omega) ho g1
    have gl := chS_ge (wd := wd) (l := l0) w hok g5 h1 h2
    have hy0 : ¬ (y' : Int) = 0 := by have := p1.1; omega
    have hyc : ¬ (y' : Int) = (c : Int) := fun q => hne y' (List.mem_cons_self ..) (by omega)
    have xx : (xcm (y' : Int) && xcm (c : Int)) = true := by rw [xcm_new p1.1, xcm_new hc]; rfl
    obtain ⟨j, j1, j2, j3⟩ := hj _ _ g3
    rw [j3] at es
    have el : (pxx f wd K r l0 ++ [j]).length = (pxx f wd K r l0).length + 1 := List.length_append
    have bg := brk_ge (a := aro (f 0 r') (f 0 (f 2 r').toNat) true) (tx_ge (f := f) (wd := wd) (f 2 r').toNat) (pxx f wd K r l0 ++ [j])
    rw [← es] at bg
    obtain ⟨τ1, a1, a2, a3⟩ := C_chr (c := j) h j2 (by omega)
    obtain ⟨τ2, b1, b2, b3⟩ := C_wPart (σ := xsetdp τ1 (xdp τ1 - 1)) (k := f 0 r') (wk := wk) (a2 := 0) (s := true) p1 p2 ho.2.2.1 (Or.inl ⟨rfl, rfl⟩) p3 (bs_dp a2 _) (by show d + 1 ≤ xdp τ1 - 1; omega) (by rw [← es]; omega)
    rw [← es] at b2
    obtain ⟨τ3, c1, c2, c3⟩ := C_jl w hsub hok hj ha ha0 ha6 hc L y' r' i (xsetdp τ2 (xdp τ1)) g5 p1 (fun z hz => hne z (List.mem_cons_of_mem _ hz)) h1 h2 (bs_dp b2 _) (by show d + 2 ≤ xdp τ1; omega) hl
    refine ⟨τ3, ?_, c2, c3.trans a3⟩
    rw [qNode_writeJoined_48, bs_f h hy 7, xob_some, h7, qNode_writeJoined_5, if_neg hy0, bs_f h ha 6, xob_some, ha6, xx, cnd_t, if_neg hyc, bs_f h p1 5, xob_some, bs_b h, cnd_t, j1, xna3_k j2, a1, Option.bind_some, qNode_writeJoined_25, bs_f a2 ha 0, xob_some, ha0, bs_f a2 ha 6, xob_some, ha6, xx, cnd_t, if_neg hyc, beq_ff (show xdp τ1 ≠ 0 by omega), cnd_f, b1, Option.bind_some]
    exact c1
theorem C_cl {sub ok : Nat → Nat → Prop} {a c : Nat} {K wk : Int} (w : wfs f sk F S lo hi) (hsub : ∀ y j, sub y j → lo ≤ j → j < hi → pok σ0 f wd d y j) (hok : ∀ r y, ok r y → okr f K wk r) {q : Nat} (hq : q < 32) (hwk : ∀ σ : xS, xfld xE1 σ wk 50 1 = some ((44 + 2 * q : Nat) : Int)) (hj : ∀ r y, ok r y → ∀ T, opx (f 0 r) T = wW T (kwl q)) (ha : nd σ0.2.1 a) (ha0 : σ0.1 a 0 = wk) (ha6 : σ0.1 a 6 = (c : Int)) (hc : 392 ≤ c) {l0 : List Nat} : ∀ (L : List Nat) (y r i : Nat) (σ : xS), chS sub ok σ0.1 f L y r i → nd σ0.2.1 y → (∀ z ∈ L, z ≠ c) → lo ≤ i → i < hi → bs σ0 σ (pxx f wd K r l0) → d + 2 ≤ xdp σ → (pxx f wd K i l0).length ≤ 1389 → ∃ τ, X iNode_writeConds 50 [(2, (a : Int)), (2, ((nn σ0 : Nat) : Int)), (2, (y : Int))] [] σ = some ((9, 0), τ) ∧ bs σ0 τ (pxx f wd K i l0) ∧ xdp τ = xdp σ
  | [], y, r, i, σ, hS, hy, _, _, _, h, _, _ => by
    obtain ⟨h7, e⟩ := hS
    subst e
    exact ⟨σ, by rw [qNode_writeConds_50, bs_f h hy 7, xob_some, h7, qNode_writeConds_5, if_pos rfl], h, rfl⟩
  | y' :: L, y, r, i, σ, hS, hy, hne, h1, h2, h, hd, hl => by
    obtain ⟨h7, r', g1, g2, g3, g4, g5⟩ := hS
    have ho := hok _ _ g3
    obtain ⟨k1, k2⟩ := chS_in w (fun r c q => by have := (hok r c q).2.2.2; omega) g5 h1 h2
    have w2 := (w r' k1 (by omega)).2.2.2.2.1 (by have := ho.2.2.2; omega)
    obtain ⟨p1, p2, p3⟩ := hsub _ _ g4 w2.2.1 (by omega)
    have es := p_step (wd := wd) (l := l0) w k1 (by omega) ho g1
    have gl := chS_ge (wd := wd) (l := l0) w hok g5 h1 h2
    have hy0 : ¬ (y' : Int) = 0 := by have := p1.1; omega
    have hyc : ¬ (y' : Int) = (c : Int) := fun q => hne y' (List.mem_cons_self ..) (by omega)
    have xx : (xcm (y' : Int) && xcm (c : Int)) = true := by rw [xcm_new p1.1, xcm_new hc]; rfl
    rw [hj _ _ g3] at es
    have bg := brk_ge (a := aro (f 0 r') (f 0 (f 2 r').toNat) true) (tx_ge (f := f) (wd := wd) (f 2 r').toNat) (wW (pxx f wd K r l0) (kwl q))
    rw [← es] at bg
    have wg := wW_ge (pxx f wd K r l0) (kwl q)
    obtain ⟨τ1, a1, a2, a3⟩ := C_wW (w := kwl q) h (kwx q hq) (by omega)
    obtain ⟨τ2, b1, b2, b3⟩ := C_wPart (σ := xsetdp τ1 (xdp τ1 - 1)) (k := f 0 r') (wk := wk) (a2 := 0) (s := true) p1 p2 ho.2.2.1 (Or.inl ⟨rfl, rfl⟩) p3 (bs_dp a2 _) (by show d + 1 ≤ xdp τ1 - 1; omega) (by rw [← es]; omega)
    rw [← es] at b2
    obtain ⟨τ3, c1, c2, c3⟩ := C_cl w hsub hok hq hwk hj ha ha0 ha6 hc L y' r' i (xsetdp τ2 (xdp τ1)) g5 p1 (fun z hz => hne z (List.mem_cons_of_mem _ hz)) h1 h2 (bs_dp b2 _) (by show d + 2 ≤ xdp τ1; omega) hl
    refine ⟨τ3, ?_, c2, c3.trans a3⟩
    rw [qNode_writeConds_50, bs_f h hy 7, xob_some, h7, qNode_writeConds_5, if_neg hy0, bs_f h ha 6, xob_some, ha6, xx, cnd_t, if_neg hyc, bs_f h ha 0, xob_some, ha0, hwk, xob_some, a1, Option.bind_some, qNode_writeConds_28, bs_f a2 ha 0, xob_some, ha0, bs_f a2 ha 6, xob_some, ha6, xx, cnd_t, if_neg hyc, beq_ff (show xdp τ1 ≠ 0 by omega), cnd_f, b1, Option.bind_some]
    exact c1
/-- a list's parts behind the first -/
theorem C_ll {sub : Nat → Nat → Prop} {a c i : Nat} (w : wfs f sk F S lo hi) (hi' : i < hi) (hsub : ∀ y j, sub y j → lo ≤ j → j < hi → pok σ0 f wd d y j) (ha : nd σ0.2.1 a) (ha6 : σ0.1 a 6 = (c : Int)) (hc : 392 ≤ c) : ∀ (L : List Nat) (y r fu : Nat) (σ : xS) (l : List Nat), chL sub σ0.1 f L y r → nd σ0.2.1 y → (∀ z ∈ L, z ≠ c) → chw f lo i fu (f 4 r) → bs σ0 σ l → d + 1 ≤ xdp σ → (lsx f (tx f wd) fu (f 4 r) l ++ [41]).length ≤ 1389 → ∃ τ, X iNode_writeList 47 [(2, (a : Int)), (2, ((nn σ0 : Nat) : Int)), (2, (y : Int))] [] σ = some ((9, 0), τ) ∧ bs σ0 τ (lsx f (tx f wd) fu (f 4 r) l ++ [41]) ∧ xdp τ = xdp σ
  | [], y, r, fu, σ, l, hS, hy, _, _, h, _, hl => by
    obtain ⟨h7, e⟩ := hS
    have ex : lsx f (tx f wd) fu (f 4 r) l = l := by
      rw [e]
      cases fu with
      | zero => rfl
      | succ fu => exact if_pos (by decide)
    rw [ex] at hl ⊢
    have el : (l ++ [41]).length = l.length + 1 := List.length_append
    obtain ⟨τ, a1, a2, a3⟩ := C_chr (c := 41) h (by decide) (by omega)
    have a1 : X iJB_append1 0 [(2, ((nn σ0 : Nat) : Int)), (0, 41)] [] σ = some ((2, ((nn σ0 : Nat) : Int)), τ) := a1
    exact ⟨τ, by rw [qNode_writeList_47, bs_f h hy 7, xob_some, h7, qNode_writeList_23, if_pos rfl, bs_b h, cnd_t, a1, Option.bind_some, qNode_writeList_61], a2, a3⟩
  | y' :: L, y, r, fu, σ, l, hS, hy, hne, hw, h, hd, hl => by
    obtain ⟨h7, h4, g4, g5⟩ := hS
    cases fu with
    | zero =>
      have hw : f 4 r < 0 := hw
      omega
    | succ fu =>
      rcases hw with hw | ⟨⟨w1, w2⟩, w3⟩
      · omega
      have ex : lsx f (tx f wd) (fu + 1) (f 4 r) l = lsx f (tx f wd) fu (f 4 (f 4 r).toNat) (tx f wd (f 4 r).toNat (l ++ [44])) := if_neg (by omega)
      rw [ex] at hl ⊢
      obtain ⟨p1, p2, p3⟩ := hsub _ _ g4 w1 (by omega)
      have el : (l ++ [44]).length = l.length + 1 := List.length_append
      have t1 := tx_ge (f := f) (wd := wd) (f 4 r).toNat (l ++ [44])
      have t2 := lsx_ge (f := f) (tx_ge (f := f) (wd := wd)) fu (f 4 (f 4 r).toNat) (tx f wd (f 4 r).toNat (l ++ [44]))
      have t3 := ap_ge (lsx f (tx f wd) fu (f 4 (f 4 r).toNat) (tx f wd (f 4 r).toNat (l ++ [44]))) [41]
      have hy0 : ¬ (y' : Int) = 0 := by have := p1.1; omega
      have hyc : ¬ (y' : Int) = (c : Int) := fun q => hne y' (List.mem_cons_self ..) (by omega)
      have xx : (xcm (y' : Int) && xcm (c : Int)) = true := by rw [xcm_new p1.1, xcm_new hc]; rfl
      obtain ⟨τ1, a1, a2, a3⟩ := C_chr (c := 44) h (by decide) (by omega)
      have a1 : X iJB_append1 0 [(2, ((nn σ0 : Nat) : Int)), (0, 44)] [] σ = some ((2, ((nn σ0 : Nat) : Int)), τ1) := a1
      obtain ⟨b0, τ2, b1, b2⟩ := wok_c p3 a2 (by omega) (by omega)
      obtain ⟨τ3, c1, c2, c3⟩ := C_ll w hi' hsub ha ha6 hc L y' (f 4 r).toNat fu (xsetdp τ2 (xdp τ1)) _ g5 p1 (fun z hz => hne z (List.mem_cons_of_mem _ hz)) w3 b2 (by show d + 1 ≤ xdp τ1; omega) hl
      refine ⟨τ3, ?_, c2, c3.trans a3⟩
      rw [qNode_writeList_47, bs_f h hy 7, xob_some, h7, qNode_writeList_23, if_neg hy0, bs_f h ha 6, xob_some, ha6, xx, cnd_t, if_neg hyc, bs_b h, cnd_t, a1, Option.bind_some, qNode_writeList_41, b0, cnd_f, b1, Option.bind_some]
      exact c1
end WRL

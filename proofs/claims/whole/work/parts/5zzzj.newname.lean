/-! a new name is read -/
section NNM
variable {σ0 σ τ υ : xS} {B : Nat → Int} {n C : Nat} {o : Int} {j k q : Nat} {sk sn : Nat → Int} {F M : Nat} {cs : Nat → Nat}
theorem C_newName_no (hr : rst σ.1 B n C o j) (hl : ltc σ.1 σ.2.1 sk sn F M cs) (a : Int) (hn : ¬ nmo B n sk sn F M j) : ∃ τ, X iReader_readNewName 0 [(2, 297), (2, a), (9, 0), (9, 0), (9, 0)] [] σ = some ((9, 0), τ) ∧ rf σ τ ∧ rft τ.1 B n j := by
  obtain ⟨f1, f2, f3, f4⟩ := rst_f hr
  have ek : σ.1 297 9 = t_k B n j := hr.2.1.2.2.2
  refine ⟨_, ?_, f3, f4⟩
  rw [qReader_readNewName_0, tc_at hr]
  by_cases c1 : t_c B n j = 2
  · by_cases c2 : t_k B n j = 0
    · have hC := hr.1.2.1.1
      have hj := hr.2.1.1
      obtain ⟨z1, z2, _⟩ := hr.1.2.2.2 j hj
      obtain ⟨g1, g2, g3, g4⟩ := t_s_le (B := B) (n := n) j
      have h400 := hr.1.1.2.2.1
      have ew : xw ((σ.1 300 (σ.1 297 7).toNat) - (σ.1 299 (σ.1 297 7).toNat)) = (t_e B n j : Int) - (t_s B n j : Int) := by
        rw [hr.2.1.2.1, Int.toNat_natCast, z1, z2, xw_id (by omega) (by omega)]
      rw [if_pos c1, ek, if_pos c2, if_pos f2, if_pos f2, ew]
      by_cases c3 : 8 < (t_e B n j : Int) - (t_s B n j : Int)
      · rw [if_pos c3, if_pos hr.2.2.2, if_pos f2, f1]
      · have c4 : lfi sk sn F (t_w B n j) M 0 ≠ none := fun z => hn ⟨c1, c2, by omega, z⟩
        have c5 : ¬ lno cs (lfi sk sn F (t_w B n j) M 0) = 0 := by
          cases hf : lfi sk sn F (t_w B n j) M 0 with
          | none => exact absurd hf c4
          | some i =>
            have := (hl.2 i (by have := lfi_some hf; omega)).1.1
            show ¬ ((cs i : Nat) : Int) = 0
            omega
        rw [if_neg c3, C_letHere hr hl c1, Option.bind_some, qReader_readNewName_53, if_neg c5, if_pos hr.2.2.2, if_pos f2, f1]
    · rw [if_pos c1, ek, if_neg c2, if_pos hr.2.2.2, if_pos f2, f1]
  · rw [if_neg c1, if_pos hr.2.2.2, if_pos f2, f1]
set_option maxHeartbeats 1000000 in
theorem C_newName (hg : gz σ0 σ k q) {a : Nat} (ha : nd σ.2.1 a) (ha0 : nn σ0 ≤ a) (hr : rst σ.1 B n C o j) (hl : ltc σ.1 σ.2.1 sk sn F M cs) (hn : nmo B n sk sn F M j) : ∃ τ, X iReader_readNewName 0 [(2, 297), (2, (a : Int)), (9, 0), (9, 0), (9, 0)] [] σ = some ((9, 0), τ) ∧ rst τ.1 B n C o (j + 1) ∧ gz σ0 τ (k + 4) (q + 40) ∧ nd τ.2.1 a ∧ nam τ.1 τ.2.1 (τ.1 a 4) (t_w B n j) ∧ τ.1 a 1 = σ.1 297 13 ∧ (∀ i, i ≠ 1 → i ≠ 4 → τ.1 a i = σ.1 a i) := by
  obtain ⟨c1, c2, c3, c4⟩ := hn
  have ek : σ.1 297 9 = t_k B n j := hr.2.1.2.2.2
  obtain ⟨f1, f2, f3, f4⟩ := rst_f hr
  have hC := hr.1.2.1.1
  have hj := hr.2.1.1
  obtain ⟨z1, z2, _⟩ := hr.1.2.2.2 j hj
  obtain ⟨g1, g2, g3, g4⟩ := t_s_le (B := B) (n := n) j
  have h400 := hr.1.1.2.2.1
  obtain ⟨u1, u2, u3⟩ := t_let2 c1
  have gn := nn_ge (σ := σ)
  have haN := ty_lt ha.1 ha.2
  have ha392 := ha.1
  have ew : xw ((σ.1 300 (σ.1 297 7).toNat) - (σ.1 299 (σ.1 297 7).toNat)) = (t_e B n j : Int) - (t_s B n j : Int) := by
    rw [hr.2.1.2.1, Int.toNat_natCast, z1, z2, xw_id (by omega) (by omega)]
  have b1 : xnth (xal xE1 σ 1 4).2.1 (nn σ - 392) = some (1, 4) := xal_ty
  have b2 : xnth (xal xE1 (xal xE1 σ 1 4) 102 16).2.1 (nn σ - 392) = some (1, 4) := xal_to b1
  have v0 := xal_ty (σ := xal xE1 σ 1 4) (c := 102) (n := 16)
  have nx : nn (xal xE1 σ 1 4) = nn σ + 1 := xal_nn
  rw [nx] at v0
  have i1 : xisO xE1 (xal xE1 σ 1 4) ((nn σ : Nat) : Int) 1 = true := xisO_new gn b1
  have i2 : xisO xE1 (xal xE1 (xal xE1 σ 1 4) 102 16) ((nn σ : Nat) : Int) 1 = true := xisO_new gn b2
  have i3 : xisO xE1 (xs (xal xE1 (xal xE1 σ 1 4) 102 16) (nn σ) 0 ((nn σ + 1 : Nat) : Int)) ((nn σ : Nat) : Int) 1 = true := xisO_new gn b2
  have e0 : ∀ x, x ≠ nn σ → x ≠ nn σ + 1 → (xs (xs (xal xE1 (xal xE1 σ 1 4) 102 16) (nn σ) 0 ((nn σ + 1 : Nat) : Int)) (nn σ) 1 0).1 x = σ.1 x := fun x hx hy => by rw [xs_ne hx, xs_ne hx, xal_ne (by rw [nx]; exact hy), xal_ne hx]
  have zb : (xal xE1 (xal xE1 σ 1 4) 102 16).1 (nn σ) 3 = 0 := by
    rw [xal_ne (by rw [nx]; omega)]
    show cond (Nat.beq (nn σ) (xnew xE1 σ)) 0 (σ.1 (nn σ) 3) = 0
    rw [nnx, beq_tt]; rfl
  have hs0 : sbd (xs (xs (xal xE1 (xal xE1 σ 1 4) 102 16) (nn σ) 0 ((nn σ + 1 : Nat) : Int)) (nn σ) 1 0).1 (xs (xs (xal xE1 (xal xE1 σ 1 4) 102 16) (nn σ) 0 ((nn σ + 1 : Nat) : Int)) (nn σ) 1 0).2.1 (nn σ) (nn σ + 1) 16 (lts B (t_s B n j) 0) := by
    refine ⟨⟨gn, b2⟩, ⟨?_, ?_, ?_⟩, ⟨by omega, v0⟩, ⟨by show 0 ≤ 16; decide, by decide⟩, fun i hi => absurd hi (Nat.not_lt_zero _)⟩
    · rw [xs_at, xup_ne (by decide), xs_at, xup_eq]
    · rw [xs_at, xup_eq]
    · rw [xs_at, xup_ne (by decide), xs_at, xup_ne (by decide), zb]; rfl
  obtain ⟨υ1, k1, k2, k3, k4, k5⟩ := C_nn_81 (σ := σ) (a := a) hr (b := nn σ) (v := nn σ + 1) (by omega) (by omega) u3 c3 (xkl (0, 1)) (t_e B n j - t_s B n j) 0 _ (by omega) hs0 (fun x hx => e0 x (by omega) (by omega))
  rw [Nat.add_zero] at k1
  obtain ⟨υ2, s1, s2, s3, s4, s5, s6⟩ := sb_str k2 (by rw [lts_len]; omega)
  have L1 : υ1.2.1 = σ.2.1 ++ [(1, 4), (102, 16)] := by
    rw [k4]
    show (σ.2.1 ++ [(1, 4)]) ++ [(102, 16)] = _
    rw [List.append_assoc]; rfl
  have L2 : υ2.2.1 = σ.2.1 ++ [(1, 4), (102, 16), (0, 4), (102, (lts B (t_s B n j) (t_e B n j - t_s B n j)).length)] := by
    rw [s3, L1, List.append_assoc]; rfl
  have nυ1 : nn υ1 = nn σ + 2 := by
    rw [nn_eq, L1, List.length_append, nn_eq]; rfl
  have q2 : υ2.2.2.1 = σ.2.2.1 + 4 + 16 + 4 + (lts B (t_s B n j) (t_e B n j - t_s B n j)).length := by
    rw [s4, k4]; rfl
  have q3 : υ2.2.2.2 = σ.2.2.2 := by
    rw [s5, k4]; rfl
  have em : ∀ x, x < nn σ → υ2.1 x = σ.1 x := fun x hx => by rw [s6 x (by omega), k3 x hx]
  have gA : gz σ υ2 4 40 := ⟨⟨_, L2, Nat.le_refl _⟩, by rw [q2, lts_len]; omega, q3, fun x _ hx => em x hx, fun i _ => by rw [em 297 (by omega)]⟩
  have ha2 : nd υ2.2.1 a := (gz_ndk gA ha).1
  have ha3 : nd (xs υ2 a 4 ((nn υ1 : Nat) : Int)).2.1 a := ha2
  have e13 : (xs υ2 a 4 ((nn υ1 : Nat) : Int)).1 297 13 = σ.1 297 13 := by rw [xs_ne (by omega), em 297 (by omega)]
  have hrA : rst (xs (xs υ2 a 4 ((nn υ1 : Nat) : Int)) a 1 (σ.1 297 13)).1 B n C o j := rst_cg hr fun x hx => by rw [xs_ne (by omega), xs_ne (by omega), em x (by omega)]
  obtain ⟨τ, t1, t2, t3⟩ := C_step hrA (by rw [c1]; decide)
  have gF : gz σ0 τ (k + 4) (q + 40) := gz_w (gz_tr (gz_s (gz_s (gz_tr hg gA) ha0 4 _) ha0 1 _) (gz_rf t3)) (by omega) (by omega)
  have ea : τ.1 a = (xs (xs υ2 a 4 ((nn υ1 : Nat) : Int)) a 1 (σ.1 297 13)).1 a := t3.2.1 a (by omega)
  have e79 : (xs (xs (xal xE1 (xal xE1 σ 1 4) 102 16) (nn σ) 0 ((nn σ + 1 : Nat) : Int)) (nn σ) 1 0).1 297 = σ.1 297 := e0 297 (by omega) (by omega)
  have e29 : (xs (xs (xal xE1 (xal xE1 σ 1 4) 102 16) (nn σ) 0 ((nn σ + 1 : Nat) : Int)) (nn σ) 1 0).1 299 = σ.1 299 := e0 299 (by omega) (by omega)
  refine ⟨τ, ?_, t2, gF, by rw [t3.1]; exact ha2, ?_, ?_, fun i i1 i4 => ?_⟩
  · rw [qReader_readNewName_0, tc_at hr, if_pos c1, ek, if_pos c2, if_pos f2, if_pos f2, ew, if_neg (by omega), C_letHere hr hl c1, Option.bind_some, qReader_readNewName_53, c4, if_pos (show lno cs none = 0 from rfl), nnx, i1, cnd_t, cnd_t, Int.toNat_natCast, beq_ff (show nn σ ≠ 0 by omega), cnd_f, i2, cnd_t, nnx, nx, xwr_new gn, xob_some, i3, cnd_t, xwr_new gn, xob_some, e79, e29, if_pos f2, f1, k1, s1, Option.bind_some, qReader_readNewName_118, nd_o ha2, cnd_t, nd_wr ha2, xob_some, nd_o ha3, cnd_t, e13, nd_wr ha3, xob_some, t1, Option.bind_some, qReader_readNewName_133]
  · rw [ea, xs_at, xup_ne (by decide), xs_at, xup_eq]
    refine ⟨nn υ1, lts B (t_s B n j) (t_e B n j - t_s B n j), rfl, ?_, ⟨⟨by rw [lts_len]; omega, by rw [lts_len]; omega⟩, lts_mem _ u3⟩, lts_wcd _ c3 u3⟩
    obtain ⟨x1, x2, x3, v, x4, x5, x6, x7⟩ := s2
    have hne : ∀ (y kk nx : Nat), xnth υ2.2.1 (y - 392) = some (kk, nx) → kk ≠ 7 → y ≠ a := fun y kk nx h1 h2 e => by
      have : some (kk, nx) = some (7, 8) := h1.symm.trans (by rw [e]; exact ha2.2)
      injection this with h; injection h with h _; exact h2 h
    have ec : τ.1 (nn υ1) = υ2.1 (nn υ1) := by rw [t3.2.1 _ (by omega), xs_ne (hne _ _ _ x2 (by decide)), xs_ne (hne _ _ _ x2 (by decide))]
    have ev : τ.1 v = υ2.1 v := by rw [t3.2.1 _ (by omega), xs_ne (hne _ _ _ x6 (by decide)), xs_ne (hne _ _ _ x6 (by decide))]
    exact ⟨x1, by rw [t3.1]; exact x2, by rw [ec]; exact x3, v, by rw [ec]; exact x4, x5, by rw [t3.1]; exact x6, fun i hi => by rw [ev]; exact x7 i hi⟩
  · rw [ea, xs_at, xup_eq]
  · rw [ea, xs_at, xup_ne i1, xs_at, xup_ne i4, em a haN]
end NNM

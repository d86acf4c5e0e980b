/-! the class reckons a node, as deep as it goes -/
section CEVN
variable {σ0 : xS} {f : Nat → Nat → Int} {sk sn nm : Nat → Int} {F S lo hi T N nn : Nat}
theorem int_of_lt {x : Int} (h : 0 ≤ x) : x = ((x.toNat : Nat) : Int) := by omega
set_option maxHeartbeats 8000000 in
theorem C_ev_word (hC : evC σ0 f sk nm F S lo hi T N nn) {σ : xS} (h1 : σ.1 = σ0.1) (h2 : σ.2.1 = σ0.2.1) {a A : Nat} (hn : nd σ0.2.1 a) (hA : A < 10) (hk : σ0.1 a 0 = ((24 + A : Nat) : Int)) : X iTerms_exOf 0 [(2, (T : Int)), (2, (a : Int))] [] σ = some ((1, σ0.1 254 A), σ) := by
  obtain ⟨q1, q2, q3, q4, _⟩ := kd_w (σ := σ) hA
  rw [qTerms_exOf_0, if_neg (nz hn.1), nd_g h1 h2 hn, xob_some, hk, q1, cnd_t, q2, xob_some, if_pos (show xin ((22 + A : Nat) : Int) 38 from ⟨by omega, by omega⟩), Int.toNat_natCast, q4]
  rw [if_neg (by decide), if_neg (by decide), if_neg (by decide), if_neg (by decide), if_neg (by decide), if_neg (by decide), if_neg (by decide), if_neg (by decide), if_neg (by decide), if_neg (by decide), if_neg (by decide), if_neg (by decide)]
  rw [qTerms_exOf_136, nd_g h1 h2 hn, xob_some, hk, q3, xob_some, tob_f hC.1 h1 h2, xob_some, hC.1.2.1, show xlen xE1 σ 254 = some 10 from rfl, xob_some, if_neg (by omega), show xw (((10 : Nat) : Int) - 1) = 9 from rfl, if_neg (by omega), qTerms_exOf_154, if_neg (by decide), tob_f hC.1 h1 h2, xob_some, nd_g h1 h2 hn, xob_some, hk, q3, xob_some, hC.1.2.1, show xarr xE1 σ 254 1 = some 10 from rfl, xob_some, if_pos (show xin (A : Int) 10 from ⟨by omega, by omega⟩), Int.toNat_natCast, show xag xE1 σ 254 A = σ.1 254 A from rfl, h1]
set_option maxHeartbeats 8000000 in
theorem C_ev_name (hC : evC σ0 f sk nm F S lo hi T N nn) {σ : xS} (h1 : σ.1 = σ0.1) (h2 : σ.2.1 = σ0.2.1) {a j : Nat} (hn : nd σ0.2.1 a) (hk : σ0.1 a 0 = 35) (hj : σ0.1 a 1 = (lkc sk F j : Int)) (hs : F + j < S) (h0 : sk (F + j) = 0) : X iTerms_exOf 0 [(2, (T : Int)), (2, (a : Int))] [] σ = some ((1, nm j), σ) := by
  obtain ⟨l1, l2⟩ := hC.2.2.2 j hs h0
  have hN := hC.1.2.2.2.1
  have hnn := hC.1.2.2.2.2
  have eN : xnth σ.2.1 (N - 392) = some (100 + 1, nn) := by rw [h2]; exact hN.2
  rw [qTerms_exOf_0, if_neg (nz hn.1), nd_g h1 h2 hn, xob_some, hk, show xisO xE1 σ 35 50 = true from rfl, cnd_t, show xfld xE1 σ 35 50 0 = some 33 from rfl, xob_some, if_pos (show xin (33 : Int) 38 from ⟨by decide, by decide⟩), show xag xE1 σ 41 (33 : Int).toNat = 8 from rfl, if_neg (by decide), if_pos rfl, nd_g h1 h2 hn, xob_some, tob_is hC.1 h2, cnd_t, tob_f hC.1 h1 h2, xob_some, hC.1.2.2.1, xlen_new hN.1 eN (by decide), xob_some, hj, if_neg (by omega), xw_id (x := ((nn : Nat) : Int) - 1) (by omega) (by omega), if_neg (by omega), qTerms_exOf_94, if_neg (by decide), tob_f hC.1 h1 h2, xob_some, nd_g h1 h2 hn, xob_some, hC.1.2.2.1, hj, xarr_new hN.1 eN, xob_some, if_pos (xin_of (by omega) (by omega)), Int.toNat_natCast, xag_new hN.1, h1, l2]
set_option maxHeartbeats 8000000 in
theorem C_ev (hC : evC σ0 f sk nm F S lo hi T N nn) : ∀ n, evP σ0 f sk sn nm F S lo hi T n := by
  intro n
  induction n with
  | zero => intro σ _ _ _ cl ch a i h; exact h.elim
  | succ n P =>
    intro σ h1 h2 hd cl ch a i h g1 g2
    have w := hC.2.1 i g1 g2
    have hEV := EV_eq (h := σ0.1 254) (nm := nm) hC.2.1 g1 g2
    obtain ⟨⟨_, _, hn⟩, h⟩ := h
    have he : ∀ (z : Prop), (f 0 i ≤ 10 → z) → 10 < f 0 i → (f 0 i ≤ 10 → z) := fun z _ q q2 => absurd q2 (by omega)
    have k7 : ∀ c j, (f 0 j ≤ 10 ∧ ∃ lo' hi', cl ≤ lo' ∧ hi' ≤ ch ∧ ¬ (lo' ≤ a ∧ a < hi') ∧ rl f σ0.1 σ0.2.1 sk sn F S n lo' hi' c j) → f 0 j ≤ 10 ∧ ∃ lo' hi', rl f σ0.1 σ0.2.1 sk sn F S n lo' hi' c j := fun c j q => ⟨q.1, by obtain ⟨_, lo', hi', _, _, _, q⟩ := q; exact ⟨lo', hi', q⟩⟩
    have k8 : ∀ c j, (11 ≤ f 0 j ∧ ∃ lo' hi', cl ≤ lo' ∧ hi' ≤ ch ∧ ¬ (lo' ≤ a ∧ a < hi') ∧ rl f σ0.1 σ0.2.1 sk sn F S n lo' hi' c j) → 11 ≤ f 0 j ∧ ∃ lo' hi', rl f σ0.1 σ0.2.1 sk sn F S n lo' hi' c j := fun c j q => ⟨q.1, by obtain ⟨_, lo', hi', _, _, _, q⟩ := q; exact ⟨lo', hi', q⟩⟩
    have exs : ∀ (w o s : Int), σ0.1 a 0 = w → xisO xE1 σ w 50 = true → xfld xE1 σ w 50 0 = some o → xin o 38 → xag xE1 σ 41 o.toNat = s → (∀ L : List Nat, L.length ≤ L.length) := fun _ _ _ _ _ _ _ _ _ => Nat.le_refl _
    have parts : ∀ {k : Int} (ok : Nat → Nat → Prop) (s : Int), (σ0.1 a 0 = 36 ∧ ok = okS σ0.1 f) ∨ (σ0.1 a 0 = 37 ∧ ok = okP σ0.1 f) → (∀ r c, ok r c → (2 ≤ f 0 r ∧ f 0 r < 7) ∨ (9 < f 0 r ∧ f 0 r ≠ 14)) → (∃ (c r c' : Nat) (L : List Nat), σ0.1 a 6 = (c : Int) ∧ (f 0 r ≤ 10 ∧ ∃ lo' hi', cl ≤ lo' ∧ hi' ≤ ch ∧ ¬ (lo' ≤ a ∧ a < hi') ∧ rl f σ0.1 σ0.2.1 sk sn F S n lo' hi' c r) ∧ chS (fun c j => f 0 j ≤ 10 ∧ ∃ lo' hi', cl ≤ lo' ∧ hi' ≤ ch ∧ ¬ (lo' ≤ a ∧ a < hi') ∧ rl f σ0.1 σ0.2.1 sk sn F S n lo' hi' c j) ok σ0.1 f (c' :: L) c r i) → X iTerms_exOfParts 0 [(2, (T : Int)), (2, (a : Int)), (9, 0), (9, 0), (9, 0), (9, 0), (9, 0), (9, 0)] [] (xsetdp σ (xdp σ - 1)) = some ((1, EV f (σ0.1 254) nm i), xsetdp σ (xdp σ - 1)) := by
      intro k ok s hka hokk ⟨c, r, c', L, e6, ⟨r10, lo', hi', _, _, _, hrl⟩, hch⟩
      obtain ⟨_, _, hnc⟩ := rl_nd hrl
      obtain ⟨k1, k2⟩ := chS_in hC.2.1 hokk hch g1 g2
      have d1 : 2 * n + 1 ≤ xdp (xsetdp σ (xdp σ - 1)) := by show 2 * n + 1 ≤ xdp σ - 1; omega
      rw [qTerms_exOfParts_0, nd_g (σ := xsetdp σ (xdp σ - 1)) h1 h2 hn, xob_some, e6, tob_is hC.1 (σ := xsetdp σ (xdp σ - 1)) h2, cnd_t, dp_dn (by omega), cnd_f, evP_E P (σ := xsetdp σ (xdp σ - 1)) h1 h2 d1 hrl k1 (by omega) r10]
      show X iTerms_exOfParts 8 _ [(1, _)] (xsetdp (xsetdp (xsetdp σ (xdp σ - 1)) (xdp (xsetdp σ (xdp σ - 1)) - 1)) (xdp (xsetdp σ (xdp σ - 1)))) = _
      rw [xsetdp_back, qTerms_exOfParts_8, nd_g (σ := xsetdp σ (xdp σ - 1)) h1 h2 hn, xob_some, e6, if_neg (nz hnc.1), xob_some, nd_g (σ := xsetdp σ (xdp σ - 1)) h1 h2 hnc, xob_some]
      exact C_parts (cl := cl) (ch := ch) hC P (σ := xsetdp σ (xdp σ - 1)) h1 h2 d1 hn ok hka k7 (c' :: L) c r i hch g1 g2 _ _ _
    rcases h with ⟨z, e0, e1⟩ | ⟨z, z1, z2, e0⟩ | ⟨z, z1, e0, e1, z3, z4, _⟩ | ⟨z, e0, c, e6, c10, lo', hi', _, _, _, hrl⟩ | ⟨z, e0, c, e6, c11, lo', hi', _, _, _, hrl⟩ | ⟨zz, c, L, e6, ⟨c10, lo', hi', _, _, _, hrl⟩, hch⟩ | ⟨z, e0, c1, c2, c3, e6, e71, e72, e73, ⟨p1, lo1, hi1, _, _, _, r1⟩, ⟨p2, lo2, hi2, _, _, _, r2⟩, ⟨p3, lo3, hi3, _, _, _, r3⟩⟩ | ⟨e0, c1, c2, e6, e71, e72, zz, ⟨p1, lo1, hi1, _, _, _, r1⟩, ⟨p2, lo2, hi2, _, _, _, r2⟩⟩ | ⟨zz, e0, hch⟩ | ⟨zz, e0, hch⟩ | ⟨zz, hch⟩
    · refine ⟨fun _ => ?_, fun q => by omega⟩
      rw [hEV, evo_0 z, ← e1]
      rw [qTerms_exOf_0, if_neg (nz hn.1), nd_g h1 h2 hn, xob_some, e0, show xisO xE1 σ 34 50 = true from rfl, cnd_t, show xfld xE1 σ 34 50 0 = some 32 from rfl, xob_some, if_pos (show xin (32 : Int) 38 from ⟨by decide, by decide⟩), show xag xE1 σ 41 (32 : Int).toNat = 7 from rfl, if_pos rfl, nd_g h1 h2 hn, xob_some]
    · refine ⟨fun _ => ?_, fun q => by omega⟩
      rw [hEV, evo_1 z, if_pos z2]
      exact C_ev_word hC h1 h2 hn (by omega) (by rw [e0]; omega)
    · refine ⟨fun _ => ?_, fun q => by omega⟩
      rw [hEV, evo_1 z, if_neg (by omega)]
      exact C_ev_name hC h1 h2 hn e0 e1 z3 z4
    · refine ⟨fun _ => ?_, fun q => by omega⟩
      have w3 := w.2.2.2.1 (by omega)
      have b1 := hC.2.2.1 (f 1 i).toNat w3.2.1 (by omega)
      rw [hEV, evo_7 z]
      rw [qTerms_exOf_0, if_neg (nz hn.1), nd_g h1 h2 hn, xob_some, e0, show xisO xE1 σ 38 50 = true from rfl, cnd_t, show xfld xE1 σ 38 50 0 = some 36 from rfl, xob_some, if_pos (show xin (36 : Int) 38 from ⟨by decide, by decide⟩), show xag xE1 σ 41 (36 : Int).toNat = 12 from rfl, if_neg (by decide), if_neg (by decide), if_neg (by decide), if_neg (by decide), if_neg (by decide), if_pos rfl, nd_g h1 h2 hn, xob_some, e6, tob_is hC.1 h2, cnd_t, dp_dn (by omega), cnd_f, evP_E P h1 h2 (by omega) hrl w3.2.1 (by omega) c10]
      show X iTerms_exOf 119 _ [(1, _)] (xsetdp (xsetdp σ (xdp σ - 1)) (xdp σ)) = _
      rw [xsetdp_back, qTerms_exOf_119, xW_id (by omega) (by omega)]
    · refine ⟨fun q => by omega, fun _ => ?_⟩
      have w3 := w.2.2.2.1 (by omega)
      rw [hEV, evo_14 z]
      rw [qTerms_holds_0, if_neg (nz hn.1), nd_g h1 h2 hn, xob_some, e0, show xisO xE1 σ 23 50 = true from rfl, cnd_t, show xfld xE1 σ 23 50 0 = some 21 from rfl, xob_some, if_pos (show xin (21 : Int) 38 from ⟨by decide, by decide⟩), show xag xE1 σ 41 (21 : Int).toNat = 15 from rfl, if_neg (by decide), if_neg (by decide), if_pos rfl, nd_g h1 h2 hn, xob_some, e6, tob_is hC.1 h2, cnd_t, dp_dn (by omega), cnd_f, evP_H P h1 h2 (by omega) hrl w3.2.1 (by omega) c11]
      show X iTerms_holds 52 _ [(0, _)] (xsetdp (xsetdp σ (xdp σ - 1)) (xdp σ)) = _
      rw [xsetdp_back, qTerms_holds_52]
      by_cases c0 : EV f (σ0.1 254) nm (f 1 i).toNat = 0
      · rw [if_pos c0, if_pos c0]
      · rw [if_neg c0, if_neg c0]
    · have hz : f 0 i = 8 ∨ f 0 i = 9 := zz.elim (fun q => Or.inl q.1) (fun q => Or.inr q.1)
      refine ⟨fun _ => ?_, fun q => by omega⟩
      have w3 := w.2.2.2.1 (by omega)
      obtain ⟨_, _, hnc⟩ := rl_nd hrl
      have d1 : 2 * n + 1 ≤ xdp (xsetdp σ (xdp σ - 1)) := by show 2 * n + 1 ≤ xdp σ - 1; omega
      have key : ∀ k : Int, (σ0.1 a 0 = 19 ∧ k = 8) ∨ (σ0.1 a 0 = 20 ∧ k = 9) → X iTerms_exOfParts 0 [(2, (T : Int)), (2, (a : Int)), (9, 0), (9, 0), (9, 0), (9, 0), (9, 0), (9, 0)] [] (xsetdp σ (xdp σ - 1)) = some ((1, lfo f (EV f (σ0.1 254) nm) k i (f 4 (f 1 i).toNat) (EV f (σ0.1 254) nm (f 1 i).toNat)), xsetdp σ (xdp σ - 1)) := by
        intro k hka
        rw [qTerms_exOfParts_0, nd_g (σ := xsetdp σ (xdp σ - 1)) h1 h2 hn, xob_some, e6, tob_is hC.1 (σ := xsetdp σ (xdp σ - 1)) h2, cnd_t, dp_dn (by omega), cnd_f, evP_E P (σ := xsetdp σ (xdp σ - 1)) h1 h2 d1 hrl w3.2.1 (by omega) c10]
        show X iTerms_exOfParts 8 _ [(1, _)] (xsetdp (xsetdp (xsetdp σ (xdp σ - 1)) (xdp (xsetdp σ (xdp σ - 1)) - 1)) (xdp (xsetdp σ (xdp σ - 1)))) = _
        rw [xsetdp_back, qTerms_exOfParts_8, nd_g (σ := xsetdp σ (xdp σ - 1)) h1 h2 hn, xob_some, e6, if_neg (nz hnc.1), xob_some, nd_g (σ := xsetdp σ (xdp σ - 1)) h1 h2 hnc, xob_some]
        exact C_partsL hC P (σ := xsetdp σ (xdp σ - 1)) h1 h2 d1 hn hka (i := i) g2 k7 L c _ i _ hch (w.2.2.2.2.2.2 hz) _ _ _
      rcases zz with ⟨z, e0⟩ | ⟨z, e0⟩
      · rw [hEV, evo_8 z]
        rw [qTerms_exOf_0, if_neg (nz hn.1), nd_g h1 h2 hn, xob_some, e0, show xisO xE1 σ 19 50 = true from rfl, cnd_t, show xfld xE1 σ 19 50 0 = some 17 from rfl, xob_some, if_pos (show xin (17 : Int) 38 from ⟨by decide, by decide⟩), show xag xE1 σ 41 (17 : Int).toNat = 17 from rfl, if_neg (by decide), if_neg (by decide), if_neg (by decide), if_neg (by decide), if_neg (by decide), if_neg (by decide), if_neg (by decide), if_neg (by decide), if_neg (by decide), if_neg (by decide), if_pos rfl, tob_is hC.1 h2, cnd_t, dp_dn (by omega), cnd_f, key 8 (Or.inl ⟨e0, rfl⟩), Option.bind_some]
        show X iTerms_exOf 135 _ [(1, _)] (xsetdp (xsetdp σ (xdp σ - 1)) (xdp σ)) = _
        rw [xsetdp_back, qTerms_exOf_135]
      · rw [hEV, evo_9 z]
        rw [qTerms_exOf_0, if_neg (nz hn.1), nd_g h1 h2 hn, xob_some, e0, show xisO xE1 σ 20 50 = true from rfl, cnd_t, show xfld xE1 σ 20 50 0 = some 18 from rfl, xob_some, if_pos (show xin (18 : Int) 38 from ⟨by decide, by decide⟩), show xag xE1 σ 41 (18 : Int).toNat = 18 from rfl, if_neg (by decide), if_neg (by decide), if_neg (by decide), if_neg (by decide), if_neg (by decide), if_neg (by decide), if_neg (by decide), if_neg (by decide), if_neg (by decide), if_neg (by decide), if_neg (by decide), if_pos rfl, tob_is hC.1 h2, cnd_t, dp_dn (by omega), cnd_f, key 9 (Or.inr ⟨e0, rfl⟩), Option.bind_some]
        show X iTerms_exOf 135 _ [(1, _)] (xsetdp (xsetdp σ (xdp σ - 1)) (xdp σ)) = _
        rw [xsetdp_back, qTerms_exOf_135]
    · refine ⟨fun _ => ?_, fun q => by omega⟩
      have w3 := w.2.2.2.1 (by omega)
      have w4 := w.2.2.2.2.1 (by omega)
      have w5 := w.2.2.2.2.2.1 z
      obtain ⟨_, _, n1⟩ := rl_nd r1
      obtain ⟨_, _, n2⟩ := rl_nd r2
      have d1 : 2 * n + 1 ≤ xdp (xsetdp σ (xdp σ - 1)) := by show 2 * n + 1 ≤ xdp σ - 1; omega
      have key : X iTerms_exOfIf 0 [(2, (T : Int)), (2, (c1 : Int)), (9, 0)] [] (xsetdp σ (xdp σ - 1)) = some ((1, EV f (σ0.1 254) nm i), xsetdp σ (xdp σ - 1)) := by
        rw [qTerms_exOfIf_0, if_neg (nz n1.1), nd_g (σ := xsetdp σ (xdp σ - 1)) h1 h2 n1, xob_some, e71, if_neg (nz n2.1), tob_is hC.1 (σ := xsetdp σ (xdp σ - 1)) h2, cnd_t, dp_dn (by omega), cnd_f, evP_H P (σ := xsetdp σ (xdp σ - 1)) h1 h2 d1 r1 w3.2.1 (by omega) p1]
        show X iTerms_exOfIf 24 _ [(0, _)] (xsetdp (xsetdp (xsetdp σ (xdp σ - 1)) (xdp (xsetdp σ (xdp σ - 1)) - 1)) (xdp (xsetdp σ (xdp σ - 1)))) = _
        rw [xsetdp_back, qTerms_exOfIf_24, hEV, evo_10 z]
        by_cases c0 : EV f (σ0.1 254) nm (f 1 i).toNat = 0
        · rw [if_pos c0, if_pos c0, nd_g (σ := xsetdp σ (xdp σ - 1)) h1 h2 n2, xob_some, e72, tob_is hC.1 (σ := xsetdp σ (xdp σ - 1)) h2, cnd_t, dp_dn (by omega), cnd_f, evP_E P (σ := xsetdp σ (xdp σ - 1)) h1 h2 d1 r3 w5.2.1 (by omega) p3]
          show X iTerms_exOfIf 43 _ [(1, _)] (xsetdp (xsetdp (xsetdp σ (xdp σ - 1)) (xdp (xsetdp σ (xdp σ - 1)) - 1)) (xdp (xsetdp σ (xdp σ - 1)))) = _
          rw [xsetdp_back, qTerms_exOfIf_43]
        · rw [if_neg c0, if_neg c0, tob_is hC.1 (σ := xsetdp σ (xdp σ - 1)) h2, cnd_t, dp_dn (by omega), cnd_f, evP_E P (σ := xsetdp σ (xdp σ - 1)) h1 h2 d1 r2 w4.2.1 (by omega) p2]
          show X iTerms_exOfIf 32 _ [(1, _)] (xsetdp (xsetdp (xsetdp σ (xdp σ - 1)) (xdp (xsetdp σ (xdp σ - 1)) - 1)) (xdp (xsetdp σ (xdp σ - 1)))) = _
          rw [xsetdp_back, qTerms_exOfIf_32, qTerms_exOfIf_43]
      rw [qTerms_exOf_0, if_neg (nz hn.1), nd_g h1 h2 hn, xob_some, e0, show xisO xE1 σ 16 50 = true from rfl, cnd_t, show xfld xE1 σ 16 50 0 = some 14 from rfl, xob_some, if_pos (show xin (14 : Int) 38 from ⟨by decide, by decide⟩), show xag xE1 σ 41 (14 : Int).toNat = 16 from rfl, if_neg (by decide), if_neg (by decide), if_neg (by decide), if_neg (by decide), if_neg (by decide), if_neg (by decide), if_neg (by decide), if_neg (by decide), if_neg (by decide), if_pos rfl, nd_g h1 h2 hn, xob_some, e6, tob_is hC.1 h2, cnd_t, dp_dn (by omega), cnd_f, key, Option.bind_some]
      show X iTerms_exOf 129 _ [(1, _)] (xsetdp (xsetdp σ (xdp σ - 1)) (xdp σ)) = _
      rw [xsetdp_back, qTerms_exOf_129]
    · have hz : f 0 i = 11 ∨ f 0 i = 12 ∨ f 0 i = 13 := by omega
      refine ⟨fun q => by omega, fun _ => ?_⟩
      have w3 := w.2.2.2.1 (by omega)
      have w4 := w.2.2.2.2.1 (by omega)
      obtain ⟨_, _, n1⟩ := rl_nd r1
      obtain ⟨_, _, n2⟩ := rl_nd r2
      have hb := EV_bit (h := σ0.1 254) (nm := nm) hC.2.1 g1 g2 (by omega)
      have d1 : 2 * n + 1 ≤ xdp (xsetdp σ (xdp σ - 1)) := by show 2 * n + 1 ≤ xdp σ - 1; omega
      have key : X iTerms_compares 0 [(2, (T : Int)), (2, (c1 : Int)), (9, 0), (9, 0), (9, 0), (9, 0)] [] (xsetdp σ (xdp σ - 1)) = some ((0, EV f (σ0.1 254) nm i), xsetdp σ (xdp σ - 1)) := by
        rw [qTerms_compares_0, if_neg (nz n1.1), nd_g (σ := xsetdp σ (xdp σ - 1)) h1 h2 n1, xob_some, e71, if_neg (nz n2.1), tob_is hC.1 (σ := xsetdp σ (xdp σ - 1)) h2, cnd_t, dp_dn (by omega), cnd_f, evP_E P (σ := xsetdp σ (xdp σ - 1)) h1 h2 d1 r1 w3.2.1 (by omega) p1]
        show X iTerms_compares 18 _ [(1, _)] (xsetdp (xsetdp (xsetdp σ (xdp σ - 1)) (xdp (xsetdp σ (xdp σ - 1)) - 1)) (xdp (xsetdp σ (xdp σ - 1)))) = _
        rw [xsetdp_back, qTerms_compares_18, nd_g (σ := xsetdp σ (xdp σ - 1)) h1 h2 n1, xob_some, e71, tob_is hC.1 (σ := xsetdp σ (xdp σ - 1)) h2, cnd_t, dp_dn (by omega), cnd_f, evP_E P (σ := xsetdp σ (xdp σ - 1)) h1 h2 d1 r2 w4.2.1 (by omega) p2]
        show X iTerms_compares 27 _ [(1, _)] (xsetdp (xsetdp (xsetdp σ (xdp σ - 1)) (xdp (xsetdp σ (xdp σ - 1)) - 1)) (xdp (xsetdp σ (xdp σ - 1)))) = _
        rw [xsetdp_back, qTerms_compares_27, nd_g (σ := xsetdp σ (xdp σ - 1)) h1 h2 n1, xob_some, e71, nd_g (σ := xsetdp σ (xdp σ - 1)) h1 h2 n2, xob_some, hEV]
        rcases zz with ⟨z, z5⟩ | ⟨z, z5⟩ | ⟨z, z5⟩
        · rw [z5, show xna 3 60 = 60 from rfl, if_pos rfl, evo_11 z]
          by_cases c0 : EV f (σ0.1 254) nm (f 1 i).toNat < EV f (σ0.1 254) nm (f 2 i).toNat
          · rw [if_pos c0, if_pos c0]
          · rw [if_neg c0, if_neg c0]
        · rw [z5, show xna 3 62 = 62 from rfl, if_neg (by decide), if_pos rfl, evo_12 z]
          by_cases c0 : EV f (σ0.1 254) nm (f 2 i).toNat < EV f (σ0.1 254) nm (f 1 i).toNat
          · rw [if_pos c0, if_pos c0]
          · rw [if_neg c0, if_neg c0]
        · rw [z5, show xna 3 61 = 61 from rfl, if_neg (by decide), if_neg (by decide), evo_13 z]
          by_cases c0 : EV f (σ0.1 254) nm (f 1 i).toNat = EV f (σ0.1 254) nm (f 2 i).toNat
          · rw [if_pos c0, if_pos c0]
          · rw [if_neg c0, if_neg c0]
      rw [qTerms_holds_0, if_neg (nz hn.1), nd_g h1 h2 hn, xob_some, e0, show xisO xE1 σ 39 50 = true from rfl, cnd_t, show xfld xE1 σ 39 50 0 = some 37 from rfl, xob_some, if_pos (show xin (37 : Int) 38 from ⟨by decide, by decide⟩), show xag xE1 σ 41 (37 : Int).toNat = 11 from rfl, if_neg (by decide), if_neg (by decide), if_neg (by decide), nd_g h1 h2 hn, xob_some, e6, tob_is hC.1 h2, cnd_t, dp_dn (by omega), cnd_f, key, Option.bind_some]
      show X iTerms_holds 91 _ [(0, _)] (xsetdp (xsetdp σ (xdp σ - 1)) (xdp σ)) = _
      rw [xsetdp_back, qTerms_holds_91, if_pos (by rcases hb with hb | hb <;> (rw [hb]; rfl))]
    · refine ⟨fun _ => ?_, fun q => by omega⟩
      rw [qTerms_exOf_0, if_neg (nz hn.1), nd_g h1 h2 hn, xob_some, e0, show xisO xE1 σ 36 50 = true from rfl, cnd_t, show xfld xE1 σ 36 50 0 = some 34 from rfl, xob_some, if_pos (show xin (34 : Int) 38 from ⟨by decide, by decide⟩), show xag xE1 σ 41 (34 : Int).toNat = 9 from rfl, if_neg (by decide), if_neg (by decide), if_pos rfl, tob_is hC.1 h2, cnd_t, dp_dn (by omega), cnd_f, parts (k := 0) (okS σ0.1 f) 0 (Or.inl ⟨e0, rfl⟩) (fun r c h => by rcases h with h | h <;> omega) hch, Option.bind_some]
      show X iTerms_exOf 135 _ [(1, _)] (xsetdp (xsetdp σ (xdp σ - 1)) (xdp σ)) = _
      rw [xsetdp_back, qTerms_exOf_135]
    · refine ⟨fun _ => ?_, fun q => by omega⟩
      rw [qTerms_exOf_0, if_neg (nz hn.1), nd_g h1 h2 hn, xob_some, e0, show xisO xE1 σ 37 50 = true from rfl, cnd_t, show xfld xE1 σ 37 50 0 = some 35 from rfl, xob_some, if_pos (show xin (35 : Int) 38 from ⟨by decide, by decide⟩), show xag xE1 σ 41 (35 : Int).toNat = 10 from rfl, if_neg (by decide), if_neg (by decide), if_neg (by decide), if_pos rfl, tob_is hC.1 h2, cnd_t, dp_dn (by omega), cnd_f, parts (k := 0) (okP σ0.1 f) 0 (Or.inr ⟨e0, rfl⟩) (fun r c h => by rcases h with h | h | h <;> omega) hch, Option.bind_some]
      show X iTerms_exOf 135 _ [(1, _)] (xsetdp (xsetdp σ (xdp σ - 1)) (xdp σ)) = _
      rw [xsetdp_back, qTerms_exOf_135]
    · obtain ⟨c, r, c', L, e6, ⟨r11, lo', hi', _, _, _, hrl⟩, hch⟩ := hch
      have hz : f 0 i = 15 ∨ f 0 i = 16 := zz.elim (fun q => Or.inl q.1) (fun q => Or.inr q.1)
      have hokk : ∀ r c, okK f (f 0 i) r c → (2 ≤ f 0 r ∧ f 0 r < 7) ∨ (9 < f 0 r ∧ f 0 r ≠ 14) := by
        intro r c e
        have e : f 0 r = f 0 i := e
        omega
      obtain ⟨k1, k2⟩ := chS_in hC.2.1 hokk hch g1 g2
      refine ⟨fun q => by omega, fun _ => ?_⟩
      obtain ⟨_, _, hnc⟩ := rl_nd hrl
      have hb := EV_bit (h := σ0.1 254) (nm := nm) hC.2.1 g1 g2 (by omega)
      have hbr := EV_bit (h := σ0.1 254) (nm := nm) hC.2.1 k1 (by omega) r11
      have d1 : 2 * n + 1 ≤ xdp (xsetdp σ (xdp σ - 1)) := by show 2 * n + 1 ≤ xdp σ - 1; omega
      have key : ∀ (k v : Int), k = f 0 i → (k = 15 ∧ v = 0) ∨ (k = 16 ∧ v = 1) → X iTerms_hasPart 0 [(2, (T : Int)), (2, (a : Int)), (0, v), (9, 0)] [] (xsetdp σ (xdp σ - 1)) = some ((0, if EV f (σ0.1 254) nm i = v then 1 else 0), xsetdp σ (xdp σ - 1)) := by
        intro k v ek hkv
        rw [← ek] at hch
        have e := hch
        rw [qTerms_hasPart_0, nd_g (σ := xsetdp σ (xdp σ - 1)) h1 h2 hn, xob_some, e6, qTerms_hasPart_5, if_neg (nz hnc.1), tob_is hC.1 (σ := xsetdp σ (xdp σ - 1)) h2, cnd_t, dp_dn (by omega), cnd_f, evP_H P (σ := xsetdp σ (xdp σ - 1)) h1 h2 d1 hrl k1 (by omega) r11]
        show X iTerms_hasPart 14 _ [(0, _)] (xsetdp (xsetdp (xsetdp σ (xdp σ - 1)) (xdp (xsetdp σ (xdp σ - 1)) - 1)) (xdp (xsetdp σ (xdp σ - 1)))) = _
        rw [xsetdp_back, qTerms_hasPart_14]
        by_cases c0 : EV f (σ0.1 254) nm r = v
        · rw [if_pos c0, if_pos (chS_stay hC.2.1 hkv (c' :: L) c r i hch g1 g2 c0)]
        · rw [if_neg c0, nd_g (σ := xsetdp σ (xdp σ - 1)) h1 h2 hnc, xob_some]
          exact C_hasPart hC P (σ := xsetdp σ (xdp σ - 1)) h1 h2 d1 hkv k8 _ (c' :: L) c r i hch g1 g2 (by omega)
      rcases zz with ⟨z, e0⟩ | ⟨z, e0⟩
      · rw [qTerms_holds_0, if_neg (nz hn.1), nd_g h1 h2 hn, xob_some, e0, show xisO xE1 σ 22 50 = true from rfl, cnd_t, show xfld xE1 σ 22 50 0 = some 20 from rfl, xob_some, if_pos (show xin (20 : Int) 38 from ⟨by decide, by decide⟩), show xag xE1 σ 41 (20 : Int).toNat = 14 from rfl, if_neg (by decide), if_pos rfl, tob_is hC.1 h2, cnd_t, dp_dn (by omega), cnd_f, key 15 0 z.symm (Or.inl ⟨rfl, rfl⟩), Option.bind_some]
        show X iTerms_holds 67 _ [(0, _)] (xsetdp (xsetdp σ (xdp σ - 1)) (xdp σ)) = _
        rw [xsetdp_back, qTerms_holds_67]
        rcases hb with hb | hb
        · rw [hb]; rfl
        · rw [hb]; rfl
      · rw [qTerms_holds_0, if_neg (nz hn.1), nd_g h1 h2 hn, xob_some, e0, show xisO xE1 σ 21 50 = true from rfl, cnd_t, show xfld xE1 σ 21 50 0 = some 19 from rfl, xob_some, if_pos (show xin (19 : Int) 38 from ⟨by decide, by decide⟩), show xag xE1 σ 41 (19 : Int).toNat = 13 from rfl, if_pos rfl, tob_is hC.1 h2, cnd_t, dp_dn (by omega), cnd_f, key 16 1 z.symm (Or.inr ⟨rfl, rfl⟩), Option.bind_some]
        show X iTerms_holds 82 _ [(0, _)] (xsetdp (xsetdp σ (xdp σ - 1)) (xdp σ)) = _
        rw [xsetdp_back, qTerms_holds_82]
        rcases hb with hb | hb
        · rw [hb]; rfl
        · rw [hb]; rfl
end CEVN

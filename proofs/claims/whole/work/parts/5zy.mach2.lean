/-! frames and rows -/
section MACH
variable {B : Nat → Int} {n : Nat} {sk sn : Nat → Int} {F S : Nat}
variable {c0 : Nat} {σ τ υ : xS} {e o g : Int} {j c : Nat} {f : Nat → Nat → Int} {K : List PF}
/-- a change of frames and of their number -/
theorem ms_fc {m m' : Nat → Nat → Int} {g' : Int} {K' : List PF} (h : ms B n sk sn F S m e o j c f g K) (h1 : ∀ a, a ≠ 305 → ¬ (358 ≤ a ∧ a ≤ 362) → m' a = m a) (h2 : ∀ k, k ≠ 82 → k ≠ 83 → m' 305 k = m 305 k) (hg : m' 305 83 = g') (hK : m' 305 82 = (K'.length : Int)) (hp : pfs m' K') : ms B n sk sn F S m' e o j c f g' K' := by
  obtain ⟨⟨a1, a2⟩, a3, a4, a5, a6, _, _, _⟩ := h
  refine ⟨⟨?_, ?_⟩, tkn_cg a3 fun k hk => h2 k (by omega) (by omega), mse_cg a4 ⟨h2 _ (by decide) (by decide), h2 _ (by decide) (by decide)⟩, by rw [h2 _ (by decide) (by decide)]; exact a5, ⟨by rw [h2 _ (by decide) (by decide)]; exact a6.1, fun q hq => by rw [h1 _ (by omega) (by omega)]; exact a6.2 q hq⟩, hg, hK, hp⟩
  · unfold tpB
    rw [h2 _ (by decide) (by decide), h1 357 (by decide) (by decide)]
    exact a1
  · unfold wenv
    rw [h2 _ (by decide) (by decide), h2 _ (by decide) (by decide), h1 344 (by decide) (by decide), h1 350 (by decide) (by decide)]
    exact a2
theorem ms_pop {fr : PF} (h : ms B n sk sn F S σ.1 e o j c f g (fr :: K)) (hK : K.length < 500) (v : Int) : ms B n sk sn F S (xs (xs σ 305 83 v) 305 82 (xw (σ.1 305 82 - 1))).1 e o j c f v K ∧ fm c0 σ (xs (xs σ 305 83 v) 305 82 (xw (σ.1 305 82 - 1))) := by
  have hd : σ.1 305 82 = ((K.length + 1 : Nat) : Int) := h.2.2.2.2.2.2.1
  have hp : pfs σ.1 K := by
    obtain ⟨w, a, x, y, z⟩ := fr
    exact h.2.2.2.2.2.2.2.2
  refine ⟨ms_fc h (fun a h1 _ => by rw [xs_ne h1, xs_ne h1]) (fun k h1 h2 => by rw [xs_at, xup_ne h1, xs_at, xup_ne h2]) (by rw [xs_at, xup_ne (by decide), xs_at, xup_eq]) ?_ (pfs_cg (fun a k _ _ _ => by rw [xs_ne (by omega), xs_ne (by omega)]) hp), fm_tr (fm_s (by unfold msc; omega) _) (fm_s (by unfold msc; omega) _)⟩
  rw [xs_at, xup_eq, hd, xw_id (by omega) (by omega)]
  omega
theorem ms_set {fr fr' : PF} (h : ms B n sk sn F S σ.1 e o j c f g (fr :: K)) {a : Nat} (ha : 358 ≤ a ∧ a ≤ 362) (v : Int) (hf : fr' = (if a = 358 then v else fr.1, if a = 359 then v else fr.2.1, if a = 360 then v else fr.2.2.1, if a = 361 then v else fr.2.2.2.1, if a = 362 then v else fr.2.2.2.2)) : ms B n sk sn F S (xs σ a K.length v).1 e o j c f g (fr' :: K) ∧ fm c0 σ (xs σ a K.length v) := by
  refine ⟨ms_fc h (fun b _ h2 => by rw [xs_ne (fun z => h2 (by omega))]) (fun k _ _ => by rw [xs_ne (by omega)]) (by rw [xs_ne (by omega)]; exact h.2.2.2.2.2.1) (by rw [xs_ne (by omega)]; exact h.2.2.2.2.2.2.1) ?_, fm_f ha v⟩
  obtain ⟨w, b, x, y, z⟩ := fr
  obtain ⟨⟨q1, q2, q3, q4, q5⟩, q6⟩ := h.2.2.2.2.2.2.2
  rw [hf]
  refine ⟨?_, pfs_cg (fun b k _ _ h3 => ?_) q6⟩
  · have one (b : Nat) (u : Int) (hb : σ.1 b K.length = u) : (xs σ a K.length v).1 b K.length = if a = b then v else u := by
      by_cases z : a = b
      · rw [z, xs_at, xup_eq, if_pos rfl]
      · rw [xs_ne (fun q => z q.symm), if_neg z, hb]
    exact ⟨one _ _ q1, one _ _ q2, one _ _ q3, one _ _ q4, one _ _ q5⟩
  · by_cases z : b = a
    · rw [z, xs_at, xup_ne (by omega)]
    · rw [xs_ne z]
theorem ms_begin (h : ms B n sk sn F S σ.1 e o j c f g K) (hK : K.length < 500) (w : Int) : ∃ τ, X iM_begin 0 [(2, 305), (0, w)] [] σ = some ((9, 0), τ) ∧ ms B n sk sn F S τ.1 e o j c f g ((w, 0, -1, -1, 0) :: K) ∧ fm c0 σ τ := by
  have hd : σ.1 305 82 = (K.length : Int) := h.2.2.2.2.2.2.1
  have hx : xin (σ.1 305 82) 500 := by rw [hd]; exact xin_of (by omega) (by omega)
  refine ⟨xs (xs (xs (xs (xs (xs σ 358 K.length w) 359 K.length 0) 360 K.length (-1)) 361 K.length (-1)) 362 K.length 0) 305 82 ((K.length + 1 : Nat) : Int), ?_, ms_fc h ?_ ?_ ?_ ?_ ⟨?_, pfs_cg ?_ h.2.2.2.2.2.2.2⟩, fm_tr (fm_tr (fm_tr (fm_tr (fm_tr (fm_f (by omega) _) (fm_f (by omega) _)) (fm_f (by omega) _)) (fm_f (by omega) _)) (fm_f (by omega) _)) (fm_s (by unfold msc; omega) _)⟩
  · rw [qM_begin_0, if_pos hx, if_pos hx, if_pos hx, if_pos hx, if_pos hx, hd, Int.toNat_natCast, xw_t (by omega)]
  · intro a h1 h2
    rw [xs_ne h1, xs_ne (by omega), xs_ne (by omega), xs_ne (by omega), xs_ne (by omega), xs_ne (by omega)]
  · intro k h1 _
    rw [xs_at, xup_ne h1, xs_ne (by decide), xs_ne (by decide), xs_ne (by decide), xs_ne (by decide), xs_ne (by decide)]
  · rw [xs_at, xup_ne (by decide), xs_ne (by decide), xs_ne (by decide), xs_ne (by decide), xs_ne (by decide), xs_ne (by decide)]
    exact h.2.2.2.2.2.1
  · rw [xs_at, xup_eq]; rfl
  · refine ⟨?_, ?_, ?_, ?_, ?_⟩
    · rw [xs_ne (by decide), xs_ne (by decide), xs_ne (by decide), xs_ne (by decide), xs_ne (by decide), xs_at, xup_eq]
    · rw [xs_ne (by decide), xs_ne (by decide), xs_ne (by decide), xs_ne (by decide), xs_at, xup_eq]
    · rw [xs_ne (by decide), xs_ne (by decide), xs_ne (by decide), xs_at, xup_eq]
    · rw [xs_ne (by decide), xs_ne (by decide), xs_at, xup_eq]
    · rw [xs_ne (by decide), xs_at, xup_eq]
  · intro a k _ _ h3
    have one (σ : xS) (b : Nat) (v : Int) : (xs σ b K.length v).1 a k = σ.1 a k := by
      by_cases z : a = b
      · rw [z, xs_at, xup_ne (by omega)]
      · rw [xs_ne z]
    rw [xs_ne (by omega), one, one, one, one, one]
theorem ms_node (h : ms B n sk sn F S σ.1 e o j c f g K) (hc : c < 3300) (h0 : c0 ≤ c) (k a b d v : Int) : ∃ τ, X iM_node 0 [(2, 305), (0, k), (0, a), (0, b), (0, d), (1, v), (8, 0)] [] σ = some ((0, (c : Int)), τ) ∧ ms B n sk sn F S τ.1 e o j (c + 1) (nwr f c k a b d v) g K ∧ fm c0 σ τ := by
  obtain ⟨⟨a1, a2⟩, a3, a4, a5, a6, a7, a8, a9⟩ := h
  have hx : xin (σ.1 305 64) 3300 := by rw [a6.1]; exact xin_of (by omega) (by omega)
  have hw : xw ((c : Int) + 1) = ((c + 1 : Nat) : Int) := by rw [xw_id (by omega) (by omega)]; omega
  have hw2 : xw (((c + 1 : Nat) : Int) - 1) = (c : Int) := by rw [xw_id (by omega) (by omega)]; omega
  have ht (b' : Nat) (h1 : ¬ (351 ≤ b' ∧ b' ≤ 356)) (h2 : b' ≠ 305) : (xs (xs (xs (xs (xs (xs (xs σ 351 c k) 352 c a) 353 c b) 354 c d) 355 c (-1)) 356 c v) 305 64 ((c + 1 : Nat) : Int)).1 b' = σ.1 b' := by
    rw [xs_ne h2, xs_ne (by omega), xs_ne (by omega), xs_ne (by omega), xs_ne (by omega), xs_ne (by omega), xs_ne (by omega)]
  have hs (i : Nat) (h1 : i ≠ 64) : (xs (xs (xs (xs (xs (xs (xs σ 351 c k) 352 c a) 353 c b) 354 c d) 355 c (-1)) 356 c v) 305 64 ((c + 1 : Nat) : Int)).1 305 i = σ.1 305 i := by
    rw [xs_at, xup_ne h1, xs_ne (by decide), xs_ne (by decide), xs_ne (by decide), xs_ne (by decide), xs_ne (by decide), xs_ne (by decide)]
  refine ⟨xs (xs (xs (xs (xs (xs (xs σ 351 c k) 352 c a) 353 c b) 354 c d) 355 c (-1)) 356 c v) 305 64 ((c + 1 : Nat) : Int), ?_, ⟨⟨?_, ?_⟩, tkn_cg a3 fun k hk => hs k (by omega), mse_cg a4 ⟨hs _ (by decide), hs _ (by decide)⟩, by rw [hs _ (by decide)]; exact a5, ⟨by rw [xs_at, xup_eq], ?_⟩, by rw [hs _ (by decide)]; exact a7, by rw [hs _ (by decide)]; exact a8, pfs_cg (fun a k _ _ _ => by rw [ht _ (by omega) (by omega)]) a9⟩, fm_tr (fm_tr (fm_tr (fm_tr (fm_tr (fm_tr (fm_r (q := 0) (by decide) h0 _) (fm_r (q := 1) (by decide) h0 _)) (fm_r (q := 2) (by decide) h0 _)) (fm_r (q := 3) (by decide) h0 _)) (fm_r (q := 4) (by decide) h0 _)) (fm_r (q := 5) (by decide) h0 _)) (fm_s (by unfold msc; omega) _)⟩
  · rw [qM_node_0, if_pos hx, if_pos hx, if_pos hx, if_pos hx, if_pos hx, if_pos hx, a6.1, Int.toNat_natCast, hw, hw2]
  · clear hw hw2
    unfold tpB
    rw [hs _ (by decide), ht 357 (by decide) (by decide)]
    exact a1
  · clear hw hw2
    unfold wenv
    rw [hs _ (by decide), hs _ (by decide), ht 344 (by decide) (by decide), ht 350 (by decide) (by decide)]
    exact a2
  · clear hw hw2
    intro q hq
    match q, hq with
    | 0, _ => show _ = xup (f 0) c k; rw [← a6.2 0 (by decide), show 351 + 0 = 351 from rfl, xs_ne (by decide), xs_ne (by decide), xs_ne (by decide), xs_ne (by decide), xs_ne (by decide), xs_ne (by decide), xs_at]
    | 1, _ => show _ = xup (f 1) c a; rw [← a6.2 1 (by decide), show 351 + 1 = 352 from rfl, xs_ne (by decide), xs_ne (by decide), xs_ne (by decide), xs_ne (by decide), xs_ne (by decide), xs_at, xs_ne (by decide)]
    | 2, _ => show _ = xup (f 2) c b; rw [← a6.2 2 (by decide), show 351 + 2 = 353 from rfl, xs_ne (by decide), xs_ne (by decide), xs_ne (by decide), xs_ne (by decide), xs_at, xs_ne (by decide), xs_ne (by decide)]
    | 3, _ => show _ = xup (f 3) c d; rw [← a6.2 3 (by decide), show 351 + 3 = 354 from rfl, xs_ne (by decide), xs_ne (by decide), xs_ne (by decide), xs_at, xs_ne (by decide), xs_ne (by decide), xs_ne (by decide)]
    | 4, _ => show _ = xup (f 4) c (-1); rw [← a6.2 4 (by decide), show 351 + 4 = 355 from rfl, xs_ne (by decide), xs_ne (by decide), xs_at, xs_ne (by decide), xs_ne (by decide), xs_ne (by decide), xs_ne (by decide)]
    | 5, _ => show _ = xup (f 5) c v; rw [← a6.2 5 (by decide), show 351 + 5 = 356 from rfl, xs_ne (by decide), xs_at, xs_ne (by decide), xs_ne (by decide), xs_ne (by decide), xs_ne (by decide), xs_ne (by decide)]
    | q + 6, h => exact absurd h (by omega)
theorem ms_nx (h : ms B n sk sn F S σ.1 e o j c f g K) {r : Nat} (h0 : c0 ≤ r) (v : Int) : ms B n sk sn F S (xs σ 355 r v).1 e o j c (nxr f r v) g K ∧ fm c0 σ (xs σ 355 r v) := by
  obtain ⟨⟨a1, a2⟩, a3, a4, a5, a6, a7, a8, a9⟩ := h
  refine ⟨⟨⟨?_, ?_⟩, tkn_cg a3 fun k hk => by rw [xs_ne (by decide)], mse_cg a4 ⟨by rw [xs_ne (by decide)], by rw [xs_ne (by decide)]⟩, by rw [xs_ne (by decide)]; exact a5, ⟨by rw [xs_ne (by decide)]; exact a6.1, fun q hq => ?_⟩, by rw [xs_ne (by decide)]; exact a7, by rw [xs_ne (by decide)]; exact a8, pfs_cg (fun a k _ _ _ => by rw [xs_ne (by omega)]) a9⟩, fm_r (q := 4) (by decide) h0 v⟩
  · unfold tpB
    rw [xs_ne (by decide), xs_ne (by decide)]
    exact a1
  · unfold wenv
    rw [xs_ne (by decide), xs_ne (by decide), xs_ne (by decide)]
    exact a2
  · show _ = if q = 4 then xup (f 4) r v else f q
    by_cases z : q = 4
    · rw [z, if_pos rfl, ← a6.2 4 (by decide), xs_at]
    · rw [if_neg z, xs_ne (by omega)]
      exact a6.2 q hq
/-- one step -/
theorem st_at {w a x y z : Int} (h : ms B n sk sn F S σ.1 (-1) o j c f g ((w, a, x, y, z) :: K)) (hK : K.length < 500) : σ.1 305 74 = 0 ∧ σ.1 305 82 = ((K.length + 1 : Nat) : Int) ∧ xw (σ.1 305 82 - 1) = (K.length : Int) ∧ (σ.1 358 K.length = w ∧ σ.1 359 K.length = a ∧ σ.1 360 K.length = x ∧ σ.1 361 K.length = y ∧ σ.1 362 K.length = z) := by
  have hd : σ.1 305 82 = ((K.length + 1 : Nat) : Int) := h.2.2.2.2.2.2.1
  refine ⟨h.2.2.1.elim (fun q => q.2.1) (fun q => absurd q.1 (by decide)), hd, ?_, h.2.2.2.2.2.2.2.1⟩
  rw [hd, xw_id (by omega) (by omega)]
  omega
def st_go (σ τ : xS) : Prop := ∀ vw : xAV, ∃ vw' : xAV, X iM_expression 15 [(2, 305), vw] [] σ = X iM_expression 15 [(2, 305), vw'] [] τ
theorem st_tr (h : st_go σ τ) (k : st_go τ υ) : st_go σ υ := fun vw => by
  obtain ⟨v1, e1⟩ := h vw
  obtain ⟨v2, e2⟩ := k v1
  exact ⟨v2, e1.trans e2⟩
variable {a x y z : Int}
theorem st_0 (h : ms B n sk sn F S σ.1 (-1) o j c f g ((0, a, x, y, z) :: K)) (hK : K.length < 500) (hx : X iM_ex 0 [(2, 305), (0, (K.length : Int))] [] σ = some ((9, 0), τ)) : st_go σ τ := fun vw => by
  obtain ⟨h1, h2, h3, h4, _⟩ := st_at h hK
  refine ⟨(0, 0), ?_⟩
  rw [qM_expression_15, if_pos (by omega), if_pos (by rw [h1]; rfl), h3, if_pos (xin_of (by omega) (by omega)), Int.toNat_natCast, h4, if_pos rfl, hx, Option.bind_some, qM_expression_55, qM_expression_158]
theorem st_1 (h : ms B n sk sn F S σ.1 (-1) o j c f g ((1, a, x, y, z) :: K)) (hK : K.length < 500) (hx : X iM_sum 0 [(2, 305), (0, (K.length : Int))] [] σ = some ((9, 0), τ)) : st_go σ τ := fun vw => by
  obtain ⟨h1, h2, h3, h4, _⟩ := st_at h hK
  refine ⟨(0, 1), ?_⟩
  rw [qM_expression_15, if_pos (by omega), if_pos (by rw [h1]; rfl), h3, if_pos (xin_of (by omega) (by omega)), Int.toNat_natCast, h4, if_neg (by decide), if_pos rfl, hx, Option.bind_some, qM_expression_73, qM_expression_158]
theorem st_2 (h : ms B n sk sn F S σ.1 (-1) o j c f g ((2, a, x, y, z) :: K)) (hK : K.length < 500) (hx : X iM_prod 0 [(2, 305), (0, (K.length : Int))] [] σ = some ((9, 0), τ)) : st_go σ τ := fun vw => by
  obtain ⟨h1, h2, h3, h4, _⟩ := st_at h hK
  refine ⟨(0, 2), ?_⟩
  rw [qM_expression_15, if_pos (by omega), if_pos (by rw [h1]; rfl), h3, if_pos (xin_of (by omega) (by omega)), Int.toNat_natCast, h4, if_neg (by decide), if_neg (by decide), if_pos rfl, hx, Option.bind_some, qM_expression_91, qM_expression_158]
theorem st_3 (h : ms B n sk sn F S σ.1 (-1) o j c f g ((3, a, x, y, z) :: K)) (hK : K.length < 500) (hx : X iM_atom 0 [(2, 305), (0, (K.length : Int)), (9, 0), (9, 0)] [] σ = some ((9, 0), τ)) : st_go σ τ := fun vw => by
  obtain ⟨h1, h2, h3, h4, _⟩ := st_at h hK
  refine ⟨(0, 3), ?_⟩
  rw [qM_expression_15, if_pos (by omega), if_pos (by rw [h1]; rfl), h3, if_pos (xin_of (by omega) (by omega)), Int.toNat_natCast, h4, if_neg (by decide), if_neg (by decide), if_neg (by decide), if_pos rfl, hx, Option.bind_some, qM_expression_109, qM_expression_158]
theorem st_4 (h : ms B n sk sn F S σ.1 (-1) o j c f g ((4, a, x, y, z) :: K)) (hK : K.length < 500) (hx : X iM_cond 0 [(2, 305), (0, (K.length : Int))] [] σ = some ((9, 0), τ)) : st_go σ τ := fun vw => by
  obtain ⟨h1, h2, h3, h4, _⟩ := st_at h hK
  refine ⟨(0, 4), ?_⟩
  rw [qM_expression_15, if_pos (by omega), if_pos (by rw [h1]; rfl), h3, if_pos (xin_of (by omega) (by omega)), Int.toNat_natCast, h4, if_neg (by decide), if_neg (by decide), if_neg (by decide), if_neg (by decide), if_pos rfl, hx, Option.bind_some, qM_expression_127, qM_expression_158]
theorem st_5 (h : ms B n sk sn F S σ.1 (-1) o j c f g ((5, a, x, y, z) :: K)) (hK : K.length < 500) (hx : X iM_all 0 [(2, 305), (0, (K.length : Int))] [] σ = some ((9, 0), τ)) : st_go σ τ := fun vw => by
  obtain ⟨h1, h2, h3, h4, _⟩ := st_at h hK
  refine ⟨(0, 5), ?_⟩
  rw [qM_expression_15, if_pos (by omega), if_pos (by rw [h1]; rfl), h3, if_pos (xin_of (by omega) (by omega)), Int.toNat_natCast, h4, if_neg (by decide), if_neg (by decide), if_neg (by decide), if_neg (by decide), if_neg (by decide), if_pos rfl, hx, Option.bind_some, qM_expression_145, qM_expression_158]
theorem st_6 (h : ms B n sk sn F S σ.1 (-1) o j c f g ((6, a, x, y, z) :: K)) (hK : K.length < 500) (hx : X iM_test 0 [(2, 305), (0, (K.length : Int))] [] σ = some ((9, 0), τ)) : st_go σ τ := fun vw => by
  obtain ⟨h1, h2, h3, h4, _⟩ := st_at h hK
  refine ⟨(0, 6), ?_⟩
  rw [qM_expression_15, if_pos (by omega), if_pos (by rw [h1]; rfl), h3, if_pos (xin_of (by omega) (by omega)), Int.toNat_natCast, h4, if_neg (by decide), if_neg (by decide), if_neg (by decide), if_neg (by decide), if_neg (by decide), if_neg (by decide), hx, Option.bind_some, qM_expression_158]
end MACH

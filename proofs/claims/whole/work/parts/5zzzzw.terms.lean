/-! terms: class and reference alike, what stands behind it -/
section TRM
variable {σ τ υ ω φ : xS} {B : Nat → Int} {n x F M c k : Nat} {A A' f f' : Nat → Nat → Int}
theorem nn_ar {a l b : Nat} (h1 : l = b + 1) (h2 : a = 392 + b) : a + 1 - 392 = l := by omega
/-- the class takes a text -/
theorem C_take (h5 : τ.1 243 5 = (x : Int)) (hx : x < 8) (hk : k ≤ 24) (a1 a3 : Int) : ∃ ω, X iLedger_take 0 [(2, 243), (2, a1), (0, (k : Int)), (2, a3)] [] τ = some ((0, (x : Int)), ω) ∧ ω.2.1 = τ.2.1 ++ [(11, 5), (101, k)] ∧ ω.2.2.1 = τ.2.2.1 + 5 + k ∧ ω.2.2.2 = τ.2.2.2 ∧ (∀ a, a < nn τ → a ≠ 243 → a ≠ 244 → ω.1 a = τ.1 a) ∧ (ω.1 243 5 = ((x + 1 : Nat) : Int) ∧ ∀ i, i ≠ 5 → ω.1 243 i = τ.1 243 i) ∧ (ω.1 244 x = ((nn τ : Nat) : Int) ∧ ∀ i, i ≠ x → ω.1 244 i = τ.1 244 i) ∧ ω.1 (nn τ) 0 = τ.1 216 0 ∧ ω.1 (nn τ) 1 = a3 ∧ ω.1 (nn τ) 2 = a1 ∧ ω.1 (nn τ) 3 = 254 ∧ ω.1 (nn τ) 4 = ((nn τ + 1 : Nat) : Int) := by
  have gn := nn_ge (σ := τ)
  have gb : ¬ nn τ = 0 := by omega
  have ta : xnth (xal xE1 τ 11 5).2.1 (nn τ - 392) = some (11, 5) := xal_ty
  have na : nn (xal xE1 τ 11 5) = nn τ + 1 := xal_nn
  have i1 : xisO xE1 (xal xE1 τ 11 5) ((nn τ : Nat) : Int) 11 = true := xisO_new gn ta
  generalize hs : xs (xs (xs (xs (xal xE1 τ 11 5) (nn τ) 0 ((xal xE1 τ 11 5).1 216 0)) (nn τ) 2 a1) (nn τ) 1 a3) (nn τ) 3 254 = s4
  have s42 : s4.2 = (xal xE1 τ 11 5).2 := by rw [← hs]; rfl
  have n4 : nn s4 = nn τ + 1 := by rw [nn_eq, s42, ← na]; rfl
  have ts : xnth s4.2.1 (nn τ - 392) = some (11, 5) := by rw [s42]; exact ta
  have i2 : xisO xE1 (xs (xal xE1 τ 11 5) (nn τ) 0 ((xal xE1 τ 11 5).1 216 0)) ((nn τ : Nat) : Int) 11 = true := xisO_new (σ := xs (xal xE1 τ 11 5) (nn τ) 0 ((xal xE1 τ 11 5).1 216 0)) gn ta
  have i3 : xisO xE1 (xs (xs (xal xE1 τ 11 5) (nn τ) 0 ((xal xE1 τ 11 5).1 216 0)) (nn τ) 2 a1) ((nn τ : Nat) : Int) 11 = true := xisO_new (σ := xs (xs (xal xE1 τ 11 5) (nn τ) 0 ((xal xE1 τ 11 5).1 216 0)) (nn τ) 2 a1) gn ta
  have i4 : xisO xE1 (xs (xs (xs (xal xE1 τ 11 5) (nn τ) 0 ((xal xE1 τ 11 5).1 216 0)) (nn τ) 2 a1) (nn τ) 1 a3) ((nn τ : Nat) : Int) 11 = true := xisO_new (σ := xs (xs (xs (xal xE1 τ 11 5) (nn τ) 0 ((xal xE1 τ 11 5).1 216 0)) (nn τ) 2 a1) (nn τ) 1 a3) gn ta
  have t5 : xnth (xal xE1 s4 101 k).2.1 (nn τ - 392) = some (11, 5) := xal_to ts
  have i5 : xisO xE1 (xal xE1 s4 101 k) ((nn τ : Nat) : Int) 11 = true := xisO_new gn t5
  generalize hs5 : xs (xal xE1 s4 101 k) (nn τ) 4 ((nn τ + 1 : Nat) : Int) = s5
  have s52 : s5.2 = (xal xE1 s4 101 k).2 := by rw [← hs5]; rfl
  have i6 : xisO xE1 s5 ((nn τ : Nat) : Int) 11 = true := xisO_new gn (by rw [s52]; exact t5)
  have eo : ∀ a, a < nn τ → s5.1 a = τ.1 a := fun a ha => by
    rw [← hs5, xs_ne (by omega), xal_ne (by omega), ← hs, xs_ne (by omega), xs_ne (by omega), xs_ne (by omega), xs_ne (by omega), xal_ne (by omega)]
  have e5 : s5.1 243 5 = (x : Int) := by rw [eo 243 (by omega)]; exact h5
  have eT : ∀ i, i ≠ 4 → s5.1 (nn τ) i = s4.1 (nn τ) i := fun i hi => by rw [← hs5, xs_at, xup_ne hi, xal_ne (by omega)]
  refine ⟨xs (xs s5 244 x ((nn τ : Nat) : Int)) 243 5 ((x + 1 : Nat) : Int), ?_, ?_, ?_, ?_, fun a h1 h2 h3 => ?_, ⟨?_, fun i hi => ?_⟩, ⟨?_, fun i hi => ?_⟩, ?_, ?_, ?_, ?_, ?_⟩
  · rw [qLedger_take_0, nnx, i1, cnd_t, Int.toNat_natCast, beq_ff gb, cnd_f, cnd_t, xwr_new gn, xob_some, i2, cnd_t, xwr_new gn, xob_some, i3, cnd_t, xwr_new gn, xob_some, i4, cnd_t, xwr_new gn, xob_some, hs, if_pos (by omega), Int.toNat_natCast, i5, cnd_t, nnx, n4, xwr_new gn, xob_some, hs5, i6, Bool.true_or, cnd_t, h5, if_pos (xin_of (by omega) (by omega)), e5, xw_t (by omega), xw_prd (by omega), Int.toNat_natCast]
  · show s5.2.1 = _
    rw [s52]
    show s4.2.1 ++ [(101, k)] = _
    rw [s42]
    show (τ.2.1 ++ [(11, 5)]) ++ [(101, k)] = _
    rw [List.append_assoc]; rfl
  · show s5.2.2.1 = _
    rw [s52]
    show s4.2.2.1 + k = _
    rw [s42]; rfl
  · show s5.2.2.2 = _
    rw [s52]
    show s4.2.2.2 = _
    rw [s42]; rfl
  · rw [xs_ne h2, xs_ne h3]; exact eo a h1
  · rw [xs_at, xup_eq]
  · rw [xs_at, xup_ne hi, xs_ne (by decide), eo 243 (by omega)]
  · rw [xs_ne (by decide), xs_at, xup_eq]
  · rw [xs_ne (by decide), xs_at, xup_ne hi, eo 244 (by omega)]
  · rw [xs_ne (by omega), xs_ne (by omega), eT 0 (by decide), ← hs, xs_at, xup_ne (by decide), xs_at, xup_ne (by decide), xs_at, xup_ne (by decide), xs_at, xup_eq, xal_ne (by omega)]
  · rw [xs_ne (by omega), xs_ne (by omega), eT 1 (by decide), ← hs, xs_at, xup_ne (by decide), xs_at, xup_eq]
  · rw [xs_ne (by omega), xs_ne (by omega), eT 2 (by decide), ← hs, xs_at, xup_ne (by decide), xs_at, xup_ne (by decide), xs_at, xup_eq]
  · rw [xs_ne (by omega), xs_ne (by omega), eT 3 (by decide), ← hs, xs_at, xup_eq]
  · rw [xs_ne (by omega), xs_ne (by omega), ← hs5, xs_at, xup_eq]
/-- what terms leave alone of the rest -/
theorem pJ_tm {m m' : Nat → Nat → Int} (h : pJ m) (h1 : ∀ a, a < 392 → a ≠ 200 → a ≠ 243 → a ≠ 244 → a ≠ 297 → ¬ (299 ≤ a ∧ a ≤ 303) → a ≠ 305 → ¬ (341 ≤ a ∧ a ≤ 356) → ¬ (358 ≤ a ∧ a ≤ 362) → m' a = m a) (h3 : ∀ k, ¬ (k = 49 ∨ k = 57 ∨ k = 64 ∨ (66 ≤ k ∧ k ≤ 76) ∨ k = 82 ∨ k = 83) → m' 305 k = m 305 k) (ht : tp_J m') : pJ m' := by
  have h' := h
  obtain ⟨a1, a2, a3, a4, a5, a6, a7, a8, a9⟩ := h'
  have e : ∀ a, a < 392 → a ≠ 200 → a ≠ 243 → a ≠ 244 → a ≠ 297 → ¬ (299 ≤ a ∧ a ≤ 303) → a ≠ 305 → ¬ (341 ≤ a ∧ a ≤ 356) → ¬ (358 ≤ a ∧ a ≤ 362) → ∀ k, m' a k = m a k := fun a q1 q2 q3 q4 q5 q6 q7 q8 q9 k => by rw [h1 a q1 q2 q3 q4 q5 q6 q7 q8 q9]
  refine pJ_oth h ⟨⟨ht_J_cg (fun a _ => h1 a (by omega) (by omega) (by omega) (by omega) (by omega) (by omega) (by omega) (by omega) (by omega)) (e 229 (by decide) (by decide) (by decide) (by decide) (by decide) (by decide) (by decide) (by decide) (by decide) 17) (h3 _ (by decide)) a4, ev_J_cg (fun a _ => h1 a (by omega) (by omega) (by omega) (by omega) (by omega) (by omega) (by omega) (by omega) (by omega)) (fun k _ => e 229 (by decide) (by decide) (by decide) (by decide) (by decide) (by decide) (by decide) (by decide) (by decide) k) (fun k hk => h3 k (by omega)) (Int.le_of_eq (h3 11 (by decide)).symm) (Int.le_of_eq (h3 0 (by decide)).symm) a5, sp_J_cg (fun k _ => e 272 (by decide) (by decide) (by decide) (by decide) (by decide) (by decide) (by decide) (by decide) (by decide) k) (fun k _ _ => h3 k (by omega)) a6, ng_J_cg (fun a _ => h1 a (by omega) (by omega) (by omega) (by omega) (by omega) (by omega) (by omega) (by omega) (by omega)) (fun k _ => e 258 (by decide) (by decide) (by decide) (by decide) (by decide) (by decide) (by decide) (by decide) (by decide) k) (fun k hk => h3 k (by omega)) (Int.le_of_eq (h3 6 (by decide)).symm) a7⟩, wn_J_cg (fun a _ => h1 a (by omega) (by omega) (by omega) (by omega) (by omega) (by omega) (by omega) (by omega) (by omega)) a8, ht⟩ (fun a _ => h1 a (by omega) (by omega) (by omega) (by omega) (by omega) (by omega) (by omega) (by omega) (by omega)) (fun k hk => h3 k (by omega))
/-- a call that may make cells -/
def trOK (σ : xS) (ci : Nat) (cl : List xAV) (mi : Nat) (ml : List xAV) : Prop := ∃ v τ τ', X ci 0 cl [] σ = some (v, τ) ∧ X mi 0 ml [] τ = some (v, τ') ∧ (pJ τ'.1 ∧ te_J τ'.1 τ'.2.1 ∧ tw_J τ'.1 τ'.2.1) ∧ (∃ L, τ'.2.1 = σ.2.1 ++ L ∧ L.length ≤ 600) ∧ τ'.2.2.1 ≤ σ.2.2.1 + 12000 ∧ τ'.2.2.2 = σ.2.2.2
theorem tr_same {ci mi : Nat} {cl ml : List xAV} {v : xAV} (h1 : pJ σ.1) (h2 : te_J σ.1 σ.2.1) (h3 : tw_J σ.1 σ.2.1) (e1 : X ci 0 cl [] σ = some (v, σ)) (e2 : X mi 0 ml [] σ = some (v, σ)) : trOK σ ci cl mi ml := ⟨v, σ, σ, e1, e2, ⟨h1, h2, h3⟩, ⟨[], (List.append_nil _).symm, Nat.zero_le _⟩, Nat.le_add_right _ _, rfl⟩
theorem tq_cg2 {S j c0 : Nat} {e : Int} {m : Nat → Nat → Int} (h : tq B n A F S m e j c0 f) (hA : ∀ q, q < 7 → A' q = A q) (hf : ∀ q, q < 6 → f' q = f q) : tq B n A' F S m e j c0 f' := by
  obtain ⟨h1, h2, ⟨h3, h4⟩, h5, h6⟩ := h
  exact ⟨h1, h2, ⟨h3, fun q hq => by rw [hf q hq]; exact h4 q hq⟩, fun q hq => by rw [hA q hq]; exact h5 q hq, h6⟩
/-- old texts behind a call that took none -/
theorem te_tw_old {m m' : Nat → Nat → Int} {t t' : List (Nat × Nat)} {F0 c0 : Nat} (h : old m m' t t' F0 c0) (hF0 : m 305 57 = (F0 : Int)) (hc0 : m 305 64 = (c0 : Int)) (h57 : m 305 57 ≤ m' 305 57) (h64 : m 305 64 ≤ m' 305 64) (hJ : te_J m t) (hW : tw_J m t) (hx : ∀ x : Nat, (x : Int) < m 305 49 → m' 341 x = m 341 x ∧ m' 342 x = m 342 x ∧ m' 343 x = m 343 x ∧ m' 244 x = m 244 x) (x : Nat) (hx0 : x < (m 305 49).toNat) : (0 ≤ m' 343 x ∧ m' 343 x ≤ 1000) ∧ tw_B m' t' x := by
  have h49 := hJ.2.1
  have q := hx x (by omega)
  refine ⟨by rw [q.2.2.1]; exact (hJ.2.2.2.2 x hx0).1, tw_B_old h hF0 hc0 q h57 h64 (hW x hx0)⟩
set_option maxHeartbeats 1000000 in
theorem st_terms (hP : pJ σ.1) (hJ : te_J σ.1 σ.2.1) (hW : tw_J σ.1 σ.2.1) (hdp : 1210 ≤ xdp σ) (a1 : Int) : trOK σ iC_terms [(2, 200), (0, a1), (9, 0)] iM_terms [(2, 305), (0, a1), (9, 0)] := by
  obtain ⟨⟨p1, p2⟩, p3, p4, p5⟩ := hP.2.2.2.2.2.2.2.2
  obtain ⟨j1, j2, j3, j4, j5⟩ := hJ
  have hJ' : te_J σ.1 σ.2.1 := ⟨j1, j2, j3, j4, j5⟩
  by_cases b1 : a1 < 0
  · exact tr_same hP hJ' hW (v := (0, -2)) (by rw [qC_terms_0, if_pos b1]) (by rw [qM_terms_0, if_pos b1])
  by_cases b2 : σ.1 305 66 < a1
  · exact tr_same hP hJ' hW (v := (0, -2)) (by rw [qC_terms_0, if_neg b1, p1, if_pos b2]) (by rw [qM_terms_0, if_neg b1, if_pos b2])
  by_cases b3 : σ.1 305 49 = 8
  · exact tr_same hP hJ' hW (v := (0, -3)) (by rw [qC_terms_0, if_neg b1, p1, if_neg b2, j1, if_neg (by omega)]) (by rw [qM_terms_0, if_neg b1, if_neg b2, if_pos b3])
  obtain ⟨n, hn⟩ : ∃ n : Nat, a1 = (n : Int) := ⟨a1.toNat, by omega⟩
  subst hn
  obtain ⟨x, hx⟩ : ∃ x : Nat, σ.1 305 49 = (x : Int) := ⟨(σ.1 305 49).toNat, by omega⟩
  obtain ⟨F, hF⟩ : ∃ F : Nat, σ.1 305 57 = (F : Int) := ⟨(σ.1 305 57).toNat, by omega⟩
  obtain ⟨c, hc⟩ : ∃ c : Nat, σ.1 305 64 = (c : Int) := ⟨(σ.1 305 64).toNat, by omega⟩
  have hn4 : n ≤ 400 := by omega
  have x8 : x < 8 := by omega
  have hF1 : F + 24 ≤ 199 := by omega
  have hc1 : c ≤ 2800 := by omega
  obtain ⟨σ1, C, s1, s2, s3, s4, s5⟩ := C_start (B := fun i => σ.1 357 i % 256) (σ := xs σ 200 9 0) hn4 (fun i hi => by
    have := (p5 i (by omega)).1
    rw [xs_ne (by decide), this]
    show σ.1 357 i % 256 % 65536 = σ.1 357 i % 256 ∧ 0 ≤ σ.1 357 i % 256 ∧ σ.1 357 i % 256 ≤ 255
    omega)
  generalize hB : (fun i => σ.1 357 i % 256) = B at s2
  have hBi : ∀ i, B i = σ.1 357 i % 256 := fun i => by rw [← hB]
  have hB2 : ∀ i, 0 ≤ B i ∧ B i ≤ 255 := fun i => by rw [hBi]; omega
  have eC : X iC_terms 0 [(2, 200), (0, (n : Int)), (9, 0)] [] σ = (X iReader_readAll1 31 [(2, 297), (2, 304), (0, (n : Int)), (0, 0), (9, 0)] [] σ1).bind fun q1 => X iC_terms 45 [(2, 200), (0, (n : Int)), (9, 0)] [q1.1] q1.2 := by
    rw [qC_terms_0, if_neg b1, p1, if_neg b2, j1, if_pos (by omega), s1]
  have o1 : ∀ a, a ≠ 297 → ¬ (299 ≤ a ∧ a ≤ 303) → a ≠ 200 → σ1.1 a = σ.1 a := fun a h1 h2 h3 => by rw [s5 a h1 h2, xs_ne h3]
  have s4' : σ1.2 = σ.2 := s4
  have nn1 : nn σ1 = nn σ := by rw [nn_eq, nn_eq, s4']
  have hC4 : C ≤ 400 := s2.1.2.1.1
  have LP := LOOP (c0 := c) (σ0 := σ1) hF1 (by show 400 ≤ σ1.2.2.2.1; rw [s4']; show 400 ≤ xdp σ; omega) (by omega) (Nat.le_refl c) (C + 1) σ1 (fun q => σ.1 (344 + q)) (fun q => σ.1 (351 + q)) 0 0 c (fun _ => 0) 0 0 (by omega) (lps_0 s2 s3 _ _ F c _) (by omega)
  -- the reference's start, from any memory that holds its cells
  have MS : ∀ ω : xS, (∀ a, 306 ≤ a → a ≤ 391 → ω.1 a = σ.1 a) → ω.1 305 = σ.1 305 → ∃ τ, X iM_terms 0 [(2, 305), (0, (n : Int)), (9, 0)] [] ω = X iM_terms 69 [(2, 305), (0, (n : Int)), (0, (c : Int))] [] τ ∧ tq B n (fun q => σ.1 (344 + q)) F (F + 0) τ.1 (-1) 0 c (fun q => σ.1 (351 + q)) ∧ τ.2 = ω.2 ∧ (∀ a, a ≠ 305 → τ.1 a = ω.1 a) ∧ (∀ k, ¬ (66 ≤ k ∧ k ≤ 76) → τ.1 305 k = ω.1 305 k) ∧ τ.1 305 66 = 0 := fun ω h1 h2 => by
    obtain ⟨τ, k1, k2, k3, k4, k5, k6⟩ := M_start (B := B) (τ := ω) (F := F) (c := c) hn4 (fun i _ => by rw [h1 357 (by decide) (by decide)]; exact hBi i) hB2 (by rw [h2]; omega) (by rw [h2]; exact b3) (by rw [h2]; exact hF) (by omega) (by rw [h2]; exact hc)
    exact ⟨τ, k1, tq_cg2 k2 (fun q hq => (h1 (344 + q) (by omega) (by omega)).symm) (fun q hq => (h1 (351 + q) (by omega) (by omega)).symm), k3, k4, k5, k6⟩
  rcases LP with ⟨υ, A', f', M, j', c', cs, k, q, u1, u2, u3, u4, u5, u6, u7⟩ | ⟨υ, k, q, w, u1, u2, u3, u4, u5⟩
  · obtain ⟨⟨e14, e11, e13⟩, gyh, ⟨kb, qb, cb, tb⟩, hcs⟩ := lps_end u2 hn4
    obtain ⟨⟨L1, y1, y2⟩, y3, y4, y5, y6⟩ := gyh
    have y1 : υ.2.1 = σ.2.1 ++ L1 := by rw [y1, s4']
    have y3 : υ.2.2.1 ≤ σ.2.2.1 + q := by rw [s4'] at y3; exact y3
    have y4 : υ.2.2.2 = σ.2.2.2 := by rw [y4, s4']
    have oυ : ∀ a, a ≠ 297 → ¬ (299 ≤ a ∧ a ≤ 303) → a ≠ 200 → a < nn σ → υ.1 a = σ.1 a := fun a h1 h2 h3 h4 => by rw [y5 a h1 (by rw [nn1]; exact h4), o1 a h1 h2 h3]
    have gn := nn_ge (σ := σ)
    have nnυ : nn σ ≤ nn υ := by rw [nn_eq, nn_eq, y1, List.length_append]; omega
    generalize hS1 : xs υ 200 10 (υ.1 297 14) = t1
    have t12 : t1.2 = υ.2 := by rw [← hS1]; rfl
    have ot1 : ∀ a, a ≠ 200 → t1.1 a = υ.1 a := fun a ha => by rw [← hS1, xs_ne ha]
    have nd392 : ∀ {b : Nat} {p : Nat × Nat}, xnth υ.2.1 (b - 392) = some p → 392 ≤ b → t1.1 b = υ.1 b := fun _ h => ot1 _ (by omega)
    have lift : ∀ (m' : Nat → Nat → Int) (t' : List (Nat × Nat)), (∀ b p, 392 ≤ b → xnth υ.2.1 (b - 392) = some p → m' b = υ.1 b) → (∀ i p, xnth υ.2.1 i = some p → xnth t' i = some p) → ∀ j, j < M → (∃ ah, stN A' f' m' t' F (F + j) (cs j) ah) ∧ m' (cs j) 7 = cn cs M (j + 1) := fun m' t' h1 h2 j hj => by
      obtain ⟨d1, d2, d3, ah, d4⟩ := hcs j hj
      have eb : ∀ b, nd υ.2.1 b → m' b = υ.1 b := fun b hb => h1 b _ hb.1 hb.2
      have oo : old υ.1 m' υ.2.1 t' 0 0 := ⟨h1, h2, fun q r _ hr => absurd hr (Nat.not_lt_zero r), fun q r _ hr => absurd hr (Nat.not_lt_zero r)⟩
      exact ⟨⟨ah, stN_cg (A := A') (A' := A') (f := f') (f' := f') (c := (A' 5 (F + j)).toNat) (fun _ _ _ _ _ => rfl) (Nat.le_add_right _ _) (fun _ _ _ => rfl) (by omega) (fun b hb => (old_nd oo hb).1) (fun x w => old_nam oo) (fun b _ _ hb => eb b hb) (fun q _ => by rw [eb _ d1]) d4⟩, by rw [eb _ d1]; exact d2⟩
    have hsM : ∀ j, j < M → stM A' f' F (F + j) := fun j hj => by
      obtain ⟨d1, d2, d3, ah, d4⟩ := hcs j hj
      exact stM_of d4
    have hst1 := lift t1.1 t1.2.1 (fun b p h1 h2 => nd392 h2 h1) (fun i p h => by rw [t12]; exact h)
    have hd1 : 1200 ≤ xdp t1 := by
      show 1200 ≤ t1.2.2.2.1
      rw [t12, y4]
      show 1200 ≤ xdp σ
      omega
    obtain ⟨t2, s, v1, v2, v3, ⟨⟨L2, v4, v5⟩, v6, v7, v8⟩⟩ := C_textOf hst1 hsM (by omega) hd1
    have nn2 : nn t1 ≤ nn t2 := by rw [nn_eq, nn_eq, v4, List.length_append]; omega
    have nnt1 : nn t1 = nn υ := by rw [nn_eq, nn_eq, t12]
    have ot2 : ∀ a, a ≠ 297 → ¬ (299 ≤ a ∧ a ≤ 303) → a ≠ 200 → a < nn σ → t2.1 a = σ.1 a := fun a h1 h2 h3 h4 => by rw [v8 a (by omega), ot1 a h3, oυ a h1 h2 h3 h4]
    have h5x : t2.1 243 5 = (x : Int) := by rw [ot2 243 (by decide) (by decide) (by decide) (by omega), j1, hx]
    have kl : lkc (A' 0) F M ≤ 24 := Nat.le_trans lkc_le (by omega)
    obtain ⟨ω, w1, w2, w3, w4, w5, ⟨w6, w6'⟩, ⟨w7, w7'⟩, w8, w9, w10, w11, w12⟩ := C_take (τ := t2) h5x x8 kl (υ.1 297 11) (s : Int)
    have oω : ∀ a, a ≠ 297 → ¬ (299 ≤ a ∧ a ≤ 303) → a ≠ 200 → a ≠ 243 → a ≠ 244 → a < nn σ → ω.1 a = σ.1 a := fun a h1 h2 h3 h4 h5 h6 => by rw [w5 a (by omega) h4 h5, ot2 a h1 h2 h3 h6]
    obtain ⟨τ1, m1, m2, m3, m4, m5, m6⟩ := MS ω (fun a h1 h2 => oω a (by omega) (by omega) (by omega) (by omega) (by omega) (by omega)) (oω 305 (by decide) (by decide) (by decide) (by decide) (by decide) (by omega))
    obtain ⟨τ2, n1, n2, n3⟩ := u7 τ1 m2
    have h49 : τ2.1 305 49 = (x : Int) := by rw [n3.2.2.1 49 (by unfold msc; omega) (by decide), m5 49 (by decide), oω 305 (by decide) (by decide) (by decide) (by decide) (by decide) (by omega), hx]
    have fin := M_end n2 u3 h49 x8 (0, (n : Int)) (c : Int)
    have hMM : F + M - F = M := by omega
    rw [hMM] at fin
    generalize hφ : xs (xs (xs (xs τ2 341 x (F : Int)) 342 x (M : Int)) 343 x (τ2.1 305 0)) 305 49 ((x + 1 : Nat) : Int) = φ at fin
    have φ2 : φ.2 = ω.2 := by rw [← hφ]; show τ2.2 = _; rw [n3.1, m3]
    have oφ : ∀ a, a ≠ 305 → ¬ (341 ≤ a ∧ a ≤ 356) → ¬ (358 ≤ a ∧ a ≤ 362) → φ.1 a = ω.1 a := fun a h1 h2 h3 => by
      rw [← hφ, xs_ne h1, xs_ne (by omega), xs_ne (by omega), xs_ne (by omega), n3.2.1 a h1 (by omega) h3, m4 a h1]
    have φτ : ∀ a, a ≠ 305 → a ≠ 341 → a ≠ 342 → a ≠ 343 → φ.1 a = τ2.1 a := fun a h1 h2 h3 h4 => by rw [← hφ, xs_ne h1, xs_ne h4, xs_ne h3, xs_ne h2]
    have φ5 : ∀ k, k ≠ 49 → φ.1 305 k = τ2.1 305 k := fun k hk => by rw [← hφ, xs_at, xup_ne hk, xs_ne (by decide), xs_ne (by decide), xs_ne (by decide)]
    have e5k : ∀ k, ¬ (k = 49 ∨ k = 57 ∨ k = 64 ∨ (66 ≤ k ∧ k ≤ 76) ∨ k = 82 ∨ k = 83) → φ.1 305 k = σ.1 305 k := fun k hk => by
      rw [φ5 k (by omega), n3.2.2.1 k (fun z => by unfold msc at z; omega) (by omega), m5 k (by omega), oω 305 (by decide) (by decide) (by decide) (by decide) (by decide) (by omega)]
    have φA : ∀ q, q < 7 → φ.1 (344 + q) = A' q := fun q hq => by rw [φτ _ (by omega) (by omega) (by omega) (by omega)]; exact n2.2.2.2.1 q hq
    have φf : ∀ q, q < 6 → φ.1 (351 + q) = f' q := fun q hq => by rw [φτ _ (by omega) (by omega) (by omega) (by omega)]; exact n2.2.2.1.2 q hq
    have φ57 : φ.1 305 57 = ((F + M : Nat) : Int) := by rw [φ5 57 (by decide)]; exact n2.2.2.2.2.2.1
    have φ64 : φ.1 305 64 = (c' : Int) := by rw [φ5 64 (by decide)]; exact n2.2.2.1.1
    have φ49 : φ.1 305 49 = ((x + 1 : Nat) : Int) := by rw [← hφ, xs_at, xup_eq]
    have φ66 : φ.1 305 66 = 0 := by rw [φ5 66 (by decide), n3.2.2.1 66 (by unfold msc; omega) (by decide)]; exact m6
    have φ67 : φ.1 305 67 = -1 := by
      rw [φ5 67 (by decide)]
      rcases n2.2.1 with z | z
      · exact z.2.2
      · exact absurd z.1 (by decide)
    have φ341 : ∀ i, φ.1 341 i = if i = x then (F : Int) else σ.1 341 i := fun i => by
      rw [← hφ, xs_ne (by decide), xs_ne (by decide), xs_ne (by decide), xs_at, xup_at, n3.2.1 341 (by decide) (by decide) (by decide), m4 341 (by decide), oω 341 (by decide) (by decide) (by decide) (by decide) (by decide) (by omega)]
    have φ342 : ∀ i, φ.1 342 i = if i = x then (M : Int) else σ.1 342 i := fun i => by
      rw [← hφ, xs_ne (by decide), xs_ne (by decide), xs_at, xup_at, xs_ne (by decide), n3.2.1 342 (by decide) (by decide) (by decide), m4 342 (by decide), oω 342 (by decide) (by decide) (by decide) (by decide) (by decide) (by omega)]
    have e00 : τ2.1 305 0 = σ.1 305 0 := by rw [n3.2.2.1 0 (by unfold msc; omega) (by decide), m5 0 (by decide), oω 305 (by decide) (by decide) (by decide) (by decide) (by decide) (by omega)]
    have φ343 : ∀ i, φ.1 343 i = if i = x then σ.1 305 0 else σ.1 343 i := fun i => by
      rw [← hφ, xs_ne (by decide), xs_at, xup_at, e00, xs_ne (by decide), xs_ne (by decide), n3.2.1 343 (by decide) (by decide) (by decide), m4 343 (by decide), oω 343 (by decide) (by decide) (by decide) (by decide) (by decide) (by omega)]
    have φ244 : ∀ i, i ≠ x → φ.1 244 i = σ.1 244 i := fun i hi => by rw [oφ 244 (by decide) (by decide) (by decide), w7' i hi, ot2 244 (by decide) (by decide) (by decide) (by omega)]
    have tall : φ.2.1 = σ.2.1 ++ (L1 ++ (L2 ++ [(11, 5), (101, lkc (A' 0) F M)])) := by
      rw [φ2, w2, v4, t12, y1, List.append_assoc, List.append_assoc]
    have tυ : ∀ i p, xnth υ.2.1 i = some p → xnth φ.2.1 i = some p := fun i p h => by
      rw [tall, ← List.append_assoc, ← y1]
      exact xnth_apl _ h
    have cυ : ∀ b p, 392 ≤ b → xnth υ.2.1 (b - 392) = some p → φ.1 b = υ.1 b := fun b p h1 h2 => by
      have hb := ty_lt (σ := υ) h1 h2
      rw [oφ b (by omega) (by omega) (by omega), w5 b (by omega) (by omega) (by omega), v8 b (by omega), ot1 b (by omega)]
    have t2φ : ∀ b, b < nn t2 → 392 ≤ b → φ.1 b = t2.1 b := fun b h1 h2 => by rw [oφ b (by omega) (by omega) (by omega), w5 b h1 (by omega) (by omega)]
    have O : old σ.1 φ.1 σ.2.1 φ.2.1 F c := by
      refine ⟨fun b p h1 h2 => ?_, fun i p h => ?_, fun q r hq hr => ?_, fun q r hq hr => ?_⟩
      · have hb := ty_lt (σ := σ) h1 h2
        rw [oφ b (by omega) (by omega) (by omega), oω b (by omega) (by omega) (by omega) (by omega) (by omega) hb]
      · rw [tall]; exact xnth_apl _ h
      · rw [φτ _ (by omega) (by omega) (by omega) (by omega), n3.2.2.2.2 q r hq hr, m4 _ (by omega), oω _ (by omega) (by omega) (by omega) (by omega) (by omega) (by omega)]
      · rw [φτ _ (by omega) (by omega) (by omega) (by omega), n3.2.2.2.1 q r hq hr, m4 _ (by omega), oω _ (by omega) (by omega) (by omega) (by omega) (by omega) (by omega)]
    have bk0 := hP.2.2.1.2.2.2.1
    have OLD := te_tw_old O hF hc (by rw [hF, φ57]; omega) (by
      rw [hc, φ64]
      have := n2
      have hcc : c ≤ c' := u2.2.2.2.1.2.2.1
      omega) hJ' hW (fun y hy => ⟨by rw [φ341, if_neg (by omega)], by rw [φ342, if_neg (by omega)], by rw [φ343, if_neg (by omega)], φ244 y (by omega)⟩)
    -- the new text
    have hstφ := lift φ.1 φ.2.1 cυ tυ
    obtain ⟨z1, z2, z3⟩ := txa_f (A := A') (A' := rwA φ.1) (f := f') (f' := rws φ.1) (F := F) (c := c') M hsM (fun r y hr _ _ => by
      show φ.1 (344 + r) y = _
      rw [φA r hr]) (fun q r hq _ => by
      show φ.1 (351 + q) r = _
      rw [φf q hq]) (fun j hj _ => (hcs j hj).2.2.1)
    have nnT := nn_ge (σ := t2)
    have eTx : φ.1 (nn t2) = ω.1 (nn t2) := oφ _ (by omega) (by omega) (by omega)
    have e344 : φ.1 344 = A' 0 := φA 0 (by decide)
    have e350 : φ.1 350 = A' 6 := φA 6 (by decide)
    have e349 : φ.1 349 = A' 5 := φA 5 (by decide)
    have tyT : xnth φ.2.1 (nn t2 - 392) = some (11, 5) ∧ xnth φ.2.1 (nn t2 + 1 - 392) = some (101, lkc (A' 0) F M) := by
      have e1 : φ.2.1 = (t2.2.1 ++ [(11, 5)]) ++ [(101, lkc (A' 0) F M)] := by rw [φ2, w2, List.append_assoc]; rfl
      have e2 : nn t2 - 392 = t2.2.1.length := by rw [nn_eq]; omega
      have e3 : nn t2 + 1 - 392 = (t2.2.1 ++ [((11 : Nat), (5 : Nat))]).length := nn_ar List.length_append nn_eq
      rw [e1]
      constructor
      · rw [e2]; exact xnth_ap xnth_app
      · rw [e3]; exact xnth_app
    have NEW : tw_B φ.1 φ.2.1 x := by
      refine ⟨F, M, nn t2, nn t2 + 1, cs, ⟨⟨by rw [φ341, if_pos rfl], by rw [φ342, if_pos rfl], u4, by rw [φ57]; exact Int.le_refl _⟩, by rw [oφ 244 (by decide) (by decide) (by decide)]; exact w7, ?_, ⟨⟨nnT, tyT.1⟩, by rw [eTx]; exact w11, by rw [eTx]; exact w12, ⟨by omega, by rw [e344]; exact tyT.2⟩, by rw [e344]; exact kl⟩, by rw [eTx, w10]; exact e11, fun j hj => ?_⟩, fun j hj => ⟨z3 j hj, fun h0 => ?_, fun _ => ?_⟩, ⟨s, by rw [eTx]; exact w9, ?_⟩, by rw [z1]; exact v3, by rw [z2]; exact tb⟩
      · rw [eTx, w8, φ343, if_pos rfl, ot2 216 (by decide) (by decide) (by decide) (by omega)]
        exact hP.2.2.1.2.1.2.2.2.2.1
      · obtain ⟨⟨ah, d1⟩, d2⟩ := hstφ j hj
        exact ⟨te_N_of d1 φA φf, d2⟩
      · obtain ⟨⟨ah, d1⟩, d2⟩ := hstφ j hj
        rw [e344] at h0
        rw [e350]
        exact nmk_st d1 h0
      · rw [e349, φ64]; exact (hcs j hj).2.2.1
      · rw [z1]
        obtain ⟨g1, g2, g3, v, g4, g5, g6, g7⟩ := v2
        have tt : ∀ i p, xnth t2.2.1 i = some p → xnth φ.2.1 i = some p := fun i p h => by rw [φ2, w2]; exact xnth_apl _ h
        have es := t2φ s (ty_lt g1 g2) g1
        have ev := t2φ v (ty_lt g5 g6) g5
        exact ⟨g1, tt _ _ g2, by rw [es]; exact g3, v, by rw [es]; exact g4, g5, tt _ _ g6, by rw [ev]; exact g7⟩
    have ALL : ∀ y, y < x + 1 → (0 ≤ φ.1 343 y ∧ φ.1 343 y ≤ 1000) ∧ tw_B φ.1 φ.2.1 y := fun y hy => by
      by_cases q : y < x
      · exact OLD y (by omega)
      · have : y = x := by omega
        subst this
        exact ⟨by rw [φ343, if_pos rfl]; exact bk0, NEW⟩
    refine ⟨(0, (x : Int)), ω, φ, ?_, ?_, ⟨?_, ?_, ?_⟩, ⟨_, tall, ?_⟩, ?_, ?_⟩
    · have u1 : X iReader_readAll1 31 [(2, 297), (2, 304), (0, (n : Int)), (0, 0), (9, 0)] [] σ1 = some ((2, υ.1 297 11), υ) := u1 _ _ _
      have v1 : X iNode_textOf 0 [(2, υ.1 297 11), (9, 0), (9, 0)] [] t1 = some ((2, (s : Int)), t2) := by rw [e11]; exact v1
      rw [eC, u1, Option.bind_some, qC_terms_45, if_pos e14, hS1, v1, Option.bind_some, qC_terms_81, e13, w1, Option.bind_some, qC_terms_84]
    · rw [m1, n1, fin]
    · refine pJ_tm hP (fun a h1 h2 h3 h4 h5 h6 h7 h8 h9 => ?_) e5k ⟨⟨?_, ?_⟩, ?_, ?_, fun i hi => ?_⟩
      · rw [oφ a h7 h8 h9, oω a h5 h6 h2 h3 h4 (by omega)]
      · rw [oφ 200 (by decide) (by decide) (by decide), w5 200 (by omega) (by decide) (by decide), v8 200 (by omega), φ66, ← hS1, xs_at, xup_ne (by decide), y5 200 (by decide) (by omega), s5 200 (by decide) (by decide), xs_at, xup_eq]
      · rw [oφ 200 (by decide) (by decide) (by decide), w5 200 (by omega) (by decide) (by decide), v8 200 (by omega), φ67, ← hS1, xs_at, xup_eq]; exact e14
      · rw [φ66]; decide
      · rw [φ67]; decide
      · rw [oφ 304 (by decide) (by decide) (by decide), oφ 357 (by decide) (by decide) (by decide), oω 304 (by decide) (by decide) (by decide) (by decide) (by decide) (by omega), oω 357 (by decide) (by decide) (by decide) (by decide) (by decide) (by omega)]
        exact p5 i hi
    · refine ⟨by rw [oφ 243 (by decide) (by decide) (by decide), w6, φ49], by rw [φ49]; omega, by rw [φ57, φ49]; omega, by rw [φ64, φ49]; omega, fun y hy => ?_⟩
      rw [φ49, Int.toNat_natCast] at hy
      obtain ⟨g1, g2⟩ := ALL y hy
      exact ⟨g1, te_T_of g2⟩
    · intro y hy
      rw [φ49, Int.toNat_natCast] at hy
      exact (ALL y hy).2
    · rw [List.length_append, List.length_append]
      show L1.length + (L2.length + 2) ≤ 600
      omega
    · rw [φ2, w3]
      have : t1.2.2.1 ≤ σ.2.2.1 + q := by rw [t12]; exact y3
      omega
    · rw [φ2, w4, v7, t12, y4]
  · obtain ⟨⟨L1, y1, y2⟩, y3, y4, y5, y6⟩ := u3
    have y1 : υ.2.1 = σ.2.1 ++ L1 := by rw [y1, s4']
    have y3 : υ.2.2.1 ≤ σ.2.2.1 + q := by rw [s4'] at y3; exact y3
    have y4 : υ.2.2.2 = σ.2.2.2 := by rw [y4, s4']
    have oυ : ∀ a, a ≠ 297 → ¬ (299 ≤ a ∧ a ≤ 303) → a ≠ 200 → a < nn σ → υ.1 a = σ.1 a := fun a h1 h2 h3 h4 => by rw [y5 a h1 (by rw [nn1]; exact h4), o1 a h1 h2 h3]
    have gn := nn_ge (σ := σ)
    have e14 : υ.1 297 14 = (t_s B n w : Int) := u2
    have tn : t_s B n w ≤ 400 := by
      obtain ⟨g1, g2, g3, g4⟩ := t_s_le (B := B) (n := n) w
      omega
    generalize hω : xs υ 200 10 (υ.1 297 14) = ω
    have ω2 : ω.2 = υ.2 := by rw [← hω]; rfl
    have oω : ∀ a, a ≠ 297 → ¬ (299 ≤ a ∧ a ≤ 303) → a ≠ 200 → a < nn σ → ω.1 a = σ.1 a := fun a h1 h2 h3 h4 => by rw [← hω, xs_ne h3, oυ a h1 h2 h3 h4]
    obtain ⟨τ1, m1, m2, m3, m4, m5, m6⟩ := MS ω (fun a h1 h2 => oω a (by omega) (by omega) (by omega) (by omega)) (oω 305 (by decide) (by decide) (by decide) (by omega))
    obtain ⟨τ2, S', n1, n2, n3⟩ := u5 τ1 m2
    have fin := M_badend n2 (0, (n : Int)) (c : Int)
    generalize hφ : xs (xs τ2 305 57 (F : Int)) 305 64 (c : Int) = φ at fin
    have φ2 : φ.2 = ω.2 := by rw [← hφ]; show τ2.2 = _; rw [n3.1, m3]
    have φτ : ∀ a, a ≠ 305 → φ.1 a = τ2.1 a := fun a h1 => by rw [← hφ, xs_ne h1, xs_ne h1]
    have oφ : ∀ a, a ≠ 305 → ¬ (344 ≤ a ∧ a ≤ 356) → ¬ (358 ≤ a ∧ a ≤ 362) → φ.1 a = ω.1 a := fun a h1 h2 h3 => by
      rw [φτ a h1, n3.2.1 a h1 h2 h3, m4 a h1]
    have φ5 : ∀ k, k ≠ 57 → k ≠ 64 → φ.1 305 k = τ2.1 305 k := fun k h1 h2 => by rw [← hφ, xs_at, xup_ne h2, xs_at, xup_ne h1]
    have e5k : ∀ k, ¬ (k = 57 ∨ k = 64 ∨ (66 ≤ k ∧ k ≤ 76) ∨ k = 82 ∨ k = 83) → φ.1 305 k = σ.1 305 k := fun k hk => by
      rw [φ5 k (by omega) (by omega), n3.2.2.1 k (fun z => by unfold msc at z; omega) (by omega), m5 k (by omega), oω 305 (by decide) (by decide) (by decide) (by omega)]
    have φ57 : φ.1 305 57 = (F : Int) := by rw [← hφ, xs_at, xup_ne (by decide), xs_at, xup_eq]
    have φ64 : φ.1 305 64 = (c : Int) := by rw [← hφ, xs_at, xup_eq]
    have φ49 : φ.1 305 49 = σ.1 305 49 := e5k 49 (by decide)
    have φ66 : φ.1 305 66 = 0 := by rw [φ5 66 (by decide) (by decide), n3.2.2.1 66 (by unfold msc; omega) (by decide)]; exact m6
    have φ67 : φ.1 305 67 = (t_s B n w : Int) := by
      rw [φ5 67 (by decide) (by decide)]
      rcases n2.2.1.1 with z | z
      · have := z.1; omega
      · exact z.2.2
    have tall : φ.2.1 = σ.2.1 ++ L1 := by rw [φ2, ω2, y1]
    have O : old σ.1 φ.1 σ.2.1 φ.2.1 F c := by
      refine ⟨fun b p h1 h2 => ?_, fun i p h => ?_, fun q r hq hr => ?_, fun q r hq hr => ?_⟩
      · have hb := ty_lt (σ := σ) h1 h2
        rw [oφ b (by omega) (by omega) (by omega), oω b (by omega) (by omega) (by omega) hb]
      · rw [tall]; exact xnth_apl _ h
      · rw [φτ _ (by omega), n3.2.2.2.2 q r hq hr, m4 _ (by omega), oω _ (by omega) (by omega) (by omega) (by omega)]
      · rw [φτ _ (by omega), n3.2.2.2.1 q r hq hr, m4 _ (by omega), oω _ (by omega) (by omega) (by omega) (by omega)]
    have o4 : ∀ a, a = 341 ∨ a = 342 ∨ a = 343 ∨ a = 244 ∨ a = 243 → φ.1 a = σ.1 a := fun a ha => by
      rw [oφ a (by omega) (by omega) (by omega), oω a (by omega) (by omega) (by omega) (by omega)]
    have OLD := te_tw_old O hF hc (by rw [hF, φ57]; exact Int.le_refl _) (by rw [hc, φ64]; exact Int.le_refl _) hJ' hW (fun y _ => by
      rw [o4 341 (by decide), o4 342 (by decide), o4 343 (by decide), o4 244 (by decide)]
      exact ⟨rfl, rfl, rfl, rfl⟩)
    refine ⟨(0, -1), ω, φ, ?_, ?_, ⟨?_, ?_, ?_⟩, ⟨_, tall, by omega⟩, ?_, ?_⟩
    · have u1 : X iReader_readAll1 31 [(2, 297), (2, 304), (0, (n : Int)), (0, 0), (9, 0)] [] σ1 = some ((2, 0), υ) := u1 _ _ _
      rw [eC, u1, Option.bind_some, qC_terms_45, if_neg (by rw [e14]; omega), hω]
    · rw [m1, n1, fin]
    · refine pJ_tm hP (fun a h1 h2 h3 h4 h5 h6 h7 h8 h9 => ?_) (fun k hk => e5k k (by omega)) ⟨⟨?_, ?_⟩, ?_, ?_, fun i hi => ?_⟩
      · rw [oφ a h7 (by omega) h9, oω a h5 h6 h2 (by omega)]
      · rw [oφ 200 (by decide) (by decide) (by decide), φ66, ← hω, xs_at, xup_ne (by decide), y5 200 (by decide) (by omega), s5 200 (by decide) (by decide), xs_at, xup_eq]
      · rw [oφ 200 (by decide) (by decide) (by decide), φ67, ← hω, xs_at, xup_eq]; exact e14
      · rw [φ66]; decide
      · rw [φ67]; omega
      · rw [oφ 304 (by decide) (by decide) (by decide), oφ 357 (by decide) (by decide) (by decide), oω 304 (by decide) (by decide) (by decide) (by omega), oω 357 (by decide) (by decide) (by decide) (by omega)]
        exact p5 i hi
    · refine ⟨by rw [o4 243 (by decide), φ49]; exact j1, by rw [φ49]; exact j2, by rw [φ57, φ49, ← hF]; exact j3, by rw [φ64, φ49, ← hc]; exact j4, fun y hy => ?_⟩
      rw [φ49] at hy
      obtain ⟨g1, g2⟩ := OLD y hy
      exact ⟨g1, te_T_of g2⟩
    · intro y hy
      rw [φ49] at hy
      exact (OLD y hy).2
    · rw [φ2, ω2]; omega
    · rw [φ2, ω2, y4]
/-- written: class and reference alike -/
theorem rd_written (hP : pJ σ.1) (hJ : te_J σ.1 σ.2.1) (hW : tw_J σ.1 σ.2.1) (a1 a2 : Int) : rdOK σ iC_written [(2, 200), (0, a1), (0, a2), (9, 0)] iM_written [(2, 305), (0, a1), (0, a2), (9, 0)] := by
  obtain ⟨j1, j2, j3, j4, j5⟩ := hJ
  by_cases b1 : a1 < 0
  · exact rd_same (v := (0, -1)) (by rw [qC_written_0, if_pos b1]) (by rw [qM_written_0, if_pos b1])
  have e5 : xw (σ.1 243 5 - 1) = σ.1 243 5 - 1 := xw_id (by omega) (by omega)
  by_cases b2 : σ.1 305 49 ≤ a1
  · exact rd_same (v := (0, -1)) (by rw [qC_written_0, if_neg b1, e5, j1, if_pos (by clear e5; omega)]) (by rw [qM_written_0, if_neg b1, if_neg (by clear e5; omega)])
  obtain ⟨t, ht⟩ : ∃ t : Nat, a1 = (t : Int) := ⟨a1.toNat, by clear e5; omega⟩
  subst ht
  obtain ⟨F, M, T, N, cs, ⟨⟨f1, f2, f3, f4⟩, f5, f6, ⟨⟨g1, g2⟩, _⟩, f8, f9⟩, hs, ⟨s, s1, s2⟩, s3, s4⟩ := hW t (by clear e5; omega)
  have t8 : t < 8 := by clear e5; omega
  have hFM : F + M ≤ 199 := by clear e5; omega
  obtain ⟨τ, m1, m2⟩ := M_written (σ := σ) (t := t) (F := F) (M := M) (A := rwA σ.1) (f := rws σ.1) (fun _ _ => rfl) (fun _ _ => rfl) ⟨t8, f1⟩ f2 hFM (fun j hj => (hs j hj).1) (fun y y1 y2 h0 => by
    have := (hs (y - F) (by clear e5; omega)).2.1
    rw [show F + (y - F) = y by clear e5; omega] at this
    exact this h0) (by clear e5; omega) (by clear e5; omega) s3 a2
  obtain ⟨h1, h2, h3, v, h4, h5, h6, h7⟩ := s2
  have iS : xisO xE1 σ (s : Int) 0 = true := xisO_new h1 h2
  have hl := txa_len M fun j hj => (hs j hj).1
  have eC : X iC_written 0 [(2, 200), (0, (t : Int)), (0, a2), (9, 0)] [] σ = some ((0, wva (txa (rwA σ.1) (rws σ.1) F M) a2), σ) := by
    generalize txa (rwA σ.1) (rws σ.1) F M = L at h6 h7 hl s3
    have z2 : xna 2 0 = 0 := rfl
    have esh : xshr (((L.length : Nat) : Int)) 0 = ((L.length : Nat) : Int) := xshr_0 (by clear e5; omega)
    have el : xw (((L.length : Nat) : Int) - 1) = ((L.length : Nat) : Int) - 1 := xw_id (by clear e5 esh; omega) (by clear e5 esh; omega)
    rw [qC_written_0, if_neg b1, e5, j1, if_neg (by clear e5 el esh; omega), if_pos (xin_of (by clear e5 el esh; omega) (by clear e5 el esh; omega)), Int.toNat_natCast, f5, xfld_new 1 g1 g2, xob_some, s1]
    clear e5
    unfold wva
    by_cases a1 : a2 = -1
    · rw [if_pos a1, if_pos a1, iS, cnd_t, xfld_new 0 h1 h2, xob_some, h4, xlen_new (t := 2) h5 h6 (by decide), xob_some, cnd_t, xfld_new 1 h1 h2, xob_some, h3, z2, z2, if_pos rfl, esh]
    rw [if_neg a1, if_neg a1, iS, cnd_t, xfld_new 0 h1 h2, xob_some, h4, xlen_new (t := 2) h5 h6 (by decide), xob_some, cnd_t, xfld_new 1 h1 h2, xob_some, h3, z2, z2, if_pos rfl, esh, el]
    clear el esh
    by_cases a3 : a2 < 0
    · rw [if_pos a3, if_neg (by omega)]
    rw [if_neg a3]
    by_cases a4 : ((L.length : Nat) : Int) - 1 < a2
    · rw [if_pos a4, if_neg (by omega)]
    · have hi : a2.toNat < L.length := by omega
      have hc := getD_P _ _ s3 hi
      have ec : xna 3 (xiand (xna 2 ((L.getD a2.toNat 0 : Nat) : Int)) 255) = ((L.getD a2.toNat 0 : Nat) : Int) := by
        rw [xna2_c _ hc, and255]
        show ((L.getD a2.toNat 0 : Nat) : Int) % 256 % 65536 = _
        omega
      rw [if_neg a4, cnd_t, cnd_t, xob_some, z2, if_pos rfl, xob_some, xlen_new (t := 2) h5 h6 (by decide), xob_some, if_neg a3, if_pos (by omega), xarr_new (t := 2) h5 h6, xob_some, if_pos (xin_of (by omega) (by omega)), xag_new h5, h7 _ hi, ec, xna3_k hc, if_pos rfl, if_pos rfl, if_pos ⟨by omega, by omega⟩]
  refine ⟨_, σ, τ, eC, ag_rf σ, m1, m2.1, fun a k hk => ?_⟩
  by_cases q1 : a = 305
  · subst q1
    by_cases q2 : k = 92 ∨ k = 93 ∨ k = 98
    · exfalso
      rcases q2 with rfl | rfl | rfl
      · rw [show tmp σ 305 92 = true from rfl] at hk; cases hk
      · rw [show tmp σ 305 93 = true from rfl] at hk; cases hk
      · rw [show tmp σ 305 98 = true from rfl] at hk; cases hk
    · rw [m2.2.2 k (by omega) (by omega) (by omega)]
  · by_cases q2 : 370 ≤ a ∧ a ≤ 374
    · have : a = 370 ∨ a = 371 ∨ a = 372 ∨ a = 373 ∨ a = 374 := by omega
      exfalso
      rcases this with rfl | rfl | rfl | rfl | rfl
      · rw [show tmp σ 370 k = true from rfl] at hk; cases hk
      · rw [show tmp σ 371 k = true from rfl] at hk; cases hk
      · rw [show tmp σ 372 k = true from rfl] at hk; cases hk
      · rw [show tmp σ 373 k = true from rfl] at hk; cases hk
      · rw [show tmp σ 374 k = true from rfl] at hk; cases hk
    · rw [m2.2.1 a q1 q2]
end TRM

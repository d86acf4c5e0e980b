/-! the night: the reference works an order through -/
theorem mx_flip {a b : Int} : (if b < a then a else b) = mxi a b := by
  unfold mxi
  by_cases c : b < a
  · rw [if_pos c, if_neg (by omega)]
  · rw [if_neg c]
    by_cases c2 : a < b
    · rw [if_pos c2]
    · rw [if_neg c2]; omega
section NIGHTM
variable {σ : xS}
/-- only an order's own reckoning has changed -/
def wf (τ τ' : xS) : Prop := τ'.2 = τ.2 ∧ (∀ a, a ≠ 383 → a ≠ 385 → a ≠ 386 → a ≠ 387 → a ≠ 305 → τ'.1 a = τ.1 a) ∧ ∀ k, k ≠ 116 → k ≠ 117 → τ'.1 305 k = τ.1 305 k
theorem wf_tr {a b c : xS} (h : wf a b) (g : wf b c) : wf a c := ⟨g.1.trans h.1, fun x h1 h2 h3 h4 h5 => (g.2.1 x h1 h2 h3 h4 h5).trans (h.2.1 x h1 h2 h3 h4 h5), fun k h1 h2 => (g.2.2 k h1 h2).trans (h.2.2 k h1 h2)⟩
theorem M_firstDryer (hP : pJ σ.1) {mx : Int → Int → Bool} {s : ngS} {τ : xS} (hτ : ag σ τ) (hs : ∀ w : Nat, w < 3 → τ.1 387 w = s.2.2 w) (v1 v2 v4 : Int) (w3 : xAV) : ∀ (u f k : Nat), (k : Int) + u = σ.1 305 103 → (f : Int) < σ.1 305 103 →
    X iM_works 139 [(2, 305), (0, v1), (0, v2), w3, (0, v4), (0, (f : Int)), (0, (k : Int))] [] τ = X iM_works 192 [(2, 305), (0, v1), (0, v2), w3, (0, v4), (0, (ng_fl s.2.2 u f k : Int)), (0, σ.1 305 103)] [(0, mxi v4 (s.2.2 (ng_fl s.2.2 u f k))), (0, v2), (2, 383)] τ := by
  have hN := hP.2.2.2.2.2.2.1
  have h103 := hN.2.2.2.1
  have e5 : τ.1 305 103 = σ.1 305 103 := hτ.sl (a := 305) (k := 103) rfl
  intro u
  induction u with
  | zero =>
    intro f k hk hf
    rw [qM_works_139, e5, if_neg (by omega), if_pos (xin_of (by omega) (by omega)), Int.toNat_natCast, hs f (by omega), M_max]
    simp only [Option.bind_some]
    rw [mx_flip, show (k : Int) = σ.1 305 103 by omega]
    rfl
  | succ u ih =>
    intro f k hk hf
    rw [qM_works_139, e5, if_pos (by omega), if_pos (xin_of (by omega) (by omega)), if_pos (xin_of (by omega) (by omega)), Int.toNat_natCast, Int.toNat_natCast, hs k (by omega), hs f (by omega), xw_s (by omega)]
    show _ = X iM_works 192 [(2, 305), (0, v1), (0, v2), w3, (0, v4), (0, (ng_fl s.2.2 u (if s.2.2 k < s.2.2 f then k else f) (k + 1) : Int)), (0, σ.1 305 103)] [(0, mxi v4 (s.2.2 (ng_fl s.2.2 u (if s.2.2 k < s.2.2 f then k else f) (k + 1)))), (0, v2), (2, 383)] τ
    by_cases c : s.2.2 k < s.2.2 f
    · rw [if_pos c, if_pos c]
      exact ih k (k + 1) (by omega) (by omega)
    · rw [if_neg c, if_neg c]
      exact ih f (k + 1) (by omega) hf
/-- a job worked -/
theorem M_job (hP : pJ σ.1) (h1 : 1 ≤ σ.1 305 102) {mx : Int → Int → Bool} {S : ngS × (Int × Int) × (Nat → Int)} {B : Int} (hB : B ≤ 100000000) (hb : nsB S.1 B) {τ : xS} (hτ : ag σ τ) (hs : nsM mx S.1 τ) (h116 : τ.1 305 116 = S.2.1.1) (h117 : τ.1 305 117 = S.2.1.2) (hl : 0 ≤ S.2.1.1 ∧ S.2.1.1 ≤ 100000) {h j : Nat} (hh : (h : Int) < σ.1 305 107) (hj : (j : Int) < σ.1 305 107) (ho : τ.1 381 j = (h : Int)) (w2 w3 w4 w5 w6 : xAV) :
    ∃ τ' w2' w3' w4' w5' w6', X iM_works 46 [(2, 305), (0, (j : Int)), w2, w3, w4, w5, w6] [] τ = X iM_works 46 [(2, 305), (0, ((j + 1 : Nat) : Int)), w2', w3', w4', w5', w6'] [] τ' ∧ wf τ τ' ∧ ag σ τ' ∧ nsM mx (ng_t σ.1 mx S h).1 τ' ∧ τ'.1 305 116 = (ng_t σ.1 mx S h).2.1.1 ∧ τ'.1 305 117 = (ng_t σ.1 mx S h).2.1.2 ∧ τ'.1 383 = xup (τ.1 383) h (ng_y σ.1 mx S.1 h) := by
  obtain ⟨s, ⟨la, en⟩, D⟩ := S
  have h116 : τ.1 305 116 = la := h116
  have h117 : τ.1 305 117 = en := h117
  have hl : 0 ≤ la ∧ la ≤ 100000 := hl
  have hb : nsB s B := hb
  have hs : nsM mx s τ := hs
  have hN := hP.2.2.2.2.2.2.1
  have h102 := hN.2.2.1
  have h103 := hN.2.2.2.1
  have h107 := hN.2.2.2.2.1
  have hwl := ng_wl hP h1 mx s h
  have hdl := ng_dl hP s
  obtain ⟨y1, y2⟩ := ng_yb hP h1 (mx := mx) hb hh
  have hdm := ng_dm hP hh
  obtain ⟨j1, j2, j3, j4, j5, j6⟩ := ng_job hP hh
  have hy : ng_y σ.1 mx s h = mxi (ng_r σ.1 mx s (ng_w σ.1 mx s h) h) (s.2.2 (ng_d σ.1 s)) + σ.1 308 (σ.1 378 h).toNat * Int.tdiv (σ.1 379 h + 9) 10 := rfl
  have c3 := (hb (ng_d σ.1 s) (by omega)).2.2
  have q1 := M_firstReady hP (by omega) hτ hs hb hh (j : Int) w5 w6 ((σ.1 305 102).toNat - 1) 0 1 (by omega) (by omega)
  have q1 : X iM_works 66 [(2, 305), (0, (j : Int)), (0, (h : Int)), (0, 0), (0, 1), w5, w6] [] τ = X iM_works 106 [(2, 305), (0, (j : Int)), (0, (h : Int)), (0, (ng_w σ.1 mx s h : Int)), (0, σ.1 305 102), w5, w6] [(0, ng_r σ.1 mx s (ng_w σ.1 mx s h) h)] τ := q1
  have eT : ng_t σ.1 mx (s, (la, en), D) h = (ng_s σ.1 mx s h, (la + (if σ.1 380 h < ng_y σ.1 mx s h then σ.1 379 h else 0), mxi en (ng_y σ.1 mx s h)), xup D h (ng_y σ.1 mx s h)) := rfl
  have eS : ng_s σ.1 mx s h = (xup s.1 (ng_w σ.1 mx s h) (ng_r σ.1 mx s (ng_w σ.1 mx s h) h), xup s.2.1 (ng_w σ.1 mx s h) (ng_k σ.1 h), xup s.2.2 (ng_d σ.1 s) (ng_y σ.1 mx s h)) := rfl
  have q2 : ∀ (ω : xS), ag σ ω → ω.1 387 = τ.1 387 → ∀ (v4 : Int) (w : xAV), X iM_works 139 [(2, 305), (0, (j : Int)), (0, (h : Int)), w, (0, v4), (0, 0), (0, 1)] [] ω = X iM_works 192 [(2, 305), (0, (j : Int)), (0, (h : Int)), w, (0, v4), (0, (ng_d σ.1 s : Int)), (0, σ.1 305 103)] [(0, mxi v4 (s.2.2 (ng_d σ.1 s))), (0, (h : Int)), (2, 383)] ω := by
    intro ω h2 h3 v4 w
    exact M_firstDryer (mx := mx) hP h2 (fun x hx => by rw [h3]; exact (hs.1 x hx).2.2) (j : Int) (h : Int) v4 w ((σ.1 305 103).toNat - 1) 0 1 (by omega) (by omega)
  rw [eT, eS]
  clear eT eS
  generalize ng_r σ.1 mx s (ng_w σ.1 mx s h) h = r at *
  generalize ng_y σ.1 mx s h = y at *
  generalize ng_w σ.1 mx s h = w at *
  generalize ng_d σ.1 s = d at *
  have ek : σ.1 307 (σ.1 378 h).toNat = ng_k σ.1 h := rfl
  generalize ng_k σ.1 h = kk at *
  have xj8 : xin (j : Int) 8 := ⟨by omega, by omega⟩
  have xh7 : xin (h : Int) 7 := ⟨by omega, by omega⟩
  have xw3 : xin (w : Int) 3 := ⟨by omega, by omega⟩
  have xd3 : xin (d : Int) 3 := ⟨by omega, by omega⟩
  have xs6 : xin (σ.1 378 h) 6 := ⟨by omega, by omega⟩
  have e378 : τ.1 378 = σ.1 378 := hτ.cl (a := 378) (by omega)
  have e307 : τ.1 307 = σ.1 307 := hτ.cl (a := 307) (by omega)
  have hmx : 0 ≤ mxi r (s.2.2 d) ∧ mxi r (s.2.2 d) ≤ 200000000 := by unfold mxi; split <;> omega
  have ey : xw (mxi r (s.2.2 d) + xw (σ.1 308 (σ.1 378 h).toNat * xw (Int.tdiv (xw (σ.1 379 h + 9)) 10))) = y := by
    rw [xw_id (x := σ.1 379 h + 9) (by omega) (by omega), xw_id (x := Int.tdiv (σ.1 379 h + 9) 10) (by omega) (by omega), xw_id (x := σ.1 308 (σ.1 378 h).toNat * Int.tdiv (σ.1 379 h + 9) 10) (by omega) (by omega), xw_id (by omega) (by omega), hy]
  clear hy hmx
  have ha : ag σ (xs (xs τ 385 w r) 386 w kk) := ag_tr hτ (ag_tr (ag_sS rfl) (ag_sS rfl))
  rw [qM_works_46, hτ.sl (a := 305) (k := 107) rfl, if_pos hj, if_pos xj8, Int.toNat_natCast, ho, q1, qM_works_106, if_pos xw3, if_pos xh7, Int.toNat_natCast, Int.toNat_natCast, e378, if_pos xs6, if_pos xw3, e307, ek, q2 _ ha (by rw [xs_ne (by decide), xs_ne (by decide)])]
  have f378 : (xs (xs τ 385 w r) 386 w kk).1 378 = σ.1 378 := ha.cl (a := 378) (by omega)
  have f379 : (xs (xs τ 385 w r) 386 w kk).1 379 = σ.1 379 := ha.cl (a := 379) (by omega)
  have f380 : (xs (xs τ 385 w r) 386 w kk).1 380 = σ.1 380 := ha.cl (a := 380) (by omega)
  have f308 : (xs (xs τ 385 w r) 386 w kk).1 308 = σ.1 308 := ha.cl (a := 308) (by omega)
  have f116 : (xs (xs τ 385 w r) 386 w kk).1 305 116 = la := by rw [xs_ne (by decide), xs_ne (by decide), h116]
  have f117 : (xs (xs τ 385 w r) 386 w kk).1 305 117 = en := by rw [xs_ne (by decide), xs_ne (by decide), h117]
  have f383 : (xs (xs τ 385 w r) 386 w kk).1 383 = τ.1 383 := by rw [xs_ne (by decide), xs_ne (by decide)]
  have f385 : (xs (xs τ 385 w r) 386 w kk).1 385 = xup (τ.1 385) w r := by rw [xs_ne (by decide), xs_at]
  have f386 : (xs (xs τ 385 w r) 386 w kk).1 386 = xup (τ.1 386) w kk := by rw [xs_at, xs_ne (by decide)]
  have f387 : (xs (xs τ 385 w r) 386 w kk).1 387 = τ.1 387 := by rw [xs_ne (by decide), xs_ne (by decide)]
  have f388 : (xs (xs τ 385 w r) 386 w kk).1 388 = τ.1 388 := by rw [xs_ne (by decide), xs_ne (by decide)]
  have fw : wf τ (xs (xs τ 385 w r) 386 w kk) := ⟨rfl, fun a a1 a2 a3 a4 a5 => by rw [xs_ne a3, xs_ne a2], fun k k1 k2 => by rw [xs_ne (by decide), xs_ne (by decide)]⟩
  clear q1 q2
  generalize xs (xs τ 385 w r) 386 w kk = ω at *
  rw [qM_works_192, Int.toNat_natCast, Int.toNat_natCast, f378, f379, f380, f308, f116, f117, ey, xs_at, xup_eq, if_pos xh7, if_pos xs6, if_pos xh7, if_pos xh7, if_pos xh7, if_pos xd3, if_pos xh7, if_pos xh7]
  clear ey
  -- what all come to
  have fin : ∀ (ν : xS), ag σ ν → wf ω ν → ν.1 385 = ω.1 385 → ν.1 386 = ω.1 386 → ν.1 387 = xup (ω.1 387) d y → ν.1 383 = xup (ω.1 383) h y → ν.1 388 = ω.1 388 → ∀ l, ν.1 305 116 = l → wf τ (xs ν 305 117 (mxi en y)) ∧ ag σ (xs ν 305 117 (mxi en y)) ∧ nsM mx (xup s.1 w r, xup s.2.1 w kk, xup s.2.2 d y) (xs ν 305 117 (mxi en y)) ∧ (xs ν 305 117 (mxi en y)).1 305 116 = l ∧ (xs ν 305 117 (mxi en y)).1 305 117 = mxi en y ∧ (xs ν 305 117 (mxi en y)).1 383 = xup (τ.1 383) h y := by
    intro ν n1 n2 n3 n4 n5 n6 n7 l n8
    refine ⟨wf_tr fw (wf_tr n2 ⟨rfl, fun a _ _ _ _ a5 => by rw [xs_ne a5], fun k _ k2 => by rw [xs_at, xup_ne k2]⟩), ag_tr n1 (ag_sS rfl), ⟨fun x hx => ?_, fun a b ha hb => ?_⟩, by rw [xs_at, xup_ne (by decide), n8], by rw [xs_at, xup_eq], by rw [xs_ne (by decide), n6, f383]⟩
    · obtain ⟨z1, z2, z3⟩ := hs.1 x hx
      rw [xs_ne (by decide), xs_ne (by decide), xs_ne (by decide), n3, n4, n5, f385, f386, f387, xup_at, xup_at, xup_at, z1, z2, z3]
      refine ⟨?_, ?_, ?_⟩
      · show _ = xup _ _ _ x
        rw [xup_at]
      · show _ = xup _ _ _ x
        rw [xup_at]
      · show _ = xup _ _ _ x
        rw [xup_at]
    · rw [xs_ne (by decide), n7, f388]
      exact hs.2 a b ha hb
  by_cases c : σ.1 380 h < y
  · rw [if_pos c, if_pos c, if_pos xh7, if_pos xh7, M_max]
    simp only [Option.bind_some]
    rw [qM_works_275, mx_flip, xw_id (x := la + σ.1 379 h) (by omega) (by omega), xw_s (by omega)]
    refine ⟨_, _, _, _, _, _, rfl, ?_⟩
    exact fin _ (ag_tr ha (ag_tr (ag_tr (ag_sS rfl) (ag_sS rfl)) (ag_sS rfl))) ⟨rfl, fun a a1 a2 a3 a4 a5 => by rw [xs_ne a5, xs_ne a4, xs_ne a1], fun k k1 k2 => by rw [xs_at, xup_ne k1, xs_ne (by decide), xs_ne (by decide)]⟩ (by rw [xs_ne (by decide), xs_ne (by decide), xs_ne (by decide)]) (by rw [xs_ne (by decide), xs_ne (by decide), xs_ne (by decide)]) (by rw [xs_ne (by decide), xs_at, xs_ne (by decide)]) (by rw [xs_ne (by decide), xs_ne (by decide), xs_at]) (by rw [xs_ne (by decide), xs_ne (by decide), xs_ne (by decide)]) _ (by rw [xs_at, xup_eq])
  · rw [if_neg c, if_neg c, if_pos xh7, M_max]
    simp only [Option.bind_some]
    rw [qM_works_275, mx_flip, xw_s (by omega), Int.add_zero]
    refine ⟨_, _, _, _, _, _, rfl, ?_⟩
    exact fin _ (ag_tr ha (ag_tr (ag_sS rfl) (ag_sS rfl))) ⟨rfl, fun a a1 a2 a3 a4 a5 => by rw [xs_ne a4, xs_ne a1], fun k k1 k2 => by rw [xs_ne (by decide), xs_ne (by decide)]⟩ (by rw [xs_ne (by decide), xs_ne (by decide)]) (by rw [xs_ne (by decide), xs_ne (by decide)]) (by rw [xs_at, xs_ne (by decide)]) (by rw [xs_ne (by decide), xs_at]) (by rw [xs_ne (by decide), xs_ne (by decide)]) _ (by rw [xs_ne (by decide), xs_ne (by decide), f116])
end NIGHTM

/-! the night: the class tries a job -/
section NIGHTC
variable {σ : xS}
/-- nothing but the night's own cells has changed -/
def nf (σ τ : xS) : Prop := (∀ a, ¬ (265 ≤ a ∧ a ≤ 271) → a ≠ 258 → τ.1 a = σ.1 a) ∧ ∀ k, k ≠ 18 → k ≠ 19 → k ≠ 10 → τ.1 258 k = σ.1 258 k
theorem nf_ag {τ : xS} (h : nf σ τ) : ag (σ.1, τ.2) τ := by
  refine ⟨rfl, fun a k hk => ?_⟩
  by_cases e : 265 ≤ a ∧ a ≤ 271
  · have e2 : a = 265 ∨ a = 266 ∨ a = 267 ∨ a = 268 ∨ a = 269 ∨ a = 270 ∨ a = 271 := by omega
    rcases e2 with rfl | rfl | rfl | rfl | rfl | rfl | rfl <;> cases hk
  · by_cases e3 : a = 258
    · subst e3
      by_cases e4 : k = 18
      · subst e4; cases hk
      · by_cases e5 : k = 19
        · subst e5; cases hk
        · by_cases e6 : k = 10
          · subst e6; cases hk
          · exact h.2 k e4 e5 e6
    · rw [h.1 a e e3]
theorem C_tryNext (hP : pJ σ.1) (h1 : 1 ≤ σ.1 305 102) {mx : Int → Int → Bool} {p : List Nat} {h : Nat} (hp : ∀ x ∈ p, (x : Int) < σ.1 305 107) (hh : (h : Int) < σ.1 305 107) (hpl : p.length < 7) {v : Int} {τ τ2 : xS} (hτ : nf σ τ) (hs : nsC mx (ng_p σ.1 mx p).1 τ) (ho : τ.1 268 p.length = (h : Int)) (hdp : 0 < xdp τ)
    (hc : X iNight_search 0 [(2, 258), (0, (p.length : Int) + 1), (0, xior v (xshl 1 (h : Int))), (0, (ng_p σ.1 mx (p ++ [h])).2.1.1), (0, (ng_p σ.1 mx (p ++ [h])).2.1.2), (9, 0), (9, 0)] [] (xsetdp (xs (xs (xs (xs τ 265 (ng_w σ.1 mx (ng_p σ.1 mx p).1 h) (ng_r σ.1 mx (ng_p σ.1 mx p).1 (ng_w σ.1 mx (ng_p σ.1 mx p).1 h) h)) 266 (ng_w σ.1 mx (ng_p σ.1 mx p).1 h) (ng_k σ.1 h)) 267 (ng_d σ.1 (ng_p σ.1 mx p).1) (ng_y σ.1 mx (ng_p σ.1 mx p).1 h)) 269 h (ng_y σ.1 mx (ng_p σ.1 mx p).1 h)) (xdp τ - 1)) = some ((9, 0), τ2)) :
    X iNight_tryNext 0 [(2, 258), (0, (p.length : Int)), (0, v), (0, (ng_p σ.1 mx p).2.1.1), (0, (ng_p σ.1 mx p).2.1.2), (9, 0), (9, 0), (9, 0), (9, 0), (9, 0), (9, 0), (9, 0), (9, 0), (9, 0)] [] τ = some ((9, 0), xs (xs (xs (xsetdp τ2 (xdp τ)) 265 (ng_w σ.1 mx (ng_p σ.1 mx p).1 h) ((ng_p σ.1 mx p).1.1 (ng_w σ.1 mx (ng_p σ.1 mx p).1 h))) 266 (ng_w σ.1 mx (ng_p σ.1 mx p).1 h) ((ng_p σ.1 mx p).1.2.1 (ng_w σ.1 mx (ng_p σ.1 mx p).1 h))) 267 (ng_d σ.1 (ng_p σ.1 mx p).1) ((ng_p σ.1 mx p).1.2.2 (ng_d σ.1 (ng_p σ.1 mx p).1))) := by
  have hN := hP.2.2.2.2.2.2.1
  have h102 := hN.2.2.1
  have h103 := hN.2.2.2.1
  have h107 := hN.2.2.2.2.1
  obtain ⟨b1, b2, b3⟩ := ng_pb hP h1 mx hp
  have hb : nsB (ng_p σ.1 mx p).1 16870000 := fun w hw => by
    have := b1 w hw
    omega
  have eg : (ng_p σ.1 mx (p ++ [h])).2.1 = ((ng_p σ.1 mx p).2.1.1 + (if σ.1 380 h < ng_y σ.1 mx (ng_p σ.1 mx p).1 h then σ.1 379 h else 0), mxi (ng_p σ.1 mx p).2.1.2 (ng_y σ.1 mx (ng_p σ.1 mx p).1 h)) := by rw [ng_snoc]; rfl
  rw [eg] at hc
  clear eg b1
  generalize (ng_p σ.1 mx p).2.1.1 = la at *
  generalize (ng_p σ.1 mx p).2.1.2 = en at *
  generalize (ng_p σ.1 mx p).1 = s at *
  have hag := nf_ag hτ
  have q1 := C_firstReady (σ := (σ.1, τ.2)) hP h1 (by decide) hag hs hb hh
  have q2 := C_firstDryer (σ := (σ.1, τ.2)) hP hag hs
  have hwl := ng_wl hP h1 mx s h
  have hdl := ng_dl hP s
  have q3 := C_ready (σ := (σ.1, τ.2)) hP (by decide) hag hs hb hwl hh
  obtain ⟨y1, y2⟩ := ng_yb hP h1 (mx := mx) hb hh
  have hdm := ng_dm hP hh
  obtain ⟨j1, j2, j3, j4, j5, j6⟩ := ng_job hP hh
  have hy : ng_y σ.1 mx s h = mxi (ng_r σ.1 mx s (ng_w σ.1 mx s h) h) (s.2.2 (ng_d σ.1 s)) + σ.1 308 (σ.1 378 h).toNat * Int.tdiv (σ.1 379 h + 9) 10 := rfl
  have ek : σ.1 307 (σ.1 378 h).toNat = ng_k σ.1 h := rfl
  have s1 := (hs.1 (ng_w σ.1 mx s h) (by omega)).1
  have s2 := (hs.1 (ng_w σ.1 mx s h) (by omega)).2.1
  have s3 := (hs.1 (ng_d σ.1 s) (by omega)).2.2
  have c3 := (hb (ng_d σ.1 s) (by omega)).2.2
  have q1 : X iNight_firstReady 0 [(2, 258), (0, (h : Int)), (9, 0), (9, 0)] [] τ = some ((0, (ng_w σ.1 mx s h : Int)), τ) := q1
  have q2 : X iNight_firstDryer 0 [(2, 258), (9, 0), (9, 0)] [] τ = some ((0, (ng_d σ.1 s : Int)), τ) := q2
  have q3 : X iNight_readyOn 0 [(2, 258), (0, (ng_w σ.1 mx s h : Int)), (0, (h : Int)), (9, 0), (9, 0), (9, 0)] [] τ = some ((0, ng_r σ.1 mx s (ng_w σ.1 mx s h) h), τ) := q3
  generalize ng_r σ.1 mx s (ng_w σ.1 mx s h) h = r at *
  generalize ng_y σ.1 mx s h = y at *
  generalize ng_w σ.1 mx s h = w at *
  generalize ng_d σ.1 s = d at *
  have xk7 : xin (p.length : Int) 7 := ⟨by omega, by omega⟩
  have xh7 : xin (h : Int) 7 := ⟨by omega, by omega⟩
  have xw3 : xin (w : Int) 3 := ⟨by omega, by omega⟩
  have xd3 : xin (d : Int) 3 := ⟨by omega, by omega⟩
  have xs6 : xin (σ.1 378 h) 6 := ⟨by omega, by omega⟩
  have e262 : τ.1 262 = σ.1 378 := (hτ.1 262 (by omega) (by omega)).trans hN.2.1.1
  have e263 : τ.1 263 = σ.1 379 := (hτ.1 263 (by omega) (by omega)).trans hN.2.1.2.1
  have e264 : τ.1 264 = σ.1 380 := (hτ.1 264 (by omega) (by omega)).trans hN.2.1.2.2.1
  have e203 : τ.1 203 = σ.1 307 := (hτ.1 203 (by omega) (by omega)).trans hP.1.1.2.1
  have e204 : τ.1 204 = σ.1 308 := (hτ.1 204 (by omega) (by omega)).trans hP.1.1.2.2.1
  have em : xmm 0 r (s.2.2 d) = mxi r (s.2.2 d) := rfl
  have em2 : xmm 0 en y = mxi en y := rfl
  have hmx : 0 ≤ mxi r (s.2.2 d) ∧ mxi r (s.2.2 d) ≤ 100000000 := by unfold mxi; split <;> omega
  have ey : xw (mxi r (s.2.2 d) + xw (σ.1 308 (σ.1 378 h).toNat * xw (Int.tdiv (xw (σ.1 379 h + 9)) 10))) = y := by
    rw [xw_id (x := σ.1 379 h + 9) (by omega) (by omega), xw_id (x := Int.tdiv (σ.1 379 h + 9) 10) (by omega) (by omega), xw_id (x := σ.1 308 (σ.1 378 h).toNat * Int.tdiv (σ.1 379 h + 9) 10) (by omega) (by omega), xw_id (by omega) (by omega), hy]
  clear hy hmx
  rw [qNight_tryNext_0, if_pos xk7, Int.toNat_natCast, ho, q1]
  simp only [Option.bind_some]
  rw [qNight_tryNext_14, q2]
  simp only [Option.bind_some]
  rw [qNight_tryNext_20, if_pos xw3, if_pos xw3, if_pos xd3, q3]
  simp only [Option.bind_some]
  rw [Int.toNat_natCast, Int.toNat_natCast, s1, s2, s3, qNight_tryNext_57, Int.toNat_natCast, Int.toNat_natCast, Int.toNat_natCast, e262, e263, e264, e203, e204, em, ey, em2, ek, if_pos xh7, if_pos xs6, if_pos xh7, if_pos xw3, if_pos xh7, if_pos xs6, if_pos xw3, if_pos xd3, if_pos xh7, if_pos xh7]
  clear ey em em2
  have hd : xdp (xs (xs (xs (xs τ 265 w r) 266 w (ng_k σ.1 h)) 267 d y) 269 h y) = xdp τ := rfl
  rw [hd, nbeq0 hdp, cond_false, cond_false, xw_id (x := (p.length : Int) + 1) (by omega) (by omega)]
  by_cases c : σ.1 380 h < y
  · rw [if_pos c] at hc
    rw [if_pos c, if_pos xh7, xw_id (x := la + σ.1 379 h) (by omega) (by omega), hc]
    simp only [Option.bind_some]
    rw [qNight_tryNext_196, if_pos xw3, if_pos xw3, if_pos xd3]
    rfl
  · rw [if_neg c] at hc
    rw [if_neg c, xw_id (x := la + 0) (by omega) (by omega), hc]
    simp only [Option.bind_some]
    rw [qNight_tryNext_196, if_pos xw3, if_pos xw3, if_pos xd3]
    rfl
end NIGHTC

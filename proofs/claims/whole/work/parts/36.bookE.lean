/-! a move is told -/
/-- a place -/
abbrev bk_isP (m : Nat → Nat → Int) (p : Int) : Prop := (0 ≤ p ∧ p ≤ 4) ∨ (10 ≤ p ∧ p < 10 + m 305 11)
theorem bk_so_xup {f : Nat → Int} {n : Nat} {d : Int} : ∀ {l : List Nat}, bk_so f l → (∀ j ∈ l, j < n) → bk_so (xup f n d) l
  | [], _, _ => trivial
  | x :: l, h, hm => by
    refine ⟨fun j hj => ?_, bk_so_xup h.2 fun j hj => hm j (List.mem_cons_of_mem _ hj)⟩
    rw [xup_ne (Nat.ne_of_lt (hm x List.mem_cons_self)), xup_ne (Nat.ne_of_lt (hm j (List.mem_cons_of_mem _ hj)))]
    exact h.1 j hj
/-- the book with a move more -/
theorem bk_J_add {m m' : Nat → Nat → Int} (hJ : bk_J m) {s d p : Int} {n : Nat} (hn : m 305 22 = n) (hs : 0 ≤ s ∧ s < m 305 15) (hd : m 317 s.toNat ≤ d ∧ d ≤ m 305 0) (hp : bk_isP m p) (hf : n < 600)
    (r305 : ∀ k, k ≠ 22 → m' 305 k = m 305 k) (r22 : m' 305 22 = (n : Int) + 1) (r318 : m' 318 = xup (m 318) n s) (r319 : m' 319 = xup (m 319) n d) (r320 : m' 320 = xup (m 320) n p) (r321 : m' 321 = xup (m 321) n (m 305 0)) (r322 : m' 322 = xup (m 322) n (-1))
    (r315 : m' 315 = m 315) (r316 : m' 316 = m 316) (r317 : m' 317 = m 317) (hQ : bk_Q m')
    (l1 : lnk (m' 228) (bk_ins (xup (m 319) n d) n (bk_ch m s n)) (m' 220 s.toNat)) (l2 : ∀ x, x ≠ n → x ∉ bk_ch m s n → m' 228 x = m 228 x) (l3 : ∀ x, x ≠ s.toNat → m' 220 x = m 220 x) (l4 : m' 221 = xup (m 221) s.toNat (((bk_ch m s n).length : Int) + 1)) : bk_J m' := by
  obtain ⟨hB, -, hC, hV⟩ := hJ
  have hbn : bk_n m = n := by unfold bk_n; rw [hn]; exact Int.toNat_natCast n
  have rn : bk_n m' = n + 1 := by unfold bk_n; rw [r22]; exact Int.toNat_natCast (n + 1)
  have ech : ∀ s', bk_ch m' s' n = bk_ch m s' n := fun s' => bk_ch_cg fun i hi => by rw [r318, r319, xup_ne (Nat.ne_of_lt hi), xup_ne (Nat.ne_of_lt hi)]; exact ⟨rfl, rfl⟩
  have ech1 : ∀ s', bk_ch m' s' (n + 1) = if s = s' then bk_ins (xup (m 319) n d) n (bk_ch m s' n) else bk_ch m s' n := fun s' => by
    show (if m' 318 n = s' then bk_ins (m' 319) n (bk_ch m' s' n) else bk_ch m' s' n) = _
    rw [ech, r318, r319, xup_eq]
  refine ⟨⟨⟨by rw [r22]; clear hp; omega, by rw [r22]; clear hp; omega⟩, by rw [r305 15 (by decide)]; exact hB.2⟩, hQ, ⟨fun s' hs' => ?_, fun s' => ?_⟩, ?_, ?_, fun i hi => ?_, fun s' hs' => ?_⟩
  · rw [r305 15 (by decide)] at hs'
    rw [rn, ech1]
    have h0 := hC.1 s' hs'
    rw [hbn] at h0
    by_cases e : s = (s' : Int)
    · subst e
      rw [if_pos rfl]
      exact l1
    · rw [if_neg e, l3 s' (by clear hp; omega)]
      refine lnk_cg (fun x hx => ?_) h0
      obtain ⟨x1, x2⟩ := bk_ch_mem.mp hx
      exact l2 x (Nat.ne_of_lt x1) (fun q => e ((bk_ch_mem.mp q).2.symm.trans x2))
  · rw [rn, ech1, l4, xup_at]
    have h0 := hC.2 s'
    rw [hbn] at h0
    by_cases e : s = (s' : Int)
    · subst e
      rw [if_pos rfl, Int.toNat_natCast, if_pos rfl, bk_ins_len]
      rfl
    · rw [if_neg e, if_neg (by clear hp; omega)]
      exact h0
  · rw [r305 0 (by decide)]; exact hV.1
  · rfl
  · rw [rn] at hi
    rw [r318, r319, r320, r321, r322, r317, r305 15 (by decide), r305 0 (by decide), r305 11 (by decide)]
    by_cases e : i = n
    · subst e
      simp only [xup_eq]
      have := hV.1
      exact ⟨hs, hd, hp, ⟨this.1, Int.le_refl _⟩, Int.le_refl _, by clear hp; omega⟩
    · simp only [xup_ne e]
      exact hV.2.2.1 i (by rw [hbn]; clear hp; omega)
  · rw [r305 15 (by decide)] at hs'
    rw [r317, r315, r316, r305 0 (by decide), r305 6 (by decide)]
    exact hV.2.2.2 s' hs'
section BOOKE
variable {σ : xS}
/-- the class's part -/
theorem B_addMove (hJ : bk_J σ.1) {s d p b : Int} {n : Nat} (hn : σ.1 305 22 = n) (hs : 0 ≤ s ∧ s < σ.1 305 15) (hn6 : n < 600) :
    ∃ τ, X iBook_addMove 0 [(2, 216), (0, s), (0, d), (0, p), (0, b), (9, 0)] [] σ = some ((0, (n : Int)), τ) ∧ τ.2 = σ.2 ∧ (∀ a, a ≠ 216 → (a < 220 ∨ 228 < a) → τ.1 a = σ.1 a) ∧
      (τ.1 216 = xup (σ.1 216) 14 ((n : Int) + 1) ∧ τ.1 222 = xup (σ.1 318) n s ∧ τ.1 223 = xup (σ.1 319) n d ∧ τ.1 224 = xup (σ.1 320) n p ∧ τ.1 225 = xup (σ.1 321) n (σ.1 305 0) ∧ τ.1 226 = xup (σ.1 322) n (-1) ∧ τ.1 227 = xup (σ.1 323) n b) ∧
      lnk (τ.1 228) (bk_ins (xup (σ.1 319) n d) n (bk_ch σ.1 s n)) (τ.1 220 s.toNat) ∧ (∀ x, x ≠ n → x ∉ bk_ch σ.1 s n → τ.1 228 x = σ.1 228 x) ∧ (∀ x, x ≠ s.toNat → τ.1 220 x = σ.1 220 x) ∧ τ.1 221 = xup (σ.1 221) s.toNat (((bk_ch σ.1 s n).length : Int) + 1) := by
  obtain ⟨⟨e1, e2, e3, e4, e5, e6⟩, -, e10, -, e12, -⟩ := hJ.2.1
  have hbn : bk_n σ.1 = n := by unfold bk_n; rw [hn]; exact Int.toNat_natCast n
  have hx : xin (n : Int) 600 := ⟨by omega, by omega⟩
  have hfs := hJ.fst hs
  rw [hbn] at hfs
  have w1 : xw ((n : Int) + 1) = (n : Int) + 1 := xw_id (by omega) (by omega)
  have hlen := bk_ch_len (m := σ.1) (s := s) (n := n)
  have a14 : σ.1 216 14 = n := e10.trans hn
  have a0 : σ.1 216 0 = σ.1 305 0 := e12
  rw [qBook_addMove_0, a14, a0, w1, Int.toNat_natCast, if_pos hx, if_pos hx, if_pos hx, if_pos hx, if_pos hx, if_pos hx]
  have g : ∀ τ1, xs (xs (xs (xs (xs (xs (xs σ 216 14 ((n : Int) + 1)) 222 n s) 223 n d) 224 n p) 225 n (σ.1 305 0)) 226 n (-1)) 227 n b = τ1 → (∀ a, a ≠ 216 → (a < 222 ∨ 227 < a) → τ1.1 a = σ.1 a) ∧ (τ1.1 216 = xup (σ.1 216) 14 ((n : Int) + 1) ∧ τ1.1 222 = xup (σ.1 318) n s ∧ τ1.1 223 = xup (σ.1 319) n d ∧ τ1.1 224 = xup (σ.1 320) n p ∧ τ1.1 225 = xup (σ.1 321) n (σ.1 305 0) ∧ τ1.1 226 = xup (σ.1 322) n (-1) ∧ τ1.1 227 = xup (σ.1 323) n b) ∧ τ1.2 = σ.2 := by
    clear hfs hlen hx a14 a0 hs
    rintro τ1 rfl
    refine ⟨fun a h1 h2 => ?_, ⟨?_, ?_, ?_, ?_, ?_, ?_, ?_⟩, rfl⟩
    · rw [xs_ne (by omega), xs_ne (by omega), xs_ne (by omega), xs_ne (by omega), xs_ne (by omega), xs_ne (by omega), xs_ne h1]
    · rw [xs_ne (by decide), xs_ne (by decide), xs_ne (by decide), xs_ne (by decide), xs_ne (by decide), xs_ne (by decide), xs_at]
    · rw [xs_ne (by decide), xs_ne (by decide), xs_ne (by decide), xs_ne (by decide), xs_ne (by decide), xs_at, xs_ne (by decide), e1]
    · rw [xs_ne (by decide), xs_ne (by decide), xs_ne (by decide), xs_ne (by decide), xs_at, xs_ne (by decide), xs_ne (by decide), e2]
    · rw [xs_ne (by decide), xs_ne (by decide), xs_ne (by decide), xs_at, xs_ne (by decide), xs_ne (by decide), xs_ne (by decide), e3]
    · rw [xs_ne (by decide), xs_ne (by decide), xs_at, xs_ne (by decide), xs_ne (by decide), xs_ne (by decide), xs_ne (by decide), e4]
    · rw [xs_ne (by decide), xs_at, xs_ne (by decide), xs_ne (by decide), xs_ne (by decide), xs_ne (by decide), xs_ne (by decide), e5]
    · rw [xs_at, xs_ne (by decide), xs_ne (by decide), xs_ne (by decide), xs_ne (by decide), xs_ne (by decide), xs_ne (by decide), e6]
  obtain ⟨hfr, ⟨c216, c222, c223, c224, c225, c226, c227⟩, c2⟩ := g _ rfl
  generalize xs (xs (xs (xs (xs (xs (xs σ 216 14 ((n : Int) + 1)) 222 n s) 223 n d) 224 n p) 225 n (σ.1 305 0)) 226 n (-1)) 227 n b = τ1 at *
  have k220 := hfr 220 (by decide) (by decide)
  have k221 := hfr 221 (by decide) (by decide)
  have k228 := hfr 228 (by decide) (by decide)
  obtain ⟨τ, q1, q2, q3, q4, q5, q6, q7⟩ := B_putInOrder (τ := τ1) (n := n) (L := bk_ch σ.1 s n) (hJ.xs hs) hn6 (fun j hj => (bk_ch_mem.mp hj).1) (by rw [k228, k220]; exact hfs.1) (by rw [k221]; exact hfs.2) (Nat.le_trans hlen (Nat.le_of_lt hn6)) (by rw [c223]; exact bk_so_xup bk_ch_so fun j hj => (bk_ch_mem.mp hj).1) nodup_ch
  refine ⟨τ, by rw [q1, Option.bind_some, qBook_addMove_75], q2.trans c2, fun a h1 h2 => ?_, ⟨?_, ?_, ?_, ?_, ?_, ?_, ?_⟩, ?_, fun x h1 h2 => ?_, fun x hx => ?_, ?_⟩
  · rw [q3 a (by omega) (by omega) (by omega), hfr a h1 (by omega)]
  · rw [q3 _ (by decide) (by decide) (by decide), c216]
  · rw [q3 _ (by decide) (by decide) (by decide), c222]
  · rw [q3 _ (by decide) (by decide) (by decide), c223]
  · rw [q3 _ (by decide) (by decide) (by decide), c224]
  · rw [q3 _ (by decide) (by decide) (by decide), c225]
  · rw [q3 _ (by decide) (by decide) (by decide), c226]
  · rw [q3 _ (by decide) (by decide) (by decide), c227]
  · rw [c223] at q5
    exact q5
  · rw [q6 x h1 h2, k228]
  · rw [q7 x hx, k220]
  · rw [q4, k221]
/-- the reference's -/
theorem M_addMove {τ : xS} {s d p b : Int} {n : Nat} (hn : τ.1 305 22 = n) (hn6 : n < 600) :
    ∃ ω, X iM_addMove 0 [(2, 305), (0, s), (0, d), (0, p), (0, b)] [] τ = some ((0, (n : Int)), ω) ∧ ω.2 = τ.2 ∧ (∀ a, a ≠ 305 → (a < 318 ∨ 323 < a) → ω.1 a = τ.1 a) ∧
      (ω.1 305 = xup (τ.1 305) 22 ((n : Int) + 1) ∧ ω.1 318 = xup (τ.1 318) n s ∧ ω.1 319 = xup (τ.1 319) n d ∧ ω.1 320 = xup (τ.1 320) n p ∧ ω.1 321 = xup (τ.1 321) n (τ.1 305 0) ∧ ω.1 322 = xup (τ.1 322) n (-1) ∧ ω.1 323 = xup (τ.1 323) n b) := by
  have hx : xin (n : Int) 600 := ⟨by omega, by omega⟩
  have w1 : xw ((n : Int) + 1) = (n : Int) + 1 := xw_id (by omega) (by omega)
  have w2 : xw ((n : Int) + 1 - 1) = (n : Int) := by rw [xw_id (by omega) (by omega)]; omega
  have a22 : τ.1 305 22 = n := hn
  have a0 : τ.1 305 0 = τ.1 305 0 := rfl
  rw [qM_addMove_0, a22, a0, w1, w2, Int.toNat_natCast, if_pos hx, if_pos hx, if_pos hx, if_pos hx, if_pos hx, if_pos hx]
  refine ⟨_, rfl, rfl, fun a h1 h2 => ?_, ?_, ?_, ?_, ?_, ?_, ?_, ?_⟩
  · rw [xs_ne h1, xs_ne (by omega), xs_ne (by omega), xs_ne (by omega), xs_ne (by omega), xs_ne (by omega), xs_ne (by omega)]
  · rw [xs_at, xs_ne (by decide), xs_ne (by decide), xs_ne (by decide), xs_ne (by decide), xs_ne (by decide), xs_ne (by decide)]
  · rw [xs_ne (by decide), xs_ne (by decide), xs_ne (by decide), xs_ne (by decide), xs_ne (by decide), xs_ne (by decide), xs_at]
  · rw [xs_ne (by decide), xs_ne (by decide), xs_ne (by decide), xs_ne (by decide), xs_ne (by decide), xs_at, xs_ne (by decide)]
  · rw [xs_ne (by decide), xs_ne (by decide), xs_ne (by decide), xs_ne (by decide), xs_at, xs_ne (by decide), xs_ne (by decide)]
  · rw [xs_ne (by decide), xs_ne (by decide), xs_ne (by decide), xs_at, xs_ne (by decide), xs_ne (by decide), xs_ne (by decide)]
  · rw [xs_ne (by decide), xs_ne (by decide), xs_at, xs_ne (by decide), xs_ne (by decide), xs_ne (by decide), xs_ne (by decide)]
  · rw [xs_ne (by decide), xs_at, xs_ne (by decide), xs_ne (by decide), xs_ne (by decide), xs_ne (by decide), xs_ne (by decide)]
theorem bk_addMove (hJ : bk_J σ.1) {s d p b : Int} (hs : 0 ≤ s ∧ s < σ.1 305 15) (hd : σ.1 317 s.toNat ≤ d ∧ d ≤ σ.1 305 0) (hp : bk_isP σ.1 p) (hf : σ.1 305 22 < 600) :
    ∃ τ τ', X iBook_addMove 0 [(2, 216), (0, s), (0, d), (0, p), (0, b), (9, 0)] [] σ = some ((0, σ.1 305 22), τ) ∧ X iM_addMove 0 [(2, 305), (0, s), (0, d), (0, p), (0, b)] [] τ = some ((0, σ.1 305 22), τ') ∧ τ.2 = σ.2 ∧ τ'.2 = σ.2 ∧ bk_J τ'.1 ∧
      (∀ a, a ≠ 216 → (a < 220 ∨ 228 < a) → τ.1 a = σ.1 a) ∧ (∀ k, k ≠ 14 → τ'.1 216 k = σ.1 216 k) ∧ (∀ k, k ≠ 22 → τ'.1 305 k = σ.1 305 k) ∧ (∀ a, a ≠ 216 → a ≠ 305 → (a < 220 ∨ 228 < a) → (a < 318 ∨ 323 < a) → τ'.1 a = σ.1 a) := by
  obtain ⟨n, hn⟩ : ∃ n : Nat, σ.1 305 22 = n := ⟨(σ.1 305 22).toNat, by have := hJ.1.1; clear hp; omega⟩
  have hn6 : n < 600 := by clear hp; omega
  rw [hn]
  obtain ⟨τ, q1, q2, q3, ⟨q4, q5, q6, q7, q8, q9, q10⟩, q11, q12, q13, q14⟩ := B_addMove hJ (d := d) (p := p) (b := b) hn hs hn6
  have f305 : τ.1 305 = σ.1 305 := q3 305 (by decide) (by decide)
  obtain ⟨ω, p1, p2, p3, p4, p5, p6, p7, p8, p9, p10⟩ := M_addMove (τ := τ) (s := s) (d := d) (p := p) (b := b) (n := n) (by rw [f305]; exact hn) hn6
  rw [q3 318 (by decide) (by decide)] at p5
  rw [q3 319 (by decide) (by decide)] at p6
  rw [q3 320 (by decide) (by decide)] at p7
  rw [q3 321 (by decide) (by decide), f305] at p8
  rw [q3 322 (by decide) (by decide)] at p9
  rw [q3 323 (by decide) (by decide)] at p10
  rw [f305] at p4
  have r305 : ∀ k, k ≠ 22 → ω.1 305 k = σ.1 305 k := fun k hk => by rw [p4]; exact xup_ne hk
  have r22 : ω.1 305 22 = (n : Int) + 1 := by rw [p4]; exact xup_eq
  obtain ⟨-, ⟨e7, e8, e9⟩, e10, e11, e12, e13⟩ := hJ.2.1
  have t : ∀ a, a < 305 → ω.1 a = τ.1 a := fun a h => p3 a (by omega) (by omega)
  have r315 : ω.1 315 = σ.1 315 := by rw [p3 315 (by decide) (by decide), q3 315 (by decide) (by decide)]
  have r316 : ω.1 316 = σ.1 316 := by rw [p3 316 (by decide) (by decide), q3 316 (by decide) (by decide)]
  have r317 : ω.1 317 = σ.1 317 := by rw [p3 317 (by decide) (by decide), q3 317 (by decide) (by decide)]
  have u216 : ∀ k, k ≠ 14 → ω.1 216 k = σ.1 216 k := fun k hk => by rw [t 216 (by decide), q4]; exact xup_ne hk
  have hQ : bk_Q ω.1 := by
    refine ⟨⟨?_, ?_, ?_, ?_, ?_, ?_⟩, ⟨?_, ?_, ?_⟩, ?_, ?_, ?_, ?_⟩
    · rw [t 222 (by decide), q5, p5]
    · rw [t 223 (by decide), q6, p6]
    · rw [t 224 (by decide), q7, p7]
    · rw [t 225 (by decide), q8, p8]
    · rw [t 226 (by decide), q9, p9]
    · rw [t 227 (by decide), q10, p10]
    · rw [t 217 (by decide), q3 217 (by decide) (by decide), r315, e7]
    · rw [t 218 (by decide), q3 218 (by decide) (by decide), r316, e8]
    · rw [t 219 (by decide), q3 219 (by decide) (by decide), r317, e9]
    · rw [t 216 (by decide), q4, r22]; exact xup_eq
    · rw [u216 _ (by decide), r305 _ (by decide), e11]
    · rw [u216 _ (by decide), r305 _ (by decide), e12]
    · rw [u216 _ (by decide), r305 _ (by decide), e13]
  refine ⟨τ, ω, q1, p1, q2, p2.trans q2, ?_, q3, u216, r305, fun a h1 h2 h3 h4 => ?_⟩
  · exact bk_J_add hJ hn hs hd hp hn6 r305 r22 p5 p6 p7 p8 p9 r315 r316 r317 hQ (by rw [t 228 (by decide), t 220 (by decide)]; exact q11) (fun x h1 h2 => by rw [t 228 (by decide)]; exact q12 x h1 h2) (fun x h1 => by rw [t 220 (by decide)]; exact q13 x h1) (by rw [t 221 (by decide)]; exact q14)
  · rw [p3 a h2 h4, q3 a h1 h3]
end BOOKE

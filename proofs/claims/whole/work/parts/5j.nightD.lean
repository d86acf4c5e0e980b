/-! the night: the class's search -/
theorem bz_or : ∀ v : Nat, v < 128 → ∀ x : Nat, x < 7 → (0 ≤ xior (v : Int) (xshl 1 (x : Int)) ∧ xior (v : Int) (xshl 1 (x : Int)) < 128) ∧ ∀ h : Nat, h < 7 → (bz (xior (v : Int) (xshl 1 (x : Int))) h ↔ bz v h ∧ h ≠ x) := by decide +kernel
/-- what is still to be done -/
def bokD (n : Nat) (v : Int) (l : List Nat) : Prop := (0 ≤ v ∧ v < 128) ∧ ∀ h : Nat, h < n → (bz v h ↔ h ∈ l)
theorem bokD_rm {n : Nat} {v : Int} {A B : List Nat} {x : Nat} (hn : n ≤ 7) (h : bokD n v (A ++ x :: B)) (ha : asc (A ++ x :: B)) (hx : x < n) : bokD n (xior v (xshl 1 (x : Int))) (A ++ B) := by
  obtain ⟨k, hk⟩ : ∃ k : Nat, v = k := ⟨v.toNat, by have := h.1; omega⟩
  subst hk
  obtain ⟨h1, h2⟩ := bz_or k (by have := h.1; omega) x (by omega)
  have hm := nodup_mid (asc_nodup ha)
  refine ⟨h1, fun y hy => ?_⟩
  rw [h2 y (by omega), h.2 y hy]
  constructor
  · rintro ⟨q, e⟩
    rcases List.mem_append.mp q with q | q
    · exact List.mem_append_left _ q
    · rcases List.mem_cons.mp q with q | q
      · exact absurd q e
      · exact List.mem_append_right _ q
  · intro q
    rcases List.mem_append.mp q with q | q
    · exact ⟨List.mem_append_left _ q, fun e => hm.1 (by rw [← e]; exact q)⟩
    · exact ⟨List.mem_append_right _ (List.mem_cons_of_mem _ q), fun e => hm.2 (by rw [← e]; exact q)⟩
theorem xcopy_270 (τ : xS) (n i : Nat) : (xcopy xE1 τ 268 0 270 0 n).1 270 i = if i < n then τ.1 268 i else τ.1 270 i := by
  show cond (Nat.beq 270 270 && (Nat.ble 0 i && Nat.ble (i + 1) (0 + n))) (xag xE1 τ ((268 : Nat) : Int) (0 + (i - 0))) (τ.1 270 i) = _
  have e1 : xag xE1 τ ((268 : Nat) : Int) (0 + (i - 0)) = τ.1 268 (0 + (i - 0)) := rfl
  rw [e1, show 0 + (i - 0) = i by omega, show 0 + n = n by omega, beq_tt, Bool.true_and]
  by_cases h : i < n
  · rw [if_pos h, show Nat.ble 0 i = true from Nat.ble_eq_true_of_le (Nat.zero_le i), show Nat.ble (i + 1) n = true from Nat.ble_eq_true_of_le h]
    rfl
  · rw [if_neg h]
    cases hb : Nat.ble (i + 1) n with
    | true => exact absurd (Nat.le_of_ble_eq_true hb) (by omega)
    | false => rw [Bool.and_false]; rfl
theorem xcopy_271 (τ : xS) (n i : Nat) : (xcopy xE1 τ 269 0 271 0 n).1 271 i = if i < n then τ.1 269 i else τ.1 271 i := by
  show cond (Nat.beq 271 271 && (Nat.ble 0 i && Nat.ble (i + 1) (0 + n))) (xag xE1 τ ((269 : Nat) : Int) (0 + (i - 0))) (τ.1 271 i) = _
  have e1 : xag xE1 τ ((269 : Nat) : Int) (0 + (i - 0)) = τ.1 269 (0 + (i - 0)) := rfl
  rw [e1, show 0 + (i - 0) = i by omega, show 0 + n = n by omega, beq_tt, Bool.true_and]
  by_cases h : i < n
  · rw [if_pos h, show Nat.ble 0 i = true from Nat.ble_eq_true_of_le (Nat.zero_le i), show Nat.ble (i + 1) n = true from Nat.ble_eq_true_of_le h]
    rfl
  · rw [if_neg h]
    cases hb : Nat.ble (i + 1) n with
    | true => exact absurd (Nat.le_of_ble_eq_true hb) (by omega)
    | false => rw [Bool.and_false]; rfl
theorem xcopyN {τ : xS} {s d n a : Nat} (h : a ≠ d) : (xcopy xE1 τ s 0 d 0 n).1 a = τ.1 a := by
  funext j
  show cond (Nat.beq a d && _) _ (τ.1 a j) = τ.1 a j
  rw [beq_ff h]
  rfl
section NIGHTD
variable {σ : xS}
def oN (τ : xS) (p : List Nat) : Prop := ∀ i, i < p.length → τ.1 268 i = ((p.getD i 0 : Nat) : Int)
def dN (m : Nat → Nat → Int) (mx : Int → Int → Bool) (τ : xS) (p : List Nat) : Prop := ∀ j, j ∈ p → τ.1 269 j = (ng_p m mx p).2.2 j
def nb (m : Nat → Nat → Int) (mx : Int → Int → Bool) (τ : xS) (b : (Int × Int) × List Nat) : Prop := τ.1 258 18 = b.1.1 ∧ τ.1 258 19 = b.1.2 ∧ (∀ i, i < b.2.length → τ.1 270 i = ((b.2.getD i 0 : Nat) : Int)) ∧ ∀ j, j ∈ b.2 → τ.1 271 j = (ng_p m mx b.2).2.2 j
/-- all that stands along an order -/
def nA (σ : xS) (mx : Int → Int → Bool) (τ : xS) (p : List Nat) (b : (Int × Int) × List Nat) : Prop := nf σ τ ∧ nsC mx (ng_p σ.1 mx p).1 τ ∧ oN τ p ∧ dN σ.1 mx τ p ∧ nb σ.1 mx τ b
theorem C_full {mx : Int → Int → Bool} {p : List Nat} {n : Nat} (hpn : p.length = n) (hp : ∀ x ∈ p, x < n) {τ : xS} {b : (Int × Int) × List Nat} (h : nA σ mx τ p b) :
    nA σ mx (xcopy xE1 (xcopy xE1 (xs (xs τ 258 18 (ng_p σ.1 mx p).2.1.1) 258 19 (ng_p σ.1 mx p).2.1.2) 268 0 270 0 n) 269 0 271 0 n) p ((ng_p σ.1 mx p).2.1, p) := by
  obtain ⟨hf, hs, ho, hd, hbt⟩ := h
  have fr : ∀ a, a ≠ 258 → a ≠ 270 → a ≠ 271 → (xcopy xE1 (xcopy xE1 (xs (xs τ 258 18 (ng_p σ.1 mx p).2.1.1) 258 19 (ng_p σ.1 mx p).2.1.2) 268 0 270 0 n) 269 0 271 0 n).1 a = τ.1 a := fun a h1 h2 h3 => by
    rw [xcopyN h3, xcopyN h2, xs_ne h1, xs_ne h1]
  have sl : (xcopy xE1 (xcopy xE1 (xs (xs τ 258 18 (ng_p σ.1 mx p).2.1.1) 258 19 (ng_p σ.1 mx p).2.1.2) 268 0 270 0 n) 269 0 271 0 n).1 258 = xup (xup (τ.1 258) 18 (ng_p σ.1 mx p).2.1.1) 19 (ng_p σ.1 mx p).2.1.2 := by
    rw [xcopyN (by decide), xcopyN (by decide), xs_at, xs_at]
  have c0 : ∀ i, i < n → (xcopy xE1 (xcopy xE1 (xs (xs τ 258 18 (ng_p σ.1 mx p).2.1.1) 258 19 (ng_p σ.1 mx p).2.1.2) 268 0 270 0 n) 269 0 271 0 n).1 270 i = τ.1 268 i := fun i hi => by
    rw [xcopyN (by decide), xcopy_270, if_pos hi, xs_ne (by decide), xs_ne (by decide)]
  have c1 : ∀ i, i < n → (xcopy xE1 (xcopy xE1 (xs (xs τ 258 18 (ng_p σ.1 mx p).2.1.1) 258 19 (ng_p σ.1 mx p).2.1.2) 268 0 270 0 n) 269 0 271 0 n).1 271 i = τ.1 269 i := fun i hi => by
    rw [xcopy_271, if_pos hi, xcopyN (by decide), xs_ne (by decide), xs_ne (by decide)]
  generalize xcopy xE1 (xcopy xE1 (xs (xs τ 258 18 (ng_p σ.1 mx p).2.1.1) 258 19 (ng_p σ.1 mx p).2.1.2) 268 0 270 0 n) 269 0 271 0 n = ω at *
  refine ⟨⟨fun a a1 a2 => ?_, fun k k1 k2 k3 => ?_⟩, ⟨fun w hw => ?_, fun x y hx hy => ?_⟩, fun i hi => ?_, fun j hj => ?_, ?_, ?_, fun i hi => ?_, fun j hj => ?_⟩
  · rw [fr a a2 (by omega) (by omega)]
    exact hf.1 a a1 a2
  · rw [sl, xup_ne k2, xup_ne k1]
    exact hf.2 k k1 k2 k3
  · rw [fr 265 (by decide) (by decide) (by decide), fr 266 (by decide) (by decide) (by decide), fr 267 (by decide) (by decide) (by decide)]
    exact hs.1 w hw
  · rw [sl, xup_ne (by decide), xup_ne (by decide)]
    exact hs.2 x y hx hy
  · rw [fr 268 (by decide) (by decide) (by decide)]
    exact ho i hi
  · rw [fr 269 (by decide) (by decide) (by decide)]
    exact hd j hj
  · rw [sl, xup_ne (by decide), xup_eq]
  · rw [sl, xup_eq]
  · have hi : i < p.length := hi
    rw [c0 i (by omega)]
    exact ho i hi
  · have hj : j ∈ p := hj
    rw [c1 j (hp j hj)]
    exact hd j hj
theorem ng_cut (hP : pJ σ.1) (mx : Int → Int → Bool) {p r : List Nat} (hp : ∀ x ∈ p ++ r, (x : Int) < σ.1 305 107) : ¬ btr (ng_p σ.1 mx (p ++ r)).2.1 (ng_p σ.1 mx p).2.1 := by
  have := ng_mono hP mx hp
  unfold btr
  omega
theorem xup_re {f : Nat → Int} {w : Nat} {v : Int} : xup (xup f w v) w (f w) = f := by
  funext k
  rw [xup_at, xup_at]
  by_cases e : k = w
  · rw [if_pos e, e]
  · rw [if_neg e, if_neg e]
theorem C_search (hP : pJ σ.1) (h1 : 1 ≤ σ.1 305 102) {mx : Int → Int → Bool} {n : Nat} (hn : σ.1 305 107 = (n : Int)) : ∀ (r : Nat) (rest p : List Nat) (v : Int) (τ : xS) (b : (Int × Int) × List Nat), rest.length = r → asc rest → (∀ x ∈ p ++ rest, x < n) → p.length + r = n → (∀ x ∈ rest, x ∉ p) → bokD n v rest → nA σ mx τ p b → 2 * r ≤ xdp τ →
    ∃ τ', X iNight_search 0 [(2, 258), (0, (p.length : Int)), (0, v), (0, (ng_p σ.1 mx p).2.1.1), (0, (ng_p σ.1 mx p).2.1.2), (9, 0), (9, 0)] [] τ = some ((9, 0), τ') ∧ τ'.2 = τ.2 ∧ nA σ mx τ' p (bst (fun q => (ng_p σ.1 mx q).2.1) b ((ps r rest).map (p ++ ·))) := by
  have hN := hP.2.2.2.2.2.2.1
  have h107 := hN.2.2.2.2.1
  intro r
  induction r with
  | zero =>
    intro rest p v τ b hr ha hlt hpl hdis hv hA _
    have hrest : rest = [] := List.length_eq_zero_iff.mp hr
    subst hrest
    rw [List.append_nil] at hlt
    have hpn : p.length = n := by omega
    have e9 : τ.1 258 9 = (n : Int) := by rw [hA.1.2 9 (by decide) (by decide) (by decide), ← hn]; exact hN.2.1.2.2.2
    have e0 : bst (fun q => (ng_p σ.1 mx q).2.1) b ((ps 0 []).map (p ++ ·)) = if btr (ng_p σ.1 mx p).2.1 b.1 then ((ng_p σ.1 mx p).2.1, p) else b := by
      show bst (fun q => (ng_p σ.1 mx q).2.1) b [p ++ []] = _
      rw [List.append_nil]
      rfl
    have full := C_full hpn hlt hA
    have g1 : (((0 : Int) ≤ 0 ∧ (0 : Int) ≤ 0) ∧ (0 : Int) ≤ (n : Int)) ∧ (0 + (n : Int) ≤ (7 : Int) ∧ 0 + (n : Int) ≤ (7 : Int)) := by omega
    have e10 : (xcopy xE1 (xs (xs τ 258 18 (ng_p σ.1 mx p).2.1.1) 258 19 (ng_p σ.1 mx p).2.1.2) 268 0 270 0 n).1 258 9 = (n : Int) := by
      rw [xcopyN (by decide), xs_at, xs_at, xup_ne (by decide), xup_ne (by decide), e9]
    rw [e0, qNight_search_0, e9, hA.2.2.2.2.1, hA.2.2.2.2.2.1, if_neg (show ¬ (p.length : Int) < (n : Int) by omega), if_pos g1, Int.toNat_natCast, e10, if_pos g1, Int.toNat_natCast]
    by_cases c1 : (ng_p σ.1 mx p).2.1.1 < b.1.1
    · rw [if_pos c1, if_pos (show btr (ng_p σ.1 mx p).2.1 b.1 from Or.inl c1)]
      exact ⟨_, rfl, rfl, full⟩
    · rw [if_neg c1]
      by_cases c2 : (ng_p σ.1 mx p).2.1.1 = b.1.1
      · rw [if_pos c2]
        by_cases c3 : (ng_p σ.1 mx p).2.1.2 < b.1.2
        · rw [if_pos c3, if_pos (show btr (ng_p σ.1 mx p).2.1 b.1 from Or.inr ⟨c2, c3⟩)]
          exact ⟨_, rfl, rfl, full⟩
        · rw [if_neg c3, if_neg (show ¬ btr (ng_p σ.1 mx p).2.1 b.1 from fun q => q.elim c1 fun q => c3 q.2)]
          exact ⟨τ, rfl, rfl, hA⟩
      · rw [if_neg c2, if_neg (show ¬ btr (ng_p σ.1 mx p).2.1 b.1 from fun q => q.elim c1 fun q => c2 q.1)]
        exact ⟨τ, rfl, rfl, hA⟩
  | succ r ih =>
    intro rest p v τ b hr ha hlt hpl hdis hv hA hdp
    have hpN : ∀ x ∈ p, (x : Int) < σ.1 305 107 := fun x hx => by have := hlt x (List.mem_append_left _ hx); omega
    have hrn : ∀ x ∈ rest, x < n := fun x hx => hlt x (List.mem_append_right _ hx)
    have loop : ∀ (u h : Nat) (A B : List Nat) (w5 : xAV) (τ1 : xS), h + u = n → rest = A ++ B → (∀ a ∈ A, a < h) → (∀ x ∈ B, h ≤ x) → τ1.2 = τ.2 → nA σ mx τ1 p (bst (fun q => (ng_p σ.1 mx q).2.1) b ((A.flatMap fun x => (ps r (rest.erase x)).map (x :: ·)).map (p ++ ·))) →
        ∃ τ', X iNight_search 95 [(2, 258), (0, (p.length : Int)), (0, v), (0, (ng_p σ.1 mx p).2.1.1), (0, (ng_p σ.1 mx p).2.1.2), w5, (0, (h : Int))] [] τ1 = some ((9, 0), τ') ∧ τ'.2 = τ.2 ∧ nA σ mx τ' p (bst (fun q => (ng_p σ.1 mx q).2.1) b ((ps (r + 1) rest).map (p ++ ·))) := by
      intro u
      induction u with
      | zero =>
        intro h A B w5 τ1 hh hAB hA' hB h2 hA1
        have hBn : B = [] := List.eq_nil_iff_forall_not_mem.mpr fun x hx => by
          have := hB x hx
          have := hrn x (by rw [hAB]; exact List.mem_append_right _ hx)
          omega
        subst hBn
        rw [List.append_nil] at hAB
        subst hAB
        have e9 : τ1.1 258 9 = (n : Int) := by rw [hA1.1.2 9 (by decide) (by decide) (by decide), ← hn]; exact hN.2.1.2.2.2
        rw [qNight_search_95, e9, if_neg (by omega)]
        exact ⟨τ1, rfl, h2, hA1⟩
      | succ u ihu =>
        intro h A B w5 τ1 hh hAB hA' hB h2 hA1
        have e9 : τ1.1 258 9 = (n : Int) := by rw [hA1.1.2 9 (by decide) (by decide) (by decide), ← hn]; exact hN.2.1.2.2.2
        rw [qNight_search_95, e9, if_pos (by omega)]
        by_cases hin : h ∈ rest
        · have hbz : bz v h := (hv.2 h (by omega)).mpr hin
          have hB' : ∃ B', B = h :: B' := by
            rw [hAB] at hin
            rcases List.mem_append.mp hin with q | q
            · exact absurd (hA' h q) (Nat.lt_irrefl h)
            · cases B with
              | nil => exact absurd q List.not_mem_nil
              | cons y B' =>
                refine ⟨B', ?_⟩
                rcases List.mem_cons.mp q with e | q2
                · rw [e]
                · have e1 := hB y List.mem_cons_self
                  rw [hAB] at ha
                  have e2 := (asc_app.mp ha).2.1.1 h q2
                  omega
          obtain ⟨B', rfl⟩ := hB'
          have he : rest.erase h = A ++ B' := by rw [hAB]; exact asc_erase (by rw [← hAB]; exact ha)
          have hhN : (h : Int) < σ.1 305 107 := by omega
          have hxk : xin (p.length : Int) 7 := ⟨by omega, by omega⟩
          have hd1 : 0 < xdp (xs τ1 268 p.length (h : Int)) := by
            show 0 < τ1.2.2.2.1
            rw [h2]
            show 0 < xdp τ
            omega
          have hxd : xdp (xs τ1 268 p.length (h : Int)) = xdp τ := by
            show τ1.2.2.2.1 = τ.2.2.2.1
            rw [h2]
          have hsub : ∀ x ∈ A ++ B', x ∈ rest := fun x hx => by
            rw [hAB]
            rcases List.mem_append.mp hx with q | q
            · exact List.mem_append_left _ q
            · exact List.mem_append_right _ (List.mem_cons_of_mem _ q)
          have hmid := nodup_mid (l0 := A) (a := h) (l := B') (by rw [← hAB]; exact asc_nodup ha)
          have hlt2 : ∀ x ∈ (p ++ [h]) ++ (A ++ B'), x < n := by
            intro x hx
            rcases List.mem_append.mp hx with q | q
            · rcases List.mem_append.mp q with q | q
              · have := hpN x q; omega
              · rw [List.mem_singleton.mp q]; omega
            · exact hrn x (hsub x q)
          have hlen2 : (A ++ B').length = r := by
            have := hr
            rw [hAB, List.length_append, List.length_cons] at this
            rw [List.length_append]; omega
          have hlp : (p ++ [h]).length = p.length + 1 := by rw [List.length_append]; rfl
          have hdis2 : ∀ x ∈ A ++ B', x ∉ p ++ [h] := fun x hx q => by
            rcases List.mem_append.mp q with q | q
            · exact hdis x (hsub x hx) q
            · rw [List.mem_singleton.mp q] at hx
              rcases List.mem_append.mp hx with q | q
              · exact hmid.1 q
              · exact hmid.2 q
          -- at the job
          have hnf : nf σ (xs τ1 268 p.length (h : Int)) := ⟨fun a a1 a2 => by rw [xs_ne (by omega)]; exact hA1.1.1 a a1 a2, fun k k1 k2 k3 => by rw [xs_ne (by decide)]; exact hA1.1.2 k k1 k2 k3⟩
          have hns : nsC mx (ng_p σ.1 mx p).1 (xs τ1 268 p.length (h : Int)) := ⟨fun w hw => by rw [xs_ne (by decide), xs_ne (by decide), xs_ne (by decide)]; exact hA1.2.1.1 w hw, fun x y hx hy => by rw [xs_ne (by decide)]; exact hA1.2.1.2 x y hx hy⟩
          have ho1 : (xs τ1 268 p.length (h : Int)).1 268 p.length = (h : Int) := by rw [xs_at, xup_eq]
          have eg : (ng_p σ.1 mx (p ++ [h])).1 = ng_s σ.1 mx (ng_p σ.1 mx p).1 h := by rw [ng_snoc]; rfl
          have ed : (ng_p σ.1 mx (p ++ [h])).2.2 = xup (ng_p σ.1 mx p).2.2 h (ng_y σ.1 mx (ng_p σ.1 mx p).1 h) := by rw [ng_snoc]; rfl
          have hA2 : nA σ mx (xsetdp (xs (xs (xs (xs (xsetdp (xs τ1 268 p.length (h : Int)) (xdp τ - 1)) 265 (ng_w σ.1 mx (ng_p σ.1 mx p).1 h) (ng_r σ.1 mx (ng_p σ.1 mx p).1 (ng_w σ.1 mx (ng_p σ.1 mx p).1 h) h)) 266 (ng_w σ.1 mx (ng_p σ.1 mx p).1 h) (ng_k σ.1 h)) 267 (ng_d σ.1 (ng_p σ.1 mx p).1) (ng_y σ.1 mx (ng_p σ.1 mx p).1 h)) 269 h (ng_y σ.1 mx (ng_p σ.1 mx p).1 h)) (xdp τ - 1 - 1)) (p ++ [h]) (bst (fun q => (ng_p σ.1 mx q).2.1) b ((A.flatMap fun x => (ps r (rest.erase x)).map (x :: ·)).map (p ++ ·))) := by
            show nA σ mx (xs (xs (xs (xs (xs τ1 268 p.length (h : Int)) 265 (ng_w σ.1 mx (ng_p σ.1 mx p).1 h) (ng_r σ.1 mx (ng_p σ.1 mx p).1 (ng_w σ.1 mx (ng_p σ.1 mx p).1 h) h)) 266 (ng_w σ.1 mx (ng_p σ.1 mx p).1 h) (ng_k σ.1 h)) 267 (ng_d σ.1 (ng_p σ.1 mx p).1) (ng_y σ.1 mx (ng_p σ.1 mx p).1 h)) 269 h (ng_y σ.1 mx (ng_p σ.1 mx p).1 h)) (p ++ [h]) _
            refine ⟨⟨fun a a1 a2 => ?_, fun k k1 k2 k3 => ?_⟩, ⟨fun w hw => ?_, fun x y hx hy => ?_⟩, fun i hi => ?_, fun j hj => ?_, ?_, ?_, fun i hi => ?_, fun j hj => ?_⟩
            · rw [xs_ne (by omega), xs_ne (by omega), xs_ne (by omega), xs_ne (by omega)]
              exact hnf.1 a a1 a2
            · rw [xs_ne (by decide), xs_ne (by decide), xs_ne (by decide), xs_ne (by decide)]
              exact hnf.2 k k1 k2 k3
            · rw [eg]
              obtain ⟨s1, s2, s3⟩ := hns.1 w hw
              refine ⟨?_, ?_, ?_⟩
              · rw [xs_ne (by decide), xs_ne (by decide), xs_ne (by decide), xs_at, xup_at, s1]
                show _ = xup _ _ _ w
                rw [xup_at]
              · rw [xs_ne (by decide), xs_ne (by decide), xs_at, xup_at, xs_ne (by decide), s2]
                show _ = xup _ _ _ w
                rw [xup_at]
              · rw [xs_ne (by decide), xs_at, xup_at, xs_ne (by decide), xs_ne (by decide), s3]
                show _ = xup _ _ _ w
                rw [xup_at]
            · rw [xs_ne (by decide), xs_ne (by decide), xs_ne (by decide), xs_ne (by decide)]
              exact hns.2 x y hx hy
            · rw [xs_ne (by decide), xs_ne (by decide), xs_ne (by decide), xs_ne (by decide), xs_at, xup_at, getD_app]
              by_cases e : i = p.length
              · rw [if_pos e, if_neg (by omega), e, Nat.sub_self]
                rfl
              · rw [if_neg e, if_pos (by omega)]
                exact hA1.2.2.1 i (by omega)
            · rw [ed, xs_at, xup_at, xup_at]
              by_cases e : j = h
              · rw [if_pos e, if_pos e]
              · rw [if_neg e, if_neg e, xs_ne (by decide), xs_ne (by decide), xs_ne (by decide), xs_ne (by decide)]
                refine hA1.2.2.2.1 j ?_
                rcases List.mem_append.mp hj with q | q
                · exact q
                · exact absurd (List.mem_singleton.mp q) e
            · rw [xs_ne (by decide), xs_ne (by decide), xs_ne (by decide), xs_ne (by decide), xs_ne (by decide)]
              exact hA1.2.2.2.2.1
            · rw [xs_ne (by decide), xs_ne (by decide), xs_ne (by decide), xs_ne (by decide), xs_ne (by decide)]
              exact hA1.2.2.2.2.2.1
            · rw [xs_ne (by decide), xs_ne (by decide), xs_ne (by decide), xs_ne (by decide), xs_ne (by decide)]
              exact hA1.2.2.2.2.2.2.1 i hi
            · rw [xs_ne (by decide), xs_ne (by decide), xs_ne (by decide), xs_ne (by decide), xs_ne (by decide)]
              exact hA1.2.2.2.2.2.2.2 j hj
          obtain ⟨τ2, g1, g2, g3⟩ := ih (A ++ B') (p ++ [h]) (xior v (xshl 1 (h : Int))) _ _ hlen2 (asc_mid (by rw [← hAB]; exact ha)) hlt2 (by omega) hdis2 (bokD_rm (by omega) (by rw [← hAB]; exact hv) (by rw [← hAB]; exact ha) (by omega)) hA2 (by rw [setdp_dp]; omega)
          rw [hlp] at g1
          have try_ := C_tryNext hP h1 (mx := mx) hpN hhN (by omega) (v := v) (τ := xsetdp (xs τ1 268 p.length (h : Int)) (xdp τ - 1)) hnf hns ho1 (by rw [setdp_dp]; omega) g1
          rw [if_pos hbz, if_pos hxk, Int.toNat_natCast, nbeq0 hd1, cond_false, hxd, try_]
          simp only [Option.bind_some]
          rw [qNight_search_130, xw_s (by omega)]
          refine ihu (h + 1) (A ++ [h]) B' w5 _ (by omega) (by rw [hAB]; simp) (fun a q => ?_) (fun x q => ?_) ?_ ?_
          · rcases List.mem_append.mp q with q | q
            · exact Nat.lt_succ_of_lt (hA' a q)
            · rw [List.mem_singleton.mp q]; exact Nat.lt_succ_self h
          · rw [hAB] at ha
            exact (asc_app.mp ha).2.1.1 x q
          · have e1 : τ2.2.1 = τ.2.1 := by rw [g2, ← h2]; rfl
            have e2 : τ2.2.2.1 = τ.2.2.1 := by rw [g2, ← h2]; rfl
            have e3 : τ2.2.2.2.2 = τ.2.2.2.2 := by rw [g2, ← h2]; rfl
            show (τ2.2.1, τ2.2.2.1, xdp τ, τ2.2.2.2.2) = τ.2
            rw [e1, e2, e3]
            rfl
          · rw [List.flatMap_append, List.map_append, bst_app, List.flatMap_cons, List.flatMap_nil, List.append_nil, he, map_one]
            obtain ⟨k1, k2, k3, k4, k5⟩ := g3
            rw [eg] at k2
            show nA σ mx (xs (xs (xs τ2 265 (ng_w σ.1 mx (ng_p σ.1 mx p).1 h) ((ng_p σ.1 mx p).1.1 (ng_w σ.1 mx (ng_p σ.1 mx p).1 h))) 266 (ng_w σ.1 mx (ng_p σ.1 mx p).1 h) ((ng_p σ.1 mx p).1.2.1 (ng_w σ.1 mx (ng_p σ.1 mx p).1 h))) 267 (ng_d σ.1 (ng_p σ.1 mx p).1) ((ng_p σ.1 mx p).1.2.2 (ng_d σ.1 (ng_p σ.1 mx p).1))) p _
            refine ⟨⟨fun a a1 a2 => ?_, fun k q1 q2 q3 => ?_⟩, ⟨fun w hw => ?_, fun x y hx hy => ?_⟩, fun i hi => ?_, fun j hj => ?_, ?_, ?_, fun i hi => ?_, fun j hj => ?_⟩
            · rw [xs_ne (by omega), xs_ne (by omega), xs_ne (by omega)]
              exact k1.1 a a1 a2
            · rw [xs_ne (by decide), xs_ne (by decide), xs_ne (by decide)]
              exact k1.2 k q1 q2 q3
            · obtain ⟨s1, s2, s3⟩ := k2.1 w hw
              have s1 : τ2.1 265 w = xup (ng_p σ.1 mx p).1.1 (ng_w σ.1 mx (ng_p σ.1 mx p).1 h) (ng_r σ.1 mx (ng_p σ.1 mx p).1 (ng_w σ.1 mx (ng_p σ.1 mx p).1 h) h) w := s1
              have s2 : τ2.1 266 w = xup (ng_p σ.1 mx p).1.2.1 (ng_w σ.1 mx (ng_p σ.1 mx p).1 h) (ng_k σ.1 h) w := s2
              have s3 : τ2.1 267 w = xup (ng_p σ.1 mx p).1.2.2 (ng_d σ.1 (ng_p σ.1 mx p).1) (ng_y σ.1 mx (ng_p σ.1 mx p).1 h) w := s3
              refine ⟨?_, ?_, ?_⟩
              · rw [xs_ne (by decide), xs_ne (by decide), xs_at, xup_at, s1, xup_at]
                by_cases e : w = ng_w σ.1 mx (ng_p σ.1 mx p).1 h
                · rw [if_pos e, ← e]
                · rw [if_neg e, if_neg e]
              · rw [xs_ne (by decide), xs_at, xup_at, xs_ne (by decide), s2, xup_at]
                by_cases e : w = ng_w σ.1 mx (ng_p σ.1 mx p).1 h
                · rw [if_pos e, ← e]
                · rw [if_neg e, if_neg e]
              · rw [xs_at, xup_at, xs_ne (by decide), xs_ne (by decide), s3, xup_at]
                by_cases e : w = ng_d σ.1 (ng_p σ.1 mx p).1
                · rw [if_pos e, ← e]
                · rw [if_neg e, if_neg e]
            · rw [xs_ne (by decide), xs_ne (by decide), xs_ne (by decide)]
              exact k2.2 x y hx hy
            · rw [xs_ne (by decide), xs_ne (by decide), xs_ne (by decide), k3 i (by omega), getD_app, if_pos hi]
            · rw [xs_ne (by decide), xs_ne (by decide), xs_ne (by decide), k4 j (List.mem_append_left _ hj), ed, xup_ne fun e => hdis h hin (by rw [← e]; exact hj)]
            · rw [xs_ne (by decide), xs_ne (by decide), xs_ne (by decide)]
              exact k5.1
            · rw [xs_ne (by decide), xs_ne (by decide), xs_ne (by decide)]
              exact k5.2.1
            · rw [xs_ne (by decide), xs_ne (by decide), xs_ne (by decide)]
              exact k5.2.2.1 i hi
            · rw [xs_ne (by decide), xs_ne (by decide), xs_ne (by decide)]
              exact k5.2.2.2 j hj
        · have hbz : ¬ bz v h := fun q => hin ((hv.2 h (by omega)).mp q)
          rw [if_neg hbz, qNight_search_130, xw_s (by omega)]
          refine ihu (h + 1) A B w5 τ1 (by omega) hAB (fun a q => Nat.lt_succ_of_lt (hA' a q)) (fun x q => ?_) h2 hA1
          have h3 := hB x q
          have : x ≠ h := fun e => hin (by rw [hAB, ← e]; exact List.mem_append_right _ q)
          omega
    have h95 := loop n 0 [] rest (0, 1) τ (by omega) rfl (fun a q => absurd q List.not_mem_nil) (fun x _ => Nat.zero_le x) rfl hA
    have h95 : ∃ τ', X iNight_search 95 [(2, 258), (0, (p.length : Int)), (0, v), (0, (ng_p σ.1 mx p).2.1.1), (0, (ng_p σ.1 mx p).2.1.2), (0, 1), (0, 0)] [] τ = some ((9, 0), τ') ∧ τ'.2 = τ.2 ∧ nA σ mx τ' p (bst (fun q => (ng_p σ.1 mx q).2.1) b ((ps (r + 1) rest).map (p ++ ·))) := h95
    have e9 : τ.1 258 9 = (n : Int) := by rw [hA.1.2 9 (by decide) (by decide) (by decide), ← hn]; exact hN.2.1.2.2.2
    rw [qNight_search_0, e9, hA.2.2.2.2.1, hA.2.2.2.2.2.1, if_pos (show (p.length : Int) < (n : Int) by omega)]
    by_cases c1 : (ng_p σ.1 mx p).2.1.1 < b.1.1
    · rw [if_pos c1]
      exact h95
    · rw [if_neg c1]
      by_cases c2 : (ng_p σ.1 mx p).2.1.1 = b.1.1 ∧ (ng_p σ.1 mx p).2.1.2 < b.1.2
      · rw [if_pos c2.1, if_pos c2.2]
        exact h95
      · refine ⟨τ, ?_, rfl, ?_⟩
        · refine xite (fun g1 => xite (fun g2 => absurd ⟨g1, g2⟩ c2) fun _ => rfl) fun _ => rfl
        · rw [bst_no fun q hq => ?_]
          · exact hA
          · obtain ⟨y, hy, rfl⟩ := List.mem_map.mp hq
            have hm := ps_mem hr (asc_nodup ha) hy
            exact btr_tr (ng_cut hP mx (p := p) (r := y) fun x hx => by
              rcases List.mem_append.mp hx with q | q
              · exact hpN x q
              · have := hrn x (hm.2.1 x q)
                omega) fun q => q.elim c1 c2
end NIGHTD

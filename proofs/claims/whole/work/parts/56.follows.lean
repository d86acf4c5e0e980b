/-! the reference's next order -/
theorem snocRec {P : List Nat → Prop} (nil : P []) (append_singleton : ∀ l a, P l → P (l ++ [a])) (l : List Nat) : P l := by
  have h : ∀ l : List Nat, P l.reverse := by
    intro l
    induction l with
    | nil => exact nil
    | cons x l ih =>
      rw [List.reverse_cons]
      exact append_singleton _ _ ih
  have := h l.reverse
  rwa [List.reverse_reverse] at this
theorem nx_pre {s s' : List Nat} (h : nx s = some s') : ∀ (a : List Nat), nx (a ++ s) = some (a ++ s')
  | [] => h
  | x :: a => by
    show (match nx (a ++ s) with
      | some r' => some (x :: r')
      | none => match swp x (a ++ s) with
        | some (y, r') => some (y :: r'.reverse)
        | none => none) = _
    rw [nx_pre h a]
    rfl
theorem nx_at {a C D : List Nat} {x y : Nat} (hf : asc (C ++ y :: D).reverse) (hy : x < y) (hD : ∀ z ∈ D, z ≤ x) : nx (a ++ x :: (C ++ y :: D)) = some (a ++ y :: (C ++ x :: D).reverse) := by
  refine nx_pre ?_ a
  have h1 : nx (C ++ y :: D) = none := by
    have := nx_last hf
    rwa [List.reverse_reverse] at this
  show (match nx (C ++ y :: D) with
    | some r' => some (x :: r')
    | none => match swp x (C ++ y :: D) with
      | some (z, r') => some (z :: r'.reverse)
      | none => none) = _
  rw [h1, swp_app hy hD]
theorem getD_app {l l' : List Nat} {i : Nat} : (l ++ l').getD i 0 = if i < l.length then l.getD i 0 else l'.getD (i - l.length) 0 := by
  simp only [List.getD_eq_getElem?_getD, List.getElem?_append]
  split <;> rfl
theorem getD_cons {x : Nat} {l : List Nat} {i : Nat} : (x :: l).getD i 0 = if i = 0 then x else l.getD (i - 1) 0 := by
  cases i with
  | zero => rfl
  | succ i => rfl
theorem getD_rev {l : List Nat} {i : Nat} (h : i < l.length) : l.reverse.getD i 0 = l.getD (l.length - 1 - i) 0 := by
  rw [List.getD_eq_getElem?_getD, List.getD_eq_getElem?_getD, List.getElem?_reverse h]
theorem asc_snoc {l : List Nat} {x : Nat} : asc (l ++ [x]) ↔ asc l ∧ ∀ y ∈ l, y < x := by
  rw [asc_app]
  simp [asc]
theorem split_at (l : List Nat) (i : Nat) (h : i < l.length) : l = l.take i ++ l.getD i 0 :: l.drop (i + 1) := by
  have e : l.drop i = l.getD i 0 :: l.drop (i + 1) := by
    rw [List.drop_eq_getElem_cons h]
    rw [List.getD_eq_getElem?_getD, List.getElem?_eq_getElem h]
    rfl
  rw [← e, List.take_append_drop]
section FOLLOWS
/-- the order as it lies there -/
def od (τ : xS) (p : List Nat) : Prop := ∀ i, i < p.length → τ.1 381 i = ((p.getD i 0 : Nat) : Int)
theorem M_follows_100 {n b : Nat} {s : List Nat} (hn : n ≤ 8) (hb : b + s.length = n) (w1 w2 : xAV) : ∀ (u k : Nat) (w3 w4 : xAV) (τ : xS), 2 * k + u = s.length + 1 → (∀ t, t < s.length → τ.1 381 (b + t) = (((if t < k ∨ s.length ≤ t + k then s.getD (s.length - 1 - t) 0 else s.getD t 0) : Nat) : Int)) →
    ∃ τ', X iM_follows 100 [(2, 305), w1, w2, w3, w4, (0, ((b + k : Nat) : Int)), (0, (n : Int) - 1 - k)] [] τ = some ((0, 1), τ') ∧ τ'.2 = τ.2 ∧ (∀ a, a ≠ 381 → τ'.1 a = τ.1 a) ∧ (∀ i, i < b → τ'.1 381 i = τ.1 381 i) ∧ ∀ t, t < s.length → τ'.1 381 (b + t) = ((s.reverse.getD t 0 : Nat) : Int) := by
  intro u
  induction u using Nat.strongRecOn with
  | ind u ih =>
    intro k w3 w4 τ hk h
    by_cases hc : ((b + k : Nat) : Int) < (n : Int) - 1 - k
    · have hx5 : xin ((b + k : Nat) : Int) 8 := ⟨by omega, by omega⟩
      have hx6 : xin ((n : Int) - 1 - k) 8 := ⟨by omega, by omega⟩
      have e6 : ((n : Int) - 1 - k).toNat = b + (s.length - 1 - k) := by omega
      have h5 := h k (by omega)
      have h6 := h (s.length - 1 - k) (by omega)
      rw [if_neg (by omega)] at h5 h6
      rw [qM_follows_100, if_pos hc, if_pos hx5, if_pos hx6, if_pos hx5, if_pos hx6, Int.toNat_natCast, e6, h5, h6, xw_id (x := ((b + k : Nat) : Int) + 1) (by omega) (by omega), xw_id (x := (n : Int) - 1 - k + (-1)) (by omega) (by omega)]
      obtain ⟨τ', q1, q2, q3, q4, q5⟩ := ih (u - 2) (by omega) (k + 1) (xkl w3) (0, ((s.getD k 0 : Nat) : Int)) (xs (xs τ 381 (b + k) ((s.getD (s.length - 1 - k) 0 : Nat) : Int)) 381 (b + (s.length - 1 - k)) ((s.getD k 0 : Nat) : Int)) (by omega) (fun t ht => by
        rw [xs_at, xs_at, xup_at, xup_at]
        by_cases e1 : t = s.length - 1 - k
        · rw [if_pos (by omega), if_pos (by omega), show s.length - 1 - t = k by omega]
        · rw [if_neg (by omega)]
          by_cases e2 : t = k
          · rw [if_pos (by omega), if_pos (by omega), e2]
          · rw [if_neg (by omega), h t ht]
            refine congrArg (fun x : Nat => (x : Int)) ?_
            by_cases e3 : t < k ∨ s.length ≤ t + k
            · rw [if_pos e3, if_pos (by omega)]
            · rw [if_neg e3, if_neg (by omega)])
      rw [show ((b + (k + 1) : Nat) : Int) = ((b + k : Nat) : Int) + 1 by omega, show (n : Int) - 1 - ((k + 1 : Nat) : Int) = (n : Int) - 1 - k + (-1) by omega] at q1
      refine ⟨τ', q1, q2, fun a ha => ?_, fun i hi => ?_, q5⟩
      · rw [q3 a ha, xs_ne ha, xs_ne ha]
      · rw [q4 i hi, xs_at, xs_at, xup_ne (by omega), xup_ne (by omega)]
    · rw [qM_follows_100, if_neg hc]
      refine ⟨τ, rfl, rfl, fun _ _ => rfl, fun _ _ => rfl, fun t ht => ?_⟩
      rw [h t ht, getD_rev ht]
      congr 2
      by_cases e3 : t < k ∨ s.length ≤ t + k
      · rw [if_pos e3]
      · rw [if_neg e3, show s.length - 1 - t = t by omega]
theorem M_follows_41 {n i : Nat} {a r : List Nat} {x : Nat} {p : List Nat} (hp : p = a ++ x :: r) (hi : a.length = i) (hn : p.length = n) (hn8 : n ≤ 8) (hf : asc r.reverse) (hx : ∃ y ∈ r, x < y) (hne : x ∉ r) {τ : xS} (ho : od τ p) (w4 w5 w6 : xAV) : ∀ (D C : List Nat) , r = C ++ D → (∀ z ∈ D, z < x) → ∀ j : Nat, D.length + j + 1 = n → ∃ C' y D', r = C' ++ y :: D' ∧ x < y ∧ (∀ z ∈ D', z < x) ∧
    X iM_follows 41 [(2, 305), (0, (n : Int)), (0, (i : Int)), (0, (j : Int)), w4, w5, w6] [] τ = X iM_follows 100 [(2, 305), (0, (n : Int)), (0, (i : Int)), (0, ((i + 1 + C'.length : Nat) : Int)), (0, (x : Int)), (0, ((i + 1 : Nat) : Int)), (0, (n : Int) - 1)] [] (xs (xs τ 381 i (y : Int)) 381 (i + 1 + C'.length) (x : Int)) := by
  have hln : n = i + 1 + r.length := by rw [← hn, hp, List.length_append, List.length_cons]; omega
  have hxi : xin (i : Int) 8 := ⟨by omega, by omega⟩
  have oi : τ.1 381 i = (x : Int) := by
    rw [ho i (by omega), hp, getD_app, if_neg (by omega), show i - a.length = 0 by omega]
    rfl
  intro D C
  induction C using snocRec generalizing D with
  | nil =>
    intro hr hD j hj
    obtain ⟨y, y1, y2⟩ := hx
    rw [hr] at y1
    have := hD y (by simpa using y1)
    omega
  | append_singleton C y ih =>
    intro hr hD j hj
    have hr2 : r = C ++ y :: D := by rw [hr]; simp
    have hlr : r.length = C.length + 1 + D.length := by rw [hr2, List.length_append, List.length_cons]; omega
    have ej : j = i + 1 + C.length := by omega
    have hxj : xin (j : Int) 8 := ⟨by omega, by omega⟩
    have oj : τ.1 381 j = (y : Int) := by
      rw [ho j (by omega), hp, hr2, getD_app, if_neg (by omega), getD_cons, if_neg (by omega), getD_app, if_neg (by omega), show j - a.length - 1 - C.length = 0 by omega]
      rfl
    rw [qM_follows_41, if_pos hxj, if_pos hxi, if_pos hxi, if_pos hxj, if_pos hxi, if_pos hxj, Int.toNat_natCast, Int.toNat_natCast, oi, oj]
    by_cases c : y < x
    · rw [if_pos (by omega), xw_id (x := (j : Int) + (-1)) (by omega) (by omega), show (j : Int) + (-1) = ((j - 1 : Nat) : Int) by omega]
      exact ih (y :: D) hr2 (fun z hz => by
        rcases List.mem_cons.mp hz with rfl | hz
        · exact c
        · exact hD z hz) (j - 1) (by rw [List.length_cons]; omega)
    · have hxy : x ≠ y := fun e => hne (by rw [hr2, e]; simp)
      rw [if_neg (by omega), xw_id (x := (i : Int) + 1) (by omega) (by omega), xw_id (x := (n : Int) - 1) (by omega) (by omega)]
      refine ⟨C, y, D, hr2, by omega, hD, ?_⟩
      rw [ej]
      rfl
theorem M_follows_4 {n : Nat} {p : List Nat} (hn : p.length = n) (hn8 : n ≤ 8) (hnd : nodup p) {τ : xS} (ho : od τ p) (w3 w4 w5 w6 : xAV) : ∀ (u : Nat) (w : Int), w = (u : Int) - 1 → u + 1 ≤ n → asc (p.drop u).reverse →
    ∃ τ', τ'.2 = τ.2 ∧ (∀ a, a ≠ 381 → τ'.1 a = τ.1 a) ∧ ((∃ q, nx p = some q ∧ X iM_follows 4 [(2, 305), (0, (n : Int)), (0, w), w3, w4, w5, w6] [] τ = some ((0, 1), τ') ∧ od τ' q ∧ q.length = n) ∨ (nx p = none ∧ X iM_follows 4 [(2, 305), (0, (n : Int)), (0, w), w3, w4, w5, w6] [] τ = some ((0, 0), τ') ∧ od τ' p)) := by
  intro u
  induction u with
  | zero =>
    intro w hw hu hf
    rw [qM_follows_4, if_pos (by omega), if_pos (by omega)]
    refine ⟨τ, rfl, fun _ _ => rfl, Or.inr ⟨?_, rfl, ho⟩⟩
    have := nx_last hf
    rwa [List.reverse_reverse, List.drop_zero] at this
  | succ u ih =>
    intro w hw hu hf
    have ew : w = (u : Int) := by omega
    subst ew
    have hx1 : xin (u : Int) 8 := ⟨by omega, by omega⟩
    have hx2 : xin ((u + 1 : Nat) : Int) 8 := ⟨by omega, by omega⟩
    have o1 := ho u (by omega)
    have o2 := ho (u + 1) (by omega)
    have hsp := split_at p u (by omega)
    have hsp2 : p.drop (u + 1) = p.getD (u + 1) 0 :: p.drop (u + 2) := by
      rw [List.drop_eq_getElem_cons (by omega), List.getD_eq_getElem?_getD, List.getElem?_eq_getElem (by omega)]
      rfl
    have hnm := nodup_mid (l0 := p.take u) (a := p.getD u 0) (l := p.drop (u + 1)) (by rw [← hsp]; exact hnd)
    rw [qM_follows_4, if_neg (by omega), if_pos hx1, show xw ((u : Int) + 1) = ((u + 1 : Nat) : Int) by rw [xw_s (by omega)]; rfl, if_pos hx2, Int.toNat_natCast, Int.toNat_natCast, o1, o2]
    by_cases c : p.getD (u + 1) 0 < p.getD u 0
    · rw [if_pos (by omega), xw_id (x := (u : Int) + (-1)) (by omega) (by omega)]
      refine ih _ (by omega) (by omega) ?_
      have e : p.drop u = p.getD u 0 :: p.drop (u + 1) := by
        rw [List.drop_eq_getElem_cons (by omega), List.getD_eq_getElem?_getD, List.getElem?_eq_getElem (by omega)]
        rfl
      rw [e, List.reverse_cons]
      refine asc_snoc.mpr ⟨hf, fun y hy => ?_⟩
      have hy := List.mem_reverse.mp hy
      rw [hsp2] at hy hf
      rw [List.reverse_cons] at hf
      rcases List.mem_cons.mp hy with rfl | hy
      · exact c
      · have := (asc_snoc.mp hf).2 y (List.mem_reverse.mpr hy)
        omega
    · rw [if_neg (by omega), if_neg (by omega), xw_id (x := (n : Int) - 1) (by omega) (by omega)]
      have hmem : p.getD (u + 1) 0 ∈ p.drop (u + 1) := by rw [hsp2]; exact List.mem_cons_self
      have hlt : p.getD u 0 < p.getD (u + 1) 0 := by
        have : p.getD u 0 ≠ p.getD (u + 1) 0 := fun e => hnm.2 (by rw [e]; exact hmem)
        omega
      have hlen : (p.take u).length = u := by rw [List.length_take]; omega
      have hdl : (p.drop (u + 1)).length = n - (u + 1) := by rw [List.length_drop]; omega
      obtain ⟨C, y, D, r1, r2, r3, r4⟩ := M_follows_41 (n := n) (i := u) (a := p.take u) (r := p.drop (u + 1)) (x := p.getD u 0) (p := p) hsp hlen hn hn8 hf ⟨_, hmem, hlt⟩ hnm.2 ho w4 w5 w6 [] (p.drop (u + 1)) (by simp) (fun z h => absurd h List.not_mem_nil) (n - 1) (by simp; omega)
      rw [show ((n - 1 : Nat) : Int) = (n : Int) - 1 by omega] at r4
      rw [r4]
      have hll : C.length + 1 + D.length = n - (u + 1) := by rw [← hdl, r1, List.length_append, List.length_cons]; omega
      have hsl : (C ++ p.getD u 0 :: D).length = n - (u + 1) := by rw [List.length_append, List.length_cons]; omega
      obtain ⟨τ', t1, t2, t3, t4, t5⟩ := M_follows_100 (n := n) (b := u + 1) (s := C ++ p.getD u 0 :: D) hn8 (by omega) (0, (n : Int)) (0, (u : Int)) ((C ++ p.getD u 0 :: D).length + 1) 0 (0, ((u + 1 + C.length : Nat) : Int)) (0, ((p.getD u 0 : Nat) : Int)) (xs (xs τ 381 u (y : Int)) 381 (u + 1 + C.length) ((p.getD u 0 : Nat) : Int)) (by omega) (fun t ht => by
        rw [if_neg (by omega), xs_at, xs_at, xup_at, xup_at]
        by_cases e1 : t = C.length
        · rw [if_pos (by omega), getD_app, if_neg (by omega), e1, Nat.sub_self]
          rfl
        · rw [if_neg (by omega), if_neg (by omega), ho _ (by omega)]
          refine congrArg (fun x : Nat => (x : Int)) ?_
          have ed : p.getD (u + 1 + t) 0 = (p.drop (u + 1)).getD t 0 := by rw [List.getD_eq_getElem?_getD, List.getD_eq_getElem?_getD, List.getElem?_drop]
          rw [ed, r1, getD_app, getD_app]
          by_cases e2 : t < C.length
          · rw [if_pos e2, if_pos e2]
          · rw [if_neg e2, if_neg e2, getD_cons, getD_cons, if_neg (by omega), if_neg (by omega)])
      have t1 : X iM_follows 100 [(2, 305), (0, (n : Int)), (0, (u : Int)), (0, ((u + 1 + C.length : Nat) : Int)), (0, ((p.getD u 0 : Nat) : Int)), (0, ((u + 1 : Nat) : Int)), (0, (n : Int) - 1)] [] (xs (xs τ 381 u (y : Int)) 381 (u + 1 + C.length) ((p.getD u 0 : Nat) : Int)) = some ((0, 1), τ') := by
        rw [← t1, Nat.add_zero, show (n : Int) - 1 - ((0 : Nat) : Int) = (n : Int) - 1 by omega]
      rw [t1]
      have hf2 : asc (C ++ y :: D).reverse := by rw [← r1]; exact hf
      have hq : nx p = some (p.take u ++ y :: (C ++ p.getD u 0 :: D).reverse) := by
        have := nx_at (a := p.take u) (C := C) (D := D) (x := p.getD u 0) (y := y) hf2 r2 fun z hz => Nat.le_of_lt (r3 z hz)
        rw [← r1, ← hsp] at this
        exact this
      refine ⟨τ', t2, fun a ha => by rw [t3 a ha, xs_ne ha, xs_ne ha], Or.inl ⟨_, hq, rfl, fun i hi => ?_, ?_⟩⟩
      · rw [List.length_append, List.length_cons, List.length_reverse, hlen] at hi
        rw [getD_app, hlen]
        by_cases c1 : i < u
        · rw [if_pos c1, t4 i (by omega), xs_at, xs_at, xup_ne (by omega), xup_ne (by omega), ho i (by omega)]
          refine congrArg (fun x : Nat => (x : Int)) ?_
          rw [List.getD_eq_getElem?_getD, List.getD_eq_getElem?_getD, List.getElem?_take, if_pos c1]
        · rw [if_neg c1, getD_cons]
          by_cases c2 : i = u
          · rw [if_pos (by omega), t4 i (by omega), xs_at, xs_at, xup_ne (by omega), xup_at, if_pos c2]
          · rw [if_neg (by omega)]
            have := t5 (i - (u + 1)) (by omega)
            rw [show u + 1 + (i - (u + 1)) = i by omega] at this
            rw [this, show i - u - 1 = i - (u + 1) by omega]
      · rw [List.length_append, List.length_cons, List.length_reverse, hlen]
        omega
theorem M_follows {n : Nat} {p : List Nat} (hn : p.length = n) (hn8 : n ≤ 8) (hnd : nodup p) {τ : xS} (ho : od τ p) :
    ∃ τ', τ'.2 = τ.2 ∧ (∀ a, a ≠ 381 → τ'.1 a = τ.1 a) ∧ ((∃ q, nx p = some q ∧ X iM_follows 0 [(2, 305), (0, (n : Int)), (9, 0), (9, 0), (9, 0), (9, 0), (9, 0)] [] τ = some ((0, 1), τ') ∧ od τ' q ∧ q.length = n) ∨ (nx p = none ∧ X iM_follows 0 [(2, 305), (0, (n : Int)), (9, 0), (9, 0), (9, 0), (9, 0), (9, 0)] [] τ = some ((0, 0), τ') ∧ od τ' p)) := by
  rw [qM_follows_0, xw_id (x := (n : Int) - 2) (by omega) (by omega)]
  cases n with
  | zero =>
    have : p = [] := List.length_eq_zero_iff.mp hn
    subst this
    rw [qM_follows_4, if_pos (by decide), if_pos (by decide)]
    exact ⟨τ, rfl, fun _ _ => rfl, Or.inr ⟨rfl, rfl, ho⟩⟩
  | succ n =>
    refine M_follows_4 hn hn8 hnd ho (9, 0) (9, 0) (9, 0) (9, 0) n _ (by omega) (by omega) ?_
    have e : p.drop n = [p.getD n 0] := by
      have h1 := split_at p n (by omega)
      have h2 : p.drop (n + 1) = [] := List.drop_eq_nil_of_le (by omega)
      rw [List.drop_eq_getElem_cons (by omega), h2, List.getD_eq_getElem?_getD, List.getElem?_eq_getElem (by omega)]
      rfl
    rw [e]
    exact ⟨fun y h => absurd h List.not_mem_nil, trivial⟩
end FOLLOWS

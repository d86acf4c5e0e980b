/-! ORDERS: all of a list, the first by numbers first; the next one -/
def ps : Nat → List Nat → List (List Nat)
  | 0, _ => [[]]
  | n + 1, l => l.flatMap fun x => (ps n (l.erase x)).map (x :: ·)
/-- falling -/
def dsc : List Nat → Bool
  | [] => true
  | [_] => true
  | x :: y :: l => Nat.blt y x && dsc (y :: l)
/-- the last of a falling list that is above x, x put in its place -/
def swp (x : Nat) : List Nat → Option (Nat × List Nat)
  | [] => none
  | y :: l => match swp x l with
    | some (z, l') => some (z, y :: l')
    | none => if x < y then some (y, x :: l) else none
/-- the next order -/
def nx : List Nat → Option (List Nat)
  | [] => none
  | x :: r => match nx r with
    | some r' => some (x :: r')
    | none => match swp x r with
      | some (y, r') => some (y :: r'.reverse)
      | none => none
def chq (P : List Nat → Option (List Nat)) : List (List Nat) → Option (List Nat) → Prop
  | [], _ => True
  | [p], e => P p = e
  | p :: q :: L, e => P p = some q ∧ chq P (q :: L) e
theorem chq_app {P : List Nat → Option (List Nat)} {L2 : List (List Nat)} {e : Option (List Nat)} (h2 : chq P L2 e) (hn : L2 ≠ []) : ∀ {L1 : List (List Nat)}, chq P L1 L2.head? → chq P (L1 ++ L2) e
  | [], _ => h2
  | [p], h => by
    cases L2 with
    | nil => exact absurd rfl hn
    | cons q L => exact ⟨h, h2⟩
  | p :: q :: L, h => ⟨h.1, chq_app h2 hn (L1 := q :: L) h.2⟩
/-- rising -/
def asc : List Nat → Prop
  | [] => True
  | x :: l => (∀ y ∈ l, x < y) ∧ asc l
theorem asc_app {A B : List Nat} : asc (A ++ B) ↔ asc A ∧ asc B ∧ ∀ a ∈ A, ∀ b ∈ B, a < b := by
  induction A with
  | nil => simp [asc]
  | cons x A ih =>
    show (∀ y ∈ A ++ B, x < y) ∧ asc (A ++ B) ↔ ((∀ y ∈ A, x < y) ∧ asc A) ∧ asc B ∧ ∀ a ∈ x :: A, ∀ b ∈ B, a < b
    rw [ih]
    constructor
    · rintro ⟨h1, h2, h3, h4⟩
      refine ⟨⟨fun y hy => h1 y (List.mem_append_left _ hy), h2⟩, h3, fun a ha b hb => ?_⟩
      rcases List.mem_cons.mp ha with rfl | ha
      · exact h1 b (List.mem_append_right _ hb)
      · exact h4 a ha b hb
    · rintro ⟨⟨h1, h2⟩, h3, h4⟩
      refine ⟨fun y hy => ?_, h2, h3, fun a ha b hb => h4 a (List.mem_cons_of_mem _ ha) b hb⟩
      rcases List.mem_append.mp hy with hy | hy
      · exact h1 y hy
      · exact h4 x List.mem_cons_self y hy
theorem asc_erase {A B : List Nat} {x : Nat} (h : asc (A ++ x :: B)) : (A ++ x :: B).erase x = A ++ B := by
  have hx : x ∉ A := fun q => Nat.lt_irrefl x ((asc_app.mp h).2.2 x q x List.mem_cons_self)
  rw [List.erase_append_right _ hx, List.erase_cons_head]
theorem asc_mid {A B : List Nat} {x : Nat} (h : asc (A ++ x :: B)) : asc (A ++ B) := by
  obtain ⟨h1, h2, h3⟩ := asc_app.mp h
  exact asc_app.mpr ⟨h1, h2.2, fun a ha b hb => h3 a ha b (List.mem_cons_of_mem _ hb)⟩
theorem swp_none {x : Nat} : ∀ {l : List Nat}, (∀ y ∈ l, y ≤ x) → swp x l = none
  | [], _ => rfl
  | y :: l, h => by
    unfold swp
    rw [swp_none fun z hz => h z (List.mem_cons_of_mem _ hz)]
    show (if x < y then some (y, x :: l) else none) = none
    rw [if_neg (Nat.not_lt.mpr (h y List.mem_cons_self))]
theorem swp_app {x y : Nat} {D : List Nat} (hy : x < y) (hD : ∀ z ∈ D, z ≤ x) : ∀ {C : List Nat}, swp x (C ++ y :: D) = some (y, C ++ x :: D)
  | [] => by
    show (match swp x D with
      | some (z, l') => some (z, y :: l')
      | none => if x < y then some (y, x :: D) else none) = _
    rw [swp_none hD]
    show (if x < y then some (y, x :: D) else none) = _
    rw [if_pos hy]
    rfl
  | c :: C => by
    show (match swp x (C ++ y :: D) with
      | some (z, l') => some (z, c :: l')
      | none => if x < c then some (c, x :: (C ++ y :: D)) else none) = _
    rw [swp_app hy hD (C := C)]
    rfl
theorem ps_ne : ∀ {n : Nat} {l : List Nat}, l.length = n → ps n l ≠ []
  | 0, _, _ => by
    show [[]] ≠ []
    exact List.cons_ne_nil _ _
  | n + 1, [], h => by cases h
  | n + 1, x :: l, h => by
    show (x :: l).flatMap (fun x_1 => (ps n ((x :: l).erase x_1)).map (x_1 :: ·)) ≠ []
    rw [List.flatMap_cons, List.erase_cons_head]
    intro q
    have h1 := (List.append_eq_nil_iff.mp q).1
    rw [List.map_eq_nil_iff] at h1
    exact ps_ne (n := n) (l := l) (by simpa using h) h1
theorem head_app {L1 L2 : List (List Nat)} (h : L1 ≠ []) : (L1 ++ L2).head? = L1.head? := by
  cases L1 with
  | nil => exact absurd rfl h
  | cons => rfl
theorem ps_head : ∀ {n : Nat} {l : List Nat}, l.length = n → (ps n l).head? = some l
  | 0, [], _ => rfl
  | 0, _ :: _, h => by cases h
  | n + 1, [], h => by cases h
  | n + 1, x :: l, h => by
    have hl : l.length = n := by simpa using h
    show ((x :: l).flatMap fun x_1 => (ps n ((x :: l).erase x_1)).map (x_1 :: ·)).head? = _
    rw [List.flatMap_cons, List.erase_cons_head, head_app fun q => ps_ne hl (List.map_eq_nil_iff.mp q), List.head?_map, ps_head hl]
    rfl
/-- a block: those that begin with x -/
theorem chq_map {x : Nat} {e0 : Option (List Nat)} : ∀ {L : List (List Nat)} {z : List Nat}, chq nx L none → L.getLast? = some z → nx (x :: z) = e0 → chq nx (L.map (x :: ·)) e0
  | [], _, _, h, _ => by cases h
  | [p], z, _, h, he => by
    have : p = z := Option.some.inj h
    subst this
    exact he
  | p :: q :: L, z, h, hz, he => by
    refine ⟨?_, chq_map (L := q :: L) h.2 (by rw [List.getLast?_cons_cons] at hz; exact hz) he⟩
    show (match nx p with
      | some r' => some (x :: r')
      | none => match swp x p with
        | some (y, r') => some (y :: r'.reverse)
        | none => none) = some (x :: q)
    rw [h.1]
theorem last_app {L1 L2 : List (List Nat)} (h : L2 ≠ []) : (L1 ++ L2).getLast? = L2.getLast? := by
  rw [List.getLast?_append]
  cases hq : L2.getLast? with
  | none => exact absurd (List.getLast?_eq_none_iff.mp hq) h
  | some v => rfl
theorem nx_last : ∀ {l : List Nat}, asc l → nx l.reverse = none
  | [], _ => rfl
  | x :: l, h => by
    have key : ∀ (r : List Nat), nx r = none → (∀ y ∈ r, x < y) → nx (r ++ [x]) = none := by
      intro r
      induction r with
      | nil => intro _ _; rfl
      | cons y r ih =>
        intro h1 h2
        have e : nx (y :: r) = (match nx r with
          | some r' => some (y :: r')
          | none => match swp y r with
            | some (z, r') => some (z :: r'.reverse)
            | none => none) := rfl
        rw [e] at h1
        cases hr : nx r with
        | some r' => rw [hr] at h1; cases h1
        | none =>
          rw [hr] at h1
          cases hs : swp y r with
          | some p => rw [hs] at h1; cases h1
          | none =>
            have ih2 := ih hr fun z hz => h2 z (List.mem_cons_of_mem _ hz)
            have hs2 : swp y (r ++ [x]) = none := by
              clear ih ih2 h1 e hr
              have hxy : x < y := h2 y List.mem_cons_self
              induction r with
              | nil =>
                show (if y < x then some (x, [y]) else none) = none
                rw [if_neg (by omega)]
              | cons z r ih3 =>
                have e1 : swp y (z :: r) = (match swp y r with
                  | some (w, l') => some (w, z :: l')
                  | none => if y < z then some (z, y :: r) else none) := rfl
                rw [e1] at hs
                cases h4 : swp y r with
                | some p => rw [h4] at hs; cases hs
                | none =>
                  rw [h4] at hs
                  have h5 : ¬ y < z := by
                    intro q
                    rw [if_pos q] at hs
                    cases hs
                  show (match swp y (r ++ [x]) with
                    | some (w, l') => some (w, z :: l')
                    | none => if y < z then some (z, y :: (r ++ [x])) else none) = none
                  rw [ih3 (fun w hw => by
                    rcases List.mem_cons.mp hw with rfl | hw
                    · exact hxy
                    · exact h2 w (by simp [hw])) h4]
                  show (if y < z then some (z, y :: (r ++ [x])) else none) = none
                  rw [if_neg h5]
            show (match nx (r ++ [x]) with
              | some r' => some (y :: r')
              | none => match swp y (r ++ [x]) with
                | some (z, r') => some (z :: r'.reverse)
                | none => none) = none
            rw [ih2, hs2]
    rw [List.reverse_cons]
    exact key _ (nx_last h.2) fun y hy => h.1 y (List.mem_reverse.mp hy)
/-- the blocks in turn -/
theorem ps_chain : ∀ {n : Nat} {l : List Nat}, l.length = n → asc l → chq nx (ps n l) none ∧ (ps n l).getLast? = some l.reverse
  | 0, [], _, _ => ⟨rfl, rfl⟩
  | 0, _ :: _, h, _ => by cases h
  | n + 1, l, h, ha => by
    have key : ∀ (B A : List Nat), l = A ++ B → B ≠ [] → chq nx (B.flatMap fun x => (ps n (l.erase x)).map (x :: ·)) none ∧ (B.flatMap fun x => (ps n (l.erase x)).map (x :: ·)).getLast? = some l.reverse := by
      intro B
      induction B with
      | nil => intro A _ hb; exact absurd rfl hb
      | cons x B ih =>
        intro A hl _
        subst hl
        have he := asc_erase ha
        have hlen : (A ++ B).length = n := by
          rw [List.length_append] at h ⊢
          simp only [List.length_cons] at h
          omega
        obtain ⟨i1, i2⟩ := ps_chain (n := n) (l := A ++ B) hlen (asc_mid ha)
        rw [List.flatMap_cons, he]
        have hne : (ps n (A ++ B)).map (x :: ·) ≠ [] := fun q => ps_ne hlen (List.map_eq_nil_iff.mp q)
        by_cases hB : B = []
        · subst hB
          have hlast : nx (x :: (A ++ []).reverse) = none := by
            have := nx_last ha
            rw [List.reverse_append] at this
            rw [List.append_nil]
            exact this
          rw [List.flatMap_nil, List.append_nil]
          refine ⟨chq_map i1 i2 hlast, ?_⟩
          rw [List.getLast?_map, i2, List.append_nil, List.reverse_append]
          rfl
        · obtain ⟨j1, j2⟩ := ih (A ++ [x]) (by simp) hB
          obtain ⟨y, B', rfl⟩ : ∃ y B', B = y :: B' := by
            cases B with
            | nil => exact absurd rfl hB
            | cons y B' => exact ⟨y, B', rfl⟩
          have hne2 : ((y :: B').flatMap fun z => (ps n ((A ++ x :: y :: B').erase z)).map (z :: ·)) ≠ [] := by
            rw [List.flatMap_cons]
            intro q
            have h1 := List.map_eq_nil_iff.mp (List.append_eq_nil_iff.mp q).1
            have e2 : (A ++ x :: y :: B').erase y = A ++ x :: B' := by
              have := asc_erase (A := A ++ [x]) (B := B') (x := y) (by simpa using ha)
              simpa using this
            rw [e2] at h1
            exact ps_ne (by rw [List.length_append] at hlen ⊢; simpa using hlen) h1
          have e2 : (A ++ x :: y :: B').erase y = A ++ x :: B' := by
            have := asc_erase (A := A ++ [x]) (B := B') (x := y) (by simpa using ha)
            simpa using this
          have hhead : ((y :: B').flatMap fun z => (ps n ((A ++ x :: y :: B').erase z)).map (z :: ·)).head? = some (y :: (A ++ x :: B')) := by
            have hl2 : (A ++ x :: B').length = n := by
              rw [List.length_append] at hlen ⊢
              simpa using hlen
            rw [List.flatMap_cons, e2, head_app fun q => ps_ne hl2 (List.map_eq_nil_iff.mp q), List.head?_map, ps_head hl2]
            rfl
          refine ⟨chq_app j1 hne2 ?_, ?_⟩
          · rw [hhead]
            refine chq_map i1 i2 ?_
            have hxy : x < y := (asc_app.mp ha).2.1.1 y List.mem_cons_self
            have hAx : ∀ a ∈ A, a < x := fun a q => (asc_app.mp ha).2.2 a q x List.mem_cons_self
            have e3 : (A ++ y :: B').reverse = B'.reverse ++ y :: A.reverse := by simp
            have hnl : nx (A ++ y :: B').reverse = none := nx_last (asc_mid ha)
            show (match nx (A ++ y :: B').reverse with
              | some r' => some (x :: r')
              | none => match swp x (A ++ y :: B').reverse with
                | some (z, r') => some (z :: r'.reverse)
                | none => none) = _
            rw [hnl, e3, swp_app hxy fun z hz => Nat.le_of_lt (hAx z (List.mem_reverse.mp hz))]
            show some (y :: (B'.reverse ++ x :: A.reverse).reverse) = _
            simp
          · rw [last_app hne2, j2]
    have hlne : l ≠ [] := by
      intro q
      rw [q] at h
      cases h
    exact key l [] rfl hlne

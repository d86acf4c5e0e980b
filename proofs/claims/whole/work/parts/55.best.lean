/-! the best of orders -/
abbrev btr (a b : Int × Int) : Prop := a.1 < b.1 ∨ (a.1 = b.1 ∧ a.2 < b.2)
def bst (f : List Nat → Int × Int) : (Int × Int) × List Nat → List (List Nat) → (Int × Int) × List Nat
  | b, [] => b
  | b, p :: L => bst f (if btr (f p) b.1 then (f p, p) else b) L
theorem bst_app {f : List Nat → Int × Int} {L2 : List (List Nat)} : ∀ {L1 : List (List Nat)} {b : (Int × Int) × List Nat}, bst f b (L1 ++ L2) = bst f (bst f b L1) L2
  | [], _ => rfl
  | p :: L1, b => bst_app (L1 := L1) (b := if btr (f p) b.1 then (f p, p) else b)
theorem bst_no {f : List Nat → Int × Int} : ∀ {L : List (List Nat)} {b : (Int × Int) × List Nat}, (∀ p ∈ L, ¬ btr (f p) b.1) → bst f b L = b
  | [], _, _ => rfl
  | p :: L, b, h => by
    show bst f (if btr (f p) b.1 then (f p, p) else b) L = b
    rw [if_neg (h p List.mem_cons_self)]
    exact bst_no fun q hq => h q (List.mem_cons_of_mem _ hq)
theorem btr_tr {a b c : Int × Int} (h1 : ¬ btr c a) (h2 : ¬ btr a b) : ¬ btr c b := by
  unfold btr at *
  omega
theorem bst_map {f : List Nat → Int × Int} {g : List Nat → List Nat} : ∀ {L : List (List Nat)} {k : Int × Int} {b : List Nat}, bst f (k, g b) (L.map g) = ((bst (fun p => f (g p)) (k, b) L).1, g (bst (fun p => f (g p)) (k, b) L).2)
  | [], _, _ => rfl
  | p :: L, k, b => by
    show bst f (if btr (f (g p)) k then (f (g p), g p) else (k, g b)) (L.map g) = ((bst (fun p => f (g p)) (if btr (f (g p)) k then (f (g p), p) else (k, b)) L).1, g (bst (fun p => f (g p)) (if btr (f (g p)) k then (f (g p), p) else (k, b)) L).2)
    by_cases h : btr (f (g p)) k
    · rw [if_pos h, if_pos h]
      exact bst_map
    · rw [if_neg h, if_neg h]
      exact bst_map
theorem nodup_rm {x : Nat} {B : List Nat} : ∀ {A : List Nat}, nodup (A ++ x :: B) → nodup (A ++ B)
  | [], h => h.2
  | y :: A, h => by
    refine ⟨fun q => h.1 ?_, nodup_rm (A := A) h.2⟩
    rcases List.mem_append.mp q with q | q
    · exact List.mem_append_left _ q
    · exact List.mem_append_right _ (List.mem_cons_of_mem _ q)
theorem ps_mem : ∀ {n : Nat} {l p : List Nat}, l.length = n → nodup l → p ∈ ps n l → p.length = n ∧ (∀ x ∈ p, x ∈ l) ∧ nodup p
  | 0, l, p, _, _, hp => by
    have hp : p ∈ [[]] := hp
    rw [List.mem_singleton.mp hp]
    exact ⟨rfl, fun x h => absurd h List.not_mem_nil, trivial⟩
  | n + 1, l, p, hl, hnd, hp => by
    have hp : p ∈ l.flatMap fun x => (ps n (l.erase x)).map (x :: ·) := hp
    obtain ⟨x, hx, hp⟩ := List.mem_flatMap.mp hp
    obtain ⟨q, hq, rfl⟩ := List.mem_map.mp hp
    obtain ⟨A, B, rfl⟩ := List.append_of_mem hx
    have hm := nodup_mid hnd
    have he : (A ++ x :: B).erase x = A ++ B := by
      rw [List.erase_append_right _ hm.1, List.erase_cons_head]
    rw [he] at hq
    have hnd2 : nodup (A ++ B) := nodup_rm hnd
    have hlen : (A ++ B).length = n := by
      rw [List.length_append] at hl ⊢
      simp only [List.length_cons] at hl
      omega
    obtain ⟨q1, q2, q3⟩ := ps_mem (n := n) hlen hnd2 hq
    have sub : ∀ y ∈ q, y ∈ A ++ x :: B := fun y hy => by
      rcases List.mem_append.mp (q2 y hy) with h | h
      · exact List.mem_append_left _ h
      · exact List.mem_append_right _ (List.mem_cons_of_mem _ h)
    refine ⟨by rw [List.length_cons, q1], fun y hy => ?_, fun h => ?_, q3⟩
    · rcases List.mem_cons.mp hy with rfl | hy
      · exact List.mem_append_right _ List.mem_cons_self
      · exact sub y hy
    · rcases List.mem_append.mp (q2 x h) with h | h
      · exact hm.1 h
      · exact hm.2 h
theorem asc_nodup : ∀ {l : List Nat}, asc l → nodup l
  | [], _ => trivial
  | x :: l, h => ⟨fun q => Nat.lt_irrefl x (h.1 x q), asc_nodup h.2⟩
/-- orders of places are orders of what stands there -/
theorem erase_map {g : Nat → Nat} {A B : List Nat} {x : Nat} (hA : ∀ a ∈ A, g a ≠ g x) : ((A ++ x :: B).map g).erase (g x) = (A ++ B).map g := by
  rw [List.map_append, List.map_cons, List.erase_append_right _ fun q => by
    obtain ⟨a, ha, e⟩ := List.mem_map.mp q
    exact hA a ha e, List.erase_cons_head, List.map_append]
theorem ps_map {g : Nat → Nat} : ∀ {n : Nat} {l : List Nat}, l.length = n → asc l → (∀ a ∈ l, ∀ b ∈ l, a < b → g a < g b) → ps n (l.map g) = (ps n l).map (List.map g)
  | 0, l, _, _, _ => rfl
  | n + 1, l, hl, ha, hg => by
    show (l.map g).flatMap (fun y => (ps n ((l.map g).erase y)).map (y :: ·)) = (l.flatMap fun x => (ps n (l.erase x)).map (x :: ·)).map (List.map g)
    have key : ∀ (B A : List Nat), l = A ++ B → (B.map g).flatMap (fun y => (ps n ((l.map g).erase y)).map (y :: ·)) = (B.flatMap fun x => (ps n (l.erase x)).map (x :: ·)).map (List.map g) := by
      intro B
      induction B with
      | nil => intro A _; rfl
      | cons x B ih =>
        intro A hlB
        rw [List.map_cons, List.flatMap_cons, List.flatMap_cons, List.map_append, ih (A ++ [x]) (by rw [hlB]; simp)]
        congr 1
        subst hlB
        have hAx : ∀ a ∈ A, a < x := fun a q => (asc_app.mp ha).2.2 a q x List.mem_cons_self
        have hmem : ∀ a ∈ A ++ B, a ∈ A ++ x :: B := fun a q => by
          rcases List.mem_append.mp q with h | h
          · exact List.mem_append_left _ h
          · exact List.mem_append_right _ (List.mem_cons_of_mem _ h)
        rw [erase_map fun a q => Nat.ne_of_lt (hg a (List.mem_append_left _ q) x (List.mem_append_right _ List.mem_cons_self) (hAx a q)), asc_erase ha, ps_map (n := n) (by
          rw [List.length_append] at hl ⊢
          simp only [List.length_cons] at hl
          omega) (asc_mid ha) (fun a h1 b h2 h3 => hg a (hmem a h1) b (hmem b h2) h3), List.map_map, List.map_map]
        rfl
    exact key l [] rfl

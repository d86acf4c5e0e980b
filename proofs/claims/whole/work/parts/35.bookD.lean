/-! the book's writes -/
theorem lnk_cg {f g : Nat → Int} : ∀ {l : List Nat} {v : Int}, (∀ x ∈ l, g x = f x) → lnk f l v → lnk g l v
  | [], _, _, h => h
  | i :: l, v, hg, h => ⟨h.1, by rw [hg i List.mem_cons_self]; exact lnk_cg (fun x hx => hg x (List.mem_cons_of_mem _ hx)) h.2⟩
theorem lnk_insert {f : Nat → Int} {a n : Nat} {l : List Nat} {u : Int} (hl : lnk f l u) (hn : n ≠ a) (hnl : n ∉ l) (hal : a ∉ l) : ∀ {l0 : List Nat} {v : Int}, lnk f (l0 ++ a :: l) v → n ∉ l0 → a ∉ l0 → lnk (xup (xup f n u) a (n : Int)) (l0 ++ a :: n :: l) v
  | [], v, h, _, _ => by
    refine ⟨h.1, ?_, ?_⟩
    · rw [xup_eq]
    · rw [xup_ne hn, xup_eq]
      refine lnk_cg (fun x hx => ?_) hl
      rw [xup_ne (show x ≠ a from fun e => hal (e ▸ hx)), xup_ne (show x ≠ n from fun e => hnl (e ▸ hx))]
  | x :: l0, v, h, h1, h2 => by
    refine ⟨h.1, ?_⟩
    rw [xup_ne (show x ≠ a from fun e => h2 (by rw [e]; exact List.mem_cons_self)), xup_ne (show x ≠ n from fun e => h1 (by rw [e]; exact List.mem_cons_self))]
    exact lnk_insert hl hn hnl hal h.2 (fun q => h1 (List.mem_cons_of_mem _ q)) (fun q => h2 (List.mem_cons_of_mem _ q))
def nodup : List Nat → Prop
  | [] => True
  | x :: l => x ∉ l ∧ nodup l
theorem nodup_ins {f : Nat → Int} {n : Nat} : ∀ {l : List Nat}, n ∉ l → nodup l → nodup (bk_ins f n l)
  | [], _, _ => ⟨List.not_mem_nil, trivial⟩
  | x :: l, hn, h => by
    unfold bk_ins
    split
    · refine ⟨fun q => ?_, nodup_ins (fun q => hn (List.mem_cons_of_mem _ q)) h.2⟩
      rcases bk_ins_mem.mp q with rfl | q
      · exact hn List.mem_cons_self
      · exact h.1 q
    · exact ⟨hn, h⟩
theorem nodup_ch {m : Nat → Nat → Int} {s : Int} : ∀ {n : Nat}, nodup (bk_ch m s n)
  | 0 => trivial
  | n + 1 => by
    unfold bk_ch
    split
    · exact nodup_ins (fun q => absurd (bk_ch_mem.mp q).1 (Nat.lt_irrefl n)) nodup_ch
    · exact nodup_ch
theorem nodup_mid {a : Nat} {l : List Nat} : ∀ {l0 : List Nat}, nodup (l0 ++ a :: l) → a ∉ l0 ∧ a ∉ l
  | [], h => ⟨List.not_mem_nil, h.1⟩
  | x :: l0, h => by
    obtain ⟨h1, h2⟩ := nodup_mid (l0 := l0) h.2
    refine ⟨fun q => ?_, h2⟩
    rcases List.mem_cons.mp q with e | q
    · exact h.1 (by rw [← e]; simp)
    · exact h1 q
theorem lnk_app {f : Nat → Int} {l : List Nat} : ∀ {l0 : List Nat} {v : Int}, lnk f (l0 ++ l) v → (l0 = [] ∧ lnk f l v) ∨ ∃ l1 a, l0 = l1 ++ [a] ∧ lnk f l (f a)
  | [], v, h => Or.inl ⟨rfl, h⟩
  | x :: l0, v, h => by
    rcases lnk_app (l0 := l0) h.2 with ⟨e, h2⟩ | ⟨l1, a, e, h2⟩
    · subst e
      exact Or.inr ⟨[], x, rfl, h2⟩
    · subst e
      exact Or.inr ⟨x :: l1, a, rfl, h2⟩
section BOOKD
variable {σ : xS}
/-- the walk to where a move goes: ahead, behind -/
theorem B_putInOrder_13 {τ : xS} {s : Int} {n : Nat} {L : List Nat} (hs : xin s 150) (hn : n < 600) (hL : ∀ j ∈ L, j < 600) (hlen : τ.1 221 s.toNat = (L.length : Int)) (h600 : L.length ≤ 600) (hso : bk_so (τ.1 223) L) : ∀ (l l0 : List Nat) (a v : Int), L = l0 ++ l → lnk (τ.1 228) l v → (∀ j ∈ l0, τ.1 223 j ≤ τ.1 223 n) →
    (l0 = [] ∧ a = -1 ∨ ∃ (l1 : List Nat) (x : Nat), l0 = l1 ++ [x] ∧ a = (x : Int)) →
    ∃ l0' l' a' v' w, L = l0' ++ l' ∧ lnk (τ.1 228) l' v' ∧ (∀ j ∈ l0', τ.1 223 j ≤ τ.1 223 n) ∧ (∀ j ∈ l', τ.1 223 n < τ.1 223 j) ∧ (l0' = [] ∧ a' = -1 ∨ ∃ (l1 : List Nat) (x : Nat), l0' = l1 ++ [x] ∧ a' = (x : Int)) ∧
      X iBook_putInOrder 13 [(2, 216), (0, (n : Int)), (0, s), (0, a), (0, v), (0, (l0.length : Int))] [] τ = X iBook_putInOrder 64 [(2, 216), (0, (n : Int)), (0, s), (0, a'), (0, v'), w] [] τ := by
  intro l
  induction l with
  | nil =>
    intro l0 a v he hv h0 ha
    rw [qBook_putInOrder_13, if_pos hs, if_neg (by rw [hlen, he]; simp)]
    exact ⟨l0, [], a, v, _, he, hv, h0, fun j h => absurd h List.not_mem_nil, ha, rfl⟩
  | cons i l ih =>
    intro l0 a v he hv h0 ha
    obtain ⟨rfl, hv⟩ := hv
    have hi : i ∈ L := by rw [he]; simp
    have hi6 := hL i hi
    have hll : l0.length < L.length := by rw [he, List.length_append, List.length_cons]; omega
    have nx : xw ((l0.length : Int) + 1) = (((l0 ++ [i]).length : Nat) : Int) := by rw [List.length_append, xw_id (by omega) (by omega)]; simp
    rw [qBook_putInOrder_13, if_pos hs, if_pos (by rw [hlen]; omega), if_neg (by omega), if_pos (xin_of (by omega) (by omega)), if_pos (xin_of (by omega) (by omega)), if_pos (xin_of (by omega) (by omega)), Int.toNat_natCast, Int.toNat_natCast, nx]
    by_cases hc : τ.1 223 n < τ.1 223 i
    · rw [if_pos hc]
      refine ⟨l0, i :: l, a, i, _, he, ⟨rfl, hv⟩, h0, fun j hj => ?_, ha, rfl⟩
      rw [he] at hso
      have hso2 : bk_so (τ.1 223) (i :: l) := by
        clear he ih h0 ha hll nx hi
        induction l0 with
        | nil => exact hso
        | cons y l0 ih => exact ih hso.2
      rcases List.mem_cons.mp hj with rfl | hj
      · exact hc
      · have := hso2.1 j hj
        omega
    · rw [if_neg hc]
      refine ih (l0 ++ [i]) i _ (by rw [he]; simp) hv (fun j hj => ?_) (Or.inr ⟨l0, i, rfl, rfl⟩)
      rcases List.mem_append.mp hj with hj | hj
      · exact h0 j hj
      · rw [List.mem_singleton.mp hj]
        omega
/-- a move is put in its sheet's chain -/
theorem B_putInOrder {τ : xS} {s : Int} {n : Nat} {L : List Nat} (hs : xin s 150) (hn : n < 600) (hL : ∀ j ∈ L, j < n) (hlk : lnk (τ.1 228) L (τ.1 220 s.toNat)) (hlen : τ.1 221 s.toNat = (L.length : Int)) (h600 : L.length ≤ 600) (hso : bk_so (τ.1 223) L) (hnd : nodup L) :
    ∃ τ', X iBook_putInOrder 0 [(2, 216), (0, (n : Int)), (0, s), (9, 0), (9, 0), (9, 0)] [] τ = some ((9, 0), τ') ∧ τ'.2 = τ.2 ∧ (∀ a, a ≠ 228 → a ≠ 220 → a ≠ 221 → τ'.1 a = τ.1 a) ∧ τ'.1 221 = xup (τ.1 221) s.toNat ((L.length : Int) + 1) ∧
      lnk (τ'.1 228) (bk_ins (τ.1 223) n L) (τ'.1 220 s.toNat) ∧ (∀ x, x ≠ n → x ∉ L → τ'.1 228 x = τ.1 228 x) ∧ ∀ x, x ≠ s.toNat → τ'.1 220 x = τ.1 220 x := by
  obtain ⟨l0, l, a, v, w, he, hv, h0, h1, ha, hX⟩ := B_putInOrder_13 (n := n) hs hn (fun j hj => by have := hL j hj; omega) hlen h600 hso L [] (-1) _ rfl hlk (fun j h => absurd h List.not_mem_nil) (Or.inl ⟨rfl, rfl⟩)
  have hnL : n ∉ L := fun q => Nat.lt_irrefl n (hL n q)
  have nw : xw (τ.1 221 s.toNat + 1) = (L.length : Int) + 1 := by rw [hlen, xw_id (by omega) (by omega)]
  rw [qBook_putInOrder_0, if_pos hs]
  refine (show _ = X iBook_putInOrder 64 [(2, 216), (0, (n : Int)), (0, s), (0, a), (0, v), w] [] τ from hX) ▸ ?_
  rw [qBook_putInOrder_64, if_pos (xin_of (by omega) (by omega))]
  have eins : bk_ins (τ.1 223) n L = l0 ++ n :: l := by rw [he]; exact bk_ins_app h0 h1
  rcases ha with ⟨e0, e1⟩ | ⟨l1, x, e0, e1⟩
  · subst e0
    rw [if_pos e1, if_pos hs, if_pos hs, if_pos hs, Int.toNat_natCast, nw]
    refine ⟨_, rfl, rfl, fun a h1 h2 h3 => ?_, ?_, ?_, fun x hx hxL => ?_, fun x hx => ?_⟩
    · rw [xs_ne h3, xs_ne h2, xs_ne h1]
    · rw [xs_at, xs_ne (by decide), xs_ne (by decide)]
    · rw [eins, xs_ne (by decide), xs_ne (by decide), xs_at, xs_ne (by decide), xs_at, xup_eq]
      refine ⟨rfl, ?_⟩
      rw [xup_eq]
      refine lnk_cg (fun y hy => xup_ne ?_) hv
      intro e
      subst e
      exact hnL (by rw [he]; simp [hy])
    · rw [xs_ne (by decide), xs_ne (by decide), xs_at, xup_ne hx]
    · rw [xs_ne (by decide), xs_at, xup_ne hx, xs_ne (by decide)]
  · have hxL : x ∈ L := by rw [he, e0]; simp
    have hx := hL x hxL
    subst e0
    subst e1
    rw [if_neg (by omega), if_pos (xin_of (by omega) (by omega)), if_pos hs, if_pos hs, Int.toNat_natCast, Int.toNat_natCast, nw]
    have e2 : L = l1 ++ x :: l := by rw [he]; simp
    rw [e2] at hnd hlk hnL
    obtain ⟨d1, d2⟩ := nodup_mid hnd
    refine ⟨_, rfl, rfl, fun a h1 h2 h3 => ?_, ?_, ?_, fun y hy hyL => ?_, fun y hy => ?_⟩
    · rw [xs_ne h3, xs_ne h1, xs_ne h1]
    · rw [xs_at, xs_ne (by decide), xs_ne (by decide)]
    · rw [eins, xs_ne (by decide), xs_at, xs_at, xs_ne (by decide), xs_ne (by decide), xs_ne (by decide)]
      have := lnk_insert (f := τ.1 228) (a := x) (n := n) hv (by omega) (fun q => hnL (by simp [q])) d2 hlk (fun q => hnL (by simp [q])) d1
      simpa using this
    · rw [xs_ne (by decide), xs_at, xs_at, xup_ne (show y ≠ x from fun e => hyL (by rw [e]; exact hxL)), xup_ne hy]
    · rw [xs_ne (by decide), xs_ne (by decide), xs_ne (by decide)]
end BOOKD

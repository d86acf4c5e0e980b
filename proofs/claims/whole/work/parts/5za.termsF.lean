/-! nodes and rows stand while what they look at stands -/
theorem chS_cg {sub sub' ok ok' : Nat → Nat → Prop} {m m' f f' : Nat → Nat → Int} {sk : Nat → Int} {F S n0 nh : Nat} (w : wfs f sk F S n0 nh) (hok : ∀ r c, ok r c → (2 ≤ f 0 r ∧ f 0 r < 7) ∨ (9 < f 0 r ∧ f 0 r ≠ 14)) {i : Nat} (h1 : n0 ≤ i) (h2 : i < nh) (hf : ∀ j, n0 ≤ j → j ≤ i → f' 1 j = f 1 j ∧ f' 2 j = f 2 j) (hs : ∀ c j, n0 ≤ j → j < i → sub c j → sub' c j ∧ m' c 7 = m c 7) (ho : ∀ r c, n0 ≤ r → r ≤ i → sub c (f 2 r).toNat → ok r c → ok' r c) : ∀ {L : List Nat} {c r : Nat}, m' c 7 = m c 7 → chS sub ok m f L c r i → chS sub' ok' m' f' L c r i
  | [], c, r, hc, h => ⟨by rw [hc]; exact h.1, h.2⟩
  | c' :: L, c, r, hc, h => by
    obtain ⟨e7, r', g1, g2, g3, g4, g5⟩ := h
    obtain ⟨k1, k2⟩ := chS_in w hok g5 h1 h2
    have w4 := (w r' k1 (by omega)).2.2.2.2.1 (hok _ _ g3)
    obtain ⟨s1, s2⟩ := hs _ _ w4.2.1 (by omega) g4
    refine ⟨by rw [hc]; exact e7, r', by rw [(hf r' k1 k2).1]; exact g1, by rw [(hf r' k1 k2).2]; exact g2, ho _ _ k1 k2 g4 g3, by rw [(hf r' k1 k2).2]; exact s1, chS_cg w hok h1 h2 hf hs ho s2 g5⟩
theorem chL_cg {sub sub' : Nat → Nat → Prop} {m m' f f' : Nat → Nat → Int} {n0 i : Nat} (hf : ∀ j, n0 ≤ j → j < i → f' 4 j = f 4 j) (hs : ∀ c j, n0 ≤ j → j < i → sub c j → sub' c j ∧ m' c 7 = m c 7) : ∀ {L : List Nat} {c r C : Nat}, m' c 7 = m c 7 → n0 ≤ r → r < i → chw f n0 i C (f 4 r) → chL sub m f L c r → chL sub' m' f' L c r
  | [], c, r, C, hc, h1, h2, _, h => ⟨by rw [hc]; exact h.1, by rw [hf r h1 h2]; exact h.2⟩
  | c' :: L, c, r, C, hc, h1, h2, hw, h => by
    obtain ⟨e7, g1, g2, g3⟩ := h
    match C, hw with
    | 0, hw => exact absurd hw (by show ¬ f 4 r < 0; omega)
    | C + 1, hw =>
      rcases hw with hw | ⟨⟨w1, w2⟩, w3⟩
      · omega
      obtain ⟨s1, s2⟩ := hs _ _ w1 w2 g2
      refine ⟨by rw [hc]; exact e7, by rw [hf r h1 h2]; exact g1, by rw [hf r h1 h2]; exact s1, ?_⟩
      rw [hf r h1 h2]
      exact chL_cg hf hs s2 w1 w2 w3 g3
set_option maxHeartbeats 8000000 in
theorem rl_cg {f f' m m' : Nat → Nat → Int} {t t' : List (Nat × Nat)} {sk sk' sn sn' : Nat → Int} {F S n0 nh : Nat} (w : wfs f sk F S n0 nh) (ht : ∀ b, nd t b → nd t' b) (hs : ∀ j, F ≤ j → j < S → sk' j = sk j ∧ sn' j = sn j) (hnam : ∀ x w, nam m t x w → nam m' t' x w) : ∀ (n lo hi a i : Nat), n0 ≤ i → i < nh → (∀ b k, lo ≤ b → b < hi → nd t b → (b = a → k ≠ 5 ∧ k ≠ 7) → m' b k = m b k) → (∀ j, n0 ≤ j → j ≤ i → (∀ c, c ≤ 5 → c ≠ 4 → f' c j = f c j) ∧ (j < i → f' 4 j = f 4 j)) → rl f m t sk sn F S n lo hi a i → rl f' m' t' sk' sn' F S n lo hi a i := by
  intro n
  induction n with
  | zero => intro lo hi a i _ _ _ _ h; exact h.elim
  | succ n ih =>
    intro lo hi a i h1 h2 hm hf h
    obtain ⟨⟨a1, a2, hn⟩, h⟩ := h
    have wi := w i h1 h2
    have e0 : f' 0 i = f 0 i := (hf i h1 (Nat.le_refl _)).1 0 (by decide) (by decide)
    have e1 : f' 1 i = f 1 i := (hf i h1 (Nat.le_refl _)).1 1 (by decide) (by decide)
    have e2 : f' 2 i = f 2 i := (hf i h1 (Nat.le_refl _)).1 2 (by decide) (by decide)
    have e3 : f' 3 i = f 3 i := (hf i h1 (Nat.le_refl _)).1 3 (by decide) (by decide)
    have e5 : f' 5 i = f 5 i := (hf i h1 (Nat.le_refl _)).1 5 (by decide) (by decide)
    have m0 : m' a 0 = m a 0 := hm a 0 a1 a2 hn (fun _ => ⟨by decide, by decide⟩)
    have m1 : m' a 1 = m a 1 := hm a 1 a1 a2 hn (fun _ => ⟨by decide, by decide⟩)
    have m4 : m' a 4 = m a 4 := hm a 4 a1 a2 hn (fun _ => ⟨by decide, by decide⟩)
    have m6 : m' a 6 = m a 6 := hm a 6 a1 a2 hn (fun _ => ⟨by decide, by decide⟩)
    have sb : ∀ (c j : Nat), n0 ≤ j → j < i → (∃ lo' hi', lo ≤ lo' ∧ hi' ≤ hi ∧ ¬ (lo' ≤ a ∧ a < hi') ∧ rl f m t sk sn F S n lo' hi' c j) → (f' 0 j = f 0 j) ∧ (∃ lo' hi', lo ≤ lo' ∧ hi' ≤ hi ∧ ¬ (lo' ≤ a ∧ a < hi') ∧ rl f' m' t' sk' sn' F S n lo' hi' c j) ∧ ∀ k, m' c k = m c k := by
      intro c j j1 j2 ⟨lo', hi', g1, g2, g3, g4⟩
      obtain ⟨c1, c2, hc⟩ := rl_nd g4
      refine ⟨(hf j j1 (by omega)).1 0 (by decide) (by decide), ⟨lo', hi', g1, g2, g3, ?_⟩, fun k => hm c k (by omega) (by omega) hc (fun q => absurd (show lo' ≤ a ∧ a < hi' from ⟨by omega, by omega⟩) g3)⟩
      refine ih lo' hi' c j j1 (by omega) (fun b k b1 b2 b3 _ => hm b k (by omega) (by omega) b3 (fun q => absurd (show lo' ≤ a ∧ a < hi' from ⟨by omega, by omega⟩) g3)) (fun j' q1 q2 => ⟨(hf j' q1 (by omega)).1, fun q3 => (hf j' q1 (by omega)).2 (by omega)⟩) g4
    have sE : ∀ (c j : Nat), n0 ≤ j → j < i → (f 0 j ≤ 10 ∧ ∃ lo' hi', lo ≤ lo' ∧ hi' ≤ hi ∧ ¬ (lo' ≤ a ∧ a < hi') ∧ rl f m t sk sn F S n lo' hi' c j) → (f' 0 j ≤ 10 ∧ ∃ lo' hi', lo ≤ lo' ∧ hi' ≤ hi ∧ ¬ (lo' ≤ a ∧ a < hi') ∧ rl f' m' t' sk' sn' F S n lo' hi' c j) ∧ m' c 7 = m c 7 := fun c j j1 j2 ⟨q1, q2⟩ => by
      obtain ⟨s1, s2, s3⟩ := sb c j j1 j2 q2
      exact ⟨⟨by rw [s1]; exact q1, s2⟩, s3 7⟩
    have sC : ∀ (c j : Nat), n0 ≤ j → j < i → (11 ≤ f 0 j ∧ ∃ lo' hi', lo ≤ lo' ∧ hi' ≤ hi ∧ ¬ (lo' ≤ a ∧ a < hi') ∧ rl f m t sk sn F S n lo' hi' c j) → (11 ≤ f' 0 j ∧ ∃ lo' hi', lo ≤ lo' ∧ hi' ≤ hi ∧ ¬ (lo' ≤ a ∧ a < hi') ∧ rl f' m' t' sk' sn' F S n lo' hi' c j) ∧ m' c 7 = m c 7 := fun c j j1 j2 ⟨q1, q2⟩ => by
      obtain ⟨s1, s2, s3⟩ := sb c j j1 j2 q2
      exact ⟨⟨by rw [s1]; exact q1, s2⟩, s3 7⟩
    have hf12 : ∀ j, n0 ≤ j → j ≤ i → f' 1 j = f 1 j ∧ f' 2 j = f 2 j := fun j q1 q2 => ⟨(hf j q1 q2).1 1 (by decide) (by decide), (hf j q1 q2).1 2 (by decide) (by decide)⟩
    have f0 : ∀ j, n0 ≤ j → j ≤ i → f' 0 j = f 0 j := fun j q1 q2 => (hf j q1 q2).1 0 (by decide) (by decide)
    have oS : ∀ r c, okS m f r c → (2 ≤ f 0 r ∧ f 0 r < 7) ∨ (9 < f 0 r ∧ f 0 r ≠ 14) := fun r c q => by rcases q with q | q <;> omega
    have oP : ∀ r c, okP m f r c → (2 ≤ f 0 r ∧ f 0 r < 7) ∨ (9 < f 0 r ∧ f 0 r ≠ 14) := fun r c q => by rcases q with q | q | q <;> omega
    refine ⟨⟨a1, a2, ht _ hn⟩, ?_⟩
    rw [e0, e1, e2, e3, e5, m0, m1, m4, m6]
    rcases h with h | h | ⟨z, z1, b0, b1, z3, z4, z5⟩ | ⟨z, b0, c, b6, hc⟩ | ⟨z, b0, c, b6, hc⟩ | ⟨zz, c, L, b6, hc, hch⟩ | ⟨z, b0, c1, c2, c3, b6, b71, b72, b73, p1, p2, p3⟩ | ⟨b0, c1, c2, b6, b71, b72, zz, p1, p2⟩ | ⟨zz, b0, c, r, c', L, b6, hc, hch⟩ | ⟨zz, b0, c, r, c', L, b6, hc, hch⟩ | ⟨zz, c, r, c', L, b6, hc, hch⟩
    · exact Or.inl h
    · exact Or.inr (Or.inl h)
    · refine Or.inr (Or.inr (Or.inl ⟨z, z1, b0, ?_, z3, ?_, ?_⟩))
      · rw [b1]
        exact congrArg (fun x : Nat => (x : Int)) (lkc_cg (fun j q1 q2 => (hs j q1 (by omega)).1)).symm
      · rw [(hs _ (by omega) z3).1]; exact z4
      · rw [(hs _ (by omega) z3).2]; exact hnam _ _ z5
    · have w3 := wi.2.2.2.1 (by omega)
      exact Or.inr (Or.inr (Or.inr (Or.inl ⟨z, b0, c, b6, (sE _ _ w3.2.1 w3.2.2 hc).1⟩)))
    · have w3 := wi.2.2.2.1 (by omega)
      exact Or.inr (Or.inr (Or.inr (Or.inr (Or.inl ⟨z, b0, c, b6, (sC _ _ w3.2.1 w3.2.2 hc).1⟩))))
    · have hz : f 0 i = 8 ∨ f 0 i = 9 := zz.elim (fun q => Or.inl q.1) (fun q => Or.inr q.1)
      have w3 := wi.2.2.2.1 (by omega)
      have s := sE _ _ w3.2.1 w3.2.2 hc
      exact Or.inr (Or.inr (Or.inr (Or.inr (Or.inr (Or.inl ⟨zz, c, L, b6, s.1, chL_cg (fun j q1 q2 => (hf j q1 (by omega)).2 q2) sE s.2 w3.2.1 w3.2.2 (wi.2.2.2.2.2.2 hz) hch⟩)))))
    · have w3 := wi.2.2.2.1 (by omega)
      have w4 := wi.2.2.2.2.1 (by omega)
      have w5 := wi.2.2.2.2.2.1 z
      have s1 := sC _ _ w3.2.1 w3.2.2 p1
      have s2 := sE _ _ w4.2.1 w4.2.2 p2
      have s3 := sE _ _ w5.2.1 w5.2.2 p3
      exact Or.inr (Or.inr (Or.inr (Or.inr (Or.inr (Or.inr (Or.inl ⟨z, b0, c1, c2, c3, b6, by rw [s1.2]; exact b71, by rw [s2.2]; exact b72, by rw [s3.2]; exact b73, s1.1, s2.1, s3.1⟩))))))
    · have hz : f 0 i = 11 ∨ f 0 i = 12 ∨ f 0 i = 13 := by omega
      have w3 := wi.2.2.2.1 (by omega)
      have w4 := wi.2.2.2.2.1 (by omega)
      have s1 := sE _ _ w3.2.1 w3.2.2 p1
      have s2 := sE _ _ w4.2.1 w4.2.2 p2
      have s25 := (sb _ _ w4.2.1 w4.2.2 p2.2).2.2 5
      exact Or.inr (Or.inr (Or.inr (Or.inr (Or.inr (Or.inr (Or.inr (Or.inl ⟨b0, c1, c2, b6, by rw [s1.2]; exact b71, by rw [s2.2]; exact b72, by rw [s25]; exact zz, s1.1, s2.1⟩)))))))
    · obtain ⟨k1, k2⟩ := chS_in w oS hch h1 h2
      have kr : r < i := by
        obtain ⟨_, r', q1, _, q3, _, q5⟩ := hch
        obtain ⟨l1, l2⟩ := chS_in w oS q5 h1 h2
        have := (w r' l1 (by omega)).2.2.2.1 (by have := oS _ _ q3; omega)
        rw [q1] at this
        omega
      have s := sE _ _ k1 kr hc
      refine Or.inr (Or.inr (Or.inr (Or.inr (Or.inr (Or.inr (Or.inr (Or.inr (Or.inl ⟨zz, b0, c, r, c', L, b6, s.1, ?_⟩))))))))
      exact chS_cg w oS h1 h2 hf12 sE (fun r c q1 q2 q3 q4 => by
        have w4 := (w r q1 (by omega)).2.2.2.2.1 (oS _ _ q4)
        have s25 := (sb _ _ w4.2.1 (by omega) q3.2).2.2 5
        unfold okS at q4 ⊢
        rw [f0 r q1 q2, s25]; exact q4) s.2 hch
    · obtain ⟨k1, k2⟩ := chS_in w oP hch h1 h2
      have kr : r < i := by
        obtain ⟨_, r', q1, _, q3, _, q5⟩ := hch
        obtain ⟨l1, l2⟩ := chS_in w oP q5 h1 h2
        have := (w r' l1 (by omega)).2.2.2.1 (by have := oP _ _ q3; omega)
        rw [q1] at this
        omega
      have s := sE _ _ k1 kr hc
      refine Or.inr (Or.inr (Or.inr (Or.inr (Or.inr (Or.inr (Or.inr (Or.inr (Or.inr (Or.inl ⟨zz, b0, c, r, c', L, b6, s.1, ?_⟩)))))))))
      exact chS_cg w oP h1 h2 hf12 sE (fun r c q1 q2 q3 q4 => by
        have w4 := (w r q1 (by omega)).2.2.2.2.1 (oP _ _ q4)
        have s25 := (sb _ _ w4.2.1 (by omega) q3.2).2.2 5
        unfold okP at q4 ⊢
        rw [f0 r q1 q2, s25]; exact q4) s.2 hch
    · have hz : f 0 i = 15 ∨ f 0 i = 16 := zz.elim (fun q => Or.inl q.1) (fun q => Or.inr q.1)
      have oK : ∀ r c, okK f (f 0 i) r c → (2 ≤ f 0 r ∧ f 0 r < 7) ∨ (9 < f 0 r ∧ f 0 r ≠ 14) := fun r c q => by
        have q : f 0 r = f 0 i := q
        omega
      obtain ⟨k1, k2⟩ := chS_in w oK hch h1 h2
      have kr : r < i := by
        obtain ⟨_, r', q1, _, q3, _, q5⟩ := hch
        obtain ⟨l1, l2⟩ := chS_in w oK q5 h1 h2
        have := (w r' l1 (by omega)).2.2.2.1 (by have := oK _ _ q3; omega)
        rw [q1] at this
        omega
      have s := sC _ _ k1 kr hc
      refine Or.inr (Or.inr (Or.inr (Or.inr (Or.inr (Or.inr (Or.inr (Or.inr (Or.inr (Or.inr ⟨zz, c, r, c', L, b6, s.1, ?_⟩)))))))))
      exact chS_cg w oK h1 h2 hf12 sC (fun r c q1 q2 q3 q4 => by
        show f' 0 r = f 0 i
        rw [f0 r q1 q2]; exact q4) s.2 hch
theorem chS_mono {sub sub' ok : Nat → Nat → Prop} {m f : Nat → Nat → Int} (hs : ∀ c j, sub c j → sub' c j) {i : Nat} : ∀ {L : List Nat} {c r : Nat}, chS sub ok m f L c r i → chS sub' ok m f L c r i
  | [], _, _, h => h
  | _ :: _, _, _, ⟨e7, r', g1, g2, g3, g4, g5⟩ => ⟨e7, r', g1, g2, g3, hs _ _ g4, chS_mono hs g5⟩
theorem chL_mono {sub sub' : Nat → Nat → Prop} {m f : Nat → Nat → Int} (hs : ∀ c j, sub c j → sub' c j) : ∀ {L : List Nat} {c r : Nat}, chL sub m f L c r → chL sub' m f L c r
  | [], _, _, h => h
  | _ :: _, _, _, ⟨e7, g1, g2, g3⟩ => ⟨e7, g1, hs _ _ g2, chL_mono hs g3⟩
/-- deeper, wider -/
theorem rl_mono {f m : Nat → Nat → Int} {t : List (Nat × Nat)} {sk sn : Nat → Int} {F S : Nat} : ∀ (n n' lo hi lo' hi' a i : Nat), n ≤ n' → lo' ≤ lo → hi ≤ hi' → rl f m t sk sn F S n lo hi a i → rl f m t sk sn F S n' lo' hi' a i := by
  intro n
  induction n with
  | zero => intro n' lo hi lo' hi' a i _ _ _ h; exact h.elim
  | succ n ih =>
    intro n' lo hi lo' hi' a i hn hlo hhi h
    obtain ⟨n', rfl⟩ : ∃ k, n' = k + 1 := ⟨n' - 1, by omega⟩
    obtain ⟨⟨a1, a2, hnd⟩, h⟩ := h
    have sb : ∀ (c j : Nat), (∃ l h, lo ≤ l ∧ h ≤ hi ∧ ¬ (l ≤ a ∧ a < h) ∧ rl f m t sk sn F S n l h c j) → ∃ l h, lo' ≤ l ∧ h ≤ hi' ∧ ¬ (l ≤ a ∧ a < h) ∧ rl f m t sk sn F S n' l h c j := fun c j ⟨l, h, g1, g2, g3, g4⟩ => ⟨l, h, by omega, by omega, g3, ih n' l h l h c j (by omega) (Nat.le_refl _) (Nat.le_refl _) g4⟩
    have sE : ∀ (c j : Nat), (f 0 j ≤ 10 ∧ ∃ l h, lo ≤ l ∧ h ≤ hi ∧ ¬ (l ≤ a ∧ a < h) ∧ rl f m t sk sn F S n l h c j) → (f 0 j ≤ 10 ∧ ∃ l h, lo' ≤ l ∧ h ≤ hi' ∧ ¬ (l ≤ a ∧ a < h) ∧ rl f m t sk sn F S n' l h c j) := fun c j q => ⟨q.1, sb c j q.2⟩
    have sC : ∀ (c j : Nat), (11 ≤ f 0 j ∧ ∃ l h, lo ≤ l ∧ h ≤ hi ∧ ¬ (l ≤ a ∧ a < h) ∧ rl f m t sk sn F S n l h c j) → (11 ≤ f 0 j ∧ ∃ l h, lo' ≤ l ∧ h ≤ hi' ∧ ¬ (l ≤ a ∧ a < h) ∧ rl f m t sk sn F S n' l h c j) := fun c j q => ⟨q.1, sb c j q.2⟩
    refine ⟨⟨by omega, by omega, hnd⟩, ?_⟩
    rcases h with h | h | h | ⟨z, b0, c, b6, hc⟩ | ⟨z, b0, c, b6, hc⟩ | ⟨zz, c, L, b6, hc, hch⟩ | ⟨z, b0, c1, c2, c3, b6, b71, b72, b73, p1, p2, p3⟩ | ⟨b0, c1, c2, b6, b71, b72, zz, p1, p2⟩ | ⟨zz, b0, c, r, c', L, b6, hc, hch⟩ | ⟨zz, b0, c, r, c', L, b6, hc, hch⟩ | ⟨zz, c, r, c', L, b6, hc, hch⟩
    · exact Or.inl h
    · exact Or.inr (Or.inl h)
    · exact Or.inr (Or.inr (Or.inl h))
    · exact Or.inr (Or.inr (Or.inr (Or.inl ⟨z, b0, c, b6, sE _ _ hc⟩)))
    · exact Or.inr (Or.inr (Or.inr (Or.inr (Or.inl ⟨z, b0, c, b6, sC _ _ hc⟩))))
    · exact Or.inr (Or.inr (Or.inr (Or.inr (Or.inr (Or.inl ⟨zz, c, L, b6, sE _ _ hc, chL_mono sE hch⟩)))))
    · exact Or.inr (Or.inr (Or.inr (Or.inr (Or.inr (Or.inr (Or.inl ⟨z, b0, c1, c2, c3, b6, b71, b72, b73, sC _ _ p1, sE _ _ p2, sE _ _ p3⟩))))))
    · exact Or.inr (Or.inr (Or.inr (Or.inr (Or.inr (Or.inr (Or.inr (Or.inl ⟨b0, c1, c2, b6, b71, b72, zz, sE _ _ p1, sE _ _ p2⟩)))))))
    · exact Or.inr (Or.inr (Or.inr (Or.inr (Or.inr (Or.inr (Or.inr (Or.inr (Or.inl ⟨zz, b0, c, r, c', L, b6, sE _ _ hc, chS_mono sE hch⟩))))))))
    · exact Or.inr (Or.inr (Or.inr (Or.inr (Or.inr (Or.inr (Or.inr (Or.inr (Or.inr (Or.inl ⟨zz, b0, c, r, c', L, b6, sE _ _ hc, chS_mono sE hch⟩)))))))))
    · exact Or.inr (Or.inr (Or.inr (Or.inr (Or.inr (Or.inr (Or.inr (Or.inr (Or.inr (Or.inr ⟨zz, c, r, c', L, b6, sC _ _ hc, chS_mono sC hch⟩)))))))))
/-- rows that stand alike -/
theorem lfo_fc {f f' : Nat → Nat → Int} (h : ∀ c, c ≤ 5 → f' c = f c) {g : Nat → Int} {k : Int} : ∀ (c : Nat) (j v : Int), lfo f' g k c j v = lfo f g k c j v
  | 0, _, _ => rfl
  | c + 1, j, v => by
    show (if j < 0 then v else lfo f' g k c (f' 4 j.toNat) _) = if j < 0 then v else lfo f g k c (f 4 j.toNat) _
    rw [h 4 (by decide), lfo_fc h c]
theorem evo_fc {f f' : Nat → Nat → Int} (h : ∀ c, c ≤ 5 → f' c = f c) {hh nm g : Nat → Int} {i : Nat} : evo f' hh nm g i = evo f hh nm g i := by
  unfold evo
  rw [lfo_fc h, lfo_fc h, h 0 (by decide), h 1 (by decide), h 2 (by decide), h 3 (by decide), h 4 (by decide), h 5 (by decide)]
theorem evn_fc {f f' : Nat → Nat → Int} (h : ∀ c, c ≤ 5 → f' c = f c) {hh nm : Nat → Int} : ∀ (n : Nat), evn f' hh nm n = evn f hh nm n
  | 0 => rfl
  | n + 1 => funext fun i => by
    show evo f' hh nm (evn f' hh nm n) i = evo f hh nm (evn f hh nm n) i
    rw [evn_fc h n, evo_fc h]
theorem EV_fc {f f' : Nat → Nat → Int} (h : ∀ c, c ≤ 5 → f' c = f c) {hh nm : Nat → Int} {i : Nat} : EV f' hh nm i = EV f hh nm i := by
  unfold EV
  rw [evn_fc h]
theorem chw_fc {f f' : Nat → Nat → Int} {lo i : Nat} (h : f' 4 = f 4) : ∀ (c : Nat) (j : Int), chw f lo i c j → chw f' lo i c j
  | 0, _, hj => hj
  | c + 1, j, hj => by
    rcases hj with hj | ⟨g1, g2⟩
    · exact Or.inl hj
    · exact Or.inr ⟨g1, by rw [h]; exact chw_fc h c _ g2⟩
theorem wfs_fc {f f' : Nat → Nat → Int} {sk sk' : Nat → Int} {F S lo hi : Nat} (h : ∀ c, c ≤ 5 → f' c = f c) (hs : ∀ j, F ≤ j → j < S → sk' j = sk j) (w : wfs f sk F S lo hi) : wfs f' sk' F S lo hi := by
  intro i h1 h2
  have wi := w i h1 h2
  unfold wfr at wi ⊢
  rw [h 0 (by decide), h 1 (by decide), h 2 (by decide), h 3 (by decide), h 4 (by decide), h 5 (by decide)]
  refine ⟨wi.1, wi.2.1, fun q => ⟨(wi.2.2.1 q).1, fun q2 => ?_⟩, wi.2.2.2.1, wi.2.2.2.2.1, wi.2.2.2.2.2.1, fun q => chw_fc (h 4 (by decide)) _ _ (wi.2.2.2.2.2.2 q)⟩
  have := (wi.2.2.1 q).2 q2
  exact ⟨this.1, by rw [hs _ (by omega) this.1]; exact this.2⟩

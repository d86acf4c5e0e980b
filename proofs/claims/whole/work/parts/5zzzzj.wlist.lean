/-! the writer of rows: lists -/
section WLI
variable {σ0 σ τ υ : xS} {f : Nat → Nat → Int} {l : List Nat} {t : Int} {K : List WF} {i lo : Nat} {a r p : Int} {wd : Int → List Nat} {n : Nat} {wx : Nat → Nat}
set_option maxHeartbeats 1000000 in
theorem W_ll (hk : f 0 i = 8 ∨ f 0 i = 9) (hi : i < 3300) (hK : K.length + i ≤ 498 + lo ∧ lo ≤ i) (Wx : ∀ x, lo ≤ x → x < i → wrow lo t f wd σ0 n x (wx x)) (hlx : ∀ x, lo ≤ x → x < i → ∀ l, (txs f wd n x l).length ≤ l.length + wx x) : ∀ (cnt : Nat) (q : Nat) (L : List Nat) (υ : xS), q < i → chw f lo i cnt (f 4 q) → wf2 σ0 υ → wz f υ.1 L (((i : Int), 1, 0, (q : Int)) :: K) → L.length + lsw f wx cnt (f 4 q) ≤ 1389 → ∃ τ, wgo t υ τ ∧ wz f τ.1 (lsx f (txs f wd n) cnt (f 4 q) L ++ [41]) K ∧ wf2 υ τ := by
  have hx : xin (K.length : Int) 500 := xin_of (by omega) (by omega)
  have hx3 : xin (i : Int) 3300 := xin_of (by omega) (by omega)
  have q81 : ∀ υ : xS, ∀ w2, X iM_writesNode 81 [(2, 305), (0, t), w2, (0, (K.length : Int)), (0, (i : Int)), (0, f 0 i)] [] υ = X iM_writesNode 238 [(2, 305), (0, t), w2, (0, (K.length : Int)), (0, (i : Int)), (0, f 0 i)] [] υ := fun υ w2 => by
    rw [qM_writesNode_81, if_neg (by omega), if_neg (by omega), if_neg (by omega), if_neg (by omega)]
    rcases hk with h | h
    · rw [if_pos h]
    · rw [if_neg (by omega), if_pos h]
  -- the end
  have ends : ∀ (q : Nat) (L : List Nat) (υ : xS), q < i → f 4 q < 0 → wz f υ.1 L (((i : Int), 1, 0, (q : Int)) :: K) → L.length ≤ 1389 → ∃ τ, wgo t υ τ ∧ wz f τ.1 (L ++ [41]) K ∧ wf2 υ τ := by
    intro q L υ hq h4 hz hL
    have hxq : xin (q : Int) 3300 := xin_of (by omega) (by omega)
    have f2 : υ.1 372 K.length = 1 := hz.2.2.1.1.2.1
    have f4 : υ.1 374 K.length = (q : Int) := hz.2.2.1.1.2.2.2
    have e4 : υ.1 355 q = f 4 q := by rw [hz.2.2.2 4 (by decide)]
    have h92 := hz.1.1.1
    have hx2 : xin (L.length : Int) 1400 := xin_of (by omega) (by omega)
    obtain ⟨g1, g2⟩ := psg_ok hz (c := 41) rfl
    obtain ⟨τ, v1, v2, v3⟩ := wz_close g1 (by omega) (Or.inl rfl) (by rw [List.length_append]; show L.length + 1 < 1400; omega)
    have v2 : wz f τ.1 (L ++ [41]) K := v2
    have e92 : xw ((L.length : Int) + 1) = ((L.length + 1 : Nat) : Int) := by rw [xw_id (by omega) (by omega)]; omega
    refine ⟨τ, fun w2 w3 w4 w5 => ⟨xkl w2, (0, (K.length : Int)), (0, (i : Int)), (0, f 0 i), ?_⟩, v2, wf2_tr g2 v3⟩
    have v1 : X iM_closes 0 [(2, 305), (0, (K.length : Int))] [] (xs (xs (xs υ 370 L.length 41) 305 92 ((L.length + 1 : Nat) : Int)) 305 93 0) = some ((9, 0), τ) := v1
    rw [wr_1 (t := t) hz (by decide) (by clear e92; omega) hi, q81, qM_writesNode_238, if_pos hx, Int.toNat_natCast, f2, if_neg (by decide), if_pos hx, f4, if_pos hxq, Int.toNat_natCast, e4, if_pos h4, h92, if_pos hx2, e92, Int.toNat_natCast, v1, Option.bind_some, qM_writesNode_374, qM_writesNode_597]
  intro cnt
  induction cnt with
  | zero =>
    intro q L υ hq hc h0 hz hL
    exact ends q L υ hq hc hz (by omega)
  | succ cnt ih =>
    intro q L υ hq hc h0 hz hL
    by_cases hj : f 4 q < 0
    · obtain ⟨τ, k1, k2, k3⟩ := ends q L υ hq hj hz (by omega)
      have e : lsx f (txs f wd n) (cnt + 1) (f 4 q) L = L := if_pos hj
      rw [e]
      exact ⟨τ, k1, k2, k3⟩
    · rcases hc with hc | ⟨⟨c1, c2⟩, c3⟩
      · exact absurd hc hj
      have el : lsw f wx (cnt + 1) (f 4 q) = 1 + wx (f 4 q).toNat + lsw f wx cnt (f 4 (f 4 q).toNat) := if_neg hj
      have ex : lsx f (txs f wd n) (cnt + 1) (f 4 q) L = lsx f (txs f wd n) cnt (f 4 (f 4 q).toNat) (txs f wd n (f 4 q).toNat (L ++ [44])) := if_neg hj
      rw [el] at hL
      rw [ex]
      obtain ⟨j, ej⟩ : ∃ j : Nat, f 4 q = (j : Int) := ⟨(f 4 q).toNat, by omega⟩
      rw [ej, Int.toNat_natCast] at hL c1 c2 c3 ⊢
      have hxq : xin (q : Int) 3300 := xin_of (by omega) (by omega)
      have f2 : υ.1 372 K.length = 1 := hz.2.2.1.1.2.1
      have f4 : υ.1 374 K.length = (q : Int) := hz.2.2.1.1.2.2.2
      have e4 : υ.1 355 q = (j : Int) := by rw [hz.2.2.2 4 (by decide)]; exact ej
      have h92 := hz.1.1.1
      have hx2 : xin (L.length : Int) 1400 := xin_of (by omega) (by omega)
      obtain ⟨g1, g2⟩ := psg_ok hz (c := 44) rfl
      obtain ⟨_, ⟨zB, qB⟩⟩ := wz_set g1 (j : Int)
      obtain ⟨υ2, m1, m2, m3⟩ := wz_begin zB (show (((i : Int), 1, 0, (j : Int)) :: K : List WF).length < 500 by rw [List.length_cons]; omega) (j : Int) 0
      have qq := wf2_tr g2 (wf2_tr qB m3)
      have eL : (L ++ [44]).length = L.length + 1 := List.length_append
      obtain ⟨τ1, w1, w2', w3'⟩ := Wx j c1 c2 υ2 (L ++ [44]) (((i : Int), 1, 0, (j : Int)) :: K) 0 (wf2_tr h0 qq) m2 (Or.inl rfl) (fun h => absurd rfl h) (by rw [List.length_cons]; omega) (by omega)
      have b0 : brk 0 (txs f wd n j) (L ++ [44]) = txs f wd n j (L ++ [44]) := by
        unfold brk
        rw [if_neg (by decide), if_neg (by decide)]
      rw [b0] at w2'
      have lt := hlx j c1 c2 (L ++ [44])
      obtain ⟨τ, k1, k2, k3⟩ := ih j _ τ1 c2 c3 (wf2_tr h0 (wf2_tr qq w3')) w2' (by omega)
      have hsl : (xs (xs (xs (xs υ 370 L.length 44) 305 92 ((L.length + 1 : Nat) : Int)) 305 93 0) 374 K.length (j : Int)).1 374 K.length = (j : Int) := by rw [xs_at, xup_eq]
      have e92 : xw ((L.length : Int) + 1) = ((L.length + 1 : Nat) : Int) := by rw [xw_id (by omega) (by omega)]; omega
      have m1 : X iM_begins 0 [(2, 305), (0, (j : Int)), (0, 0)] [] (xs (xs (xs (xs υ 370 L.length 44) 305 92 ((L.length + 1 : Nat) : Int)) 305 93 0) 374 K.length (j : Int)) = some ((9, 0), υ2) := m1
      refine ⟨τ, wgo_tr (fun w2 w3 w4 w5 => ⟨xkl w2, (0, (K.length : Int)), (0, (i : Int)), (0, f 0 i), ?_⟩) (wgo_tr w1 k1), k2, wf2_tr qq (wf2_tr w3' k3)⟩
      rw [wr_1 (t := t) hz (by decide) (by clear e92; omega) hi, q81, qM_writesNode_238, if_pos hx, Int.toNat_natCast, f2, if_neg (by decide), if_pos hx, f4, if_pos hxq, Int.toNat_natCast, e4, if_neg (by clear e92; omega), h92, if_pos hx2, if_pos hx, if_pos hxq, if_pos hx, if_pos hx, e92, Int.toNat_natCast, hsl, m1, Option.bind_some, qM_writesNode_360, qM_writesNode_597]
end WLI

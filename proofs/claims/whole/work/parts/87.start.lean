/-! THE LAW'S FRAME, FROM ITS ENTRY -/
/-- a frame's first steps, up to a stop -/
noncomputable def xgo (E : xE) (F : List (List Nat)) (P : xP) (stop mi : Nat) (K : List xAV → List xAV → xS → Prop) : Nat → Nat → List xAV → List xAV → xS → Prop
  | 0, _, _, _, _ => False
  | n + 1, pc, ls, st, σ => xob (xcode P mi pc) False fun r => xstep (X := Prop) E F r ls st σ (fun pc ls st σ => cond (Nat.beq pc stop) (K ls st σ) (xgo E F P stop mi K n pc ls st σ)) (fun _ _ => False) (fun mj as σ1 kk => ∃ v σ2, (∃ ls0, xent P mj as = some ls0 ∧ xEx E F P mj 0 ls0 [] σ1 = some (v, σ2)) ∧ kk v σ2) False
section START
variable {p : Program} {l : Launch} {e : Env} {R : Room} {s : State} {m : MethodId} {args : Array Value} {below : List Frame} {meth : Method} {c : Code} {Q : State → Prop}
variable {b : Nat} {ac : Nat → Nat} {oq : Value} {D : va_G} {cA : Nat → ClassId} {E : xE} {F : List (List Nat)} {L : Nat} {Xs : Nat → Int} {WL : List Cond} {tyF : Nat → Nat → FieldType} {M : Nat → yMt} {P : xP} {k0 n0 : Nat}
theorem xgo_b {stop mi : Nat} {K : List xAV → List xAV → xS → Prop} {k1 n1 : Nat} (hK : ∀ ls st σ, K ls st σ → xnew E σ - k0 ≤ k1 ∧ xsl σ - n0 ≤ n1) : ∀ (n pc : Nat) (ls st : List xAV) (σ : xS), xgo E F P stop mi K n pc ls st σ → xnew E σ - k0 ≤ k1 ∧ xsl σ - n0 ≤ n1 := by
  have mono : ∀ {σ σ1 : xS}, xle σ σ1 → (xnew E σ1 - k0 ≤ k1 ∧ xsl σ1 - n0 ≤ n1) → (xnew E σ - k0 ≤ k1 ∧ xsl σ - n0 ≤ n1) := fun h h1 => by
    have hn := xle_new (E := E) h
    have hs := h.2.1
    omega
  intro n
  induction n with
  | zero =>
    intro pc ls st σ h
    have h : False := h
    exact h.elim
  | succ n ih =>
    intro pc ls st σ h
    unfold xgo at h
    cases hc : xcode P mi pc with
    | none => rw [hc] at h; exact absurd h id
    | some r =>
      rw [hc] at h
      have h : xstep (X := Prop) E F r ls st σ (fun pc ls st σ => cond (Nat.beq pc stop) (K ls st σ) (xgo E F P stop mi K n pc ls st σ)) (fun _ _ => False) (fun mj as σ1 kk => ∃ v σ2, (∃ ls0, xent P mj as = some ls0 ∧ xEx E F P mj 0 ls0 [] σ1 = some (v, σ2)) ∧ kk v σ2) False := h
      revert h
      refine xstep_rel (Rl := fun (A : Prop) (_ : Unit) => A → xnew E σ - k0 ≤ k1 ∧ xsl σ - n0 ≤ n1) (k' := fun _ _ _ _ => ()) (ret' := fun _ _ => ()) (call' := fun _ _ _ _ => ()) (bad' := ()) ?_ (fun _ _ _ h => absurd h id) ?_ (fun h => absurd h id)
      · intro pc1 ls1 st1 σ1 hs1 hr1
        have hr1 : cond (Nat.beq pc1 stop) (K ls1 st1 σ1) (xgo E F P stop mi K n pc1 ls1 st1 σ1) := hr1
        cases hb : Nat.beq pc1 stop with
        | true => rw [hb] at hr1; exact mono hs1 (hK _ _ _ hr1)
        | false => rw [hb] at hr1; exact mono hs1 (ih _ _ _ _ hr1)
      · intro mj as σ1 kk kk' hkk hr1
        obtain ⟨v, σ2, ⟨ls0, he, hx⟩, hk2⟩ := hr1
        exact hkk v σ2 (xEx_le hx) hk2
theorem y_go (hTb : yTb E F WL tyF) (hCk : yCk F M P WL) (hCm : yCm M P) {mi stop : Nat} {K : List xAV → List xAV → xS → Prop} (hCx : yCx p s m args meth c b ac oq D cA E L Xs WL (M mi)) (hK : ∀ ls st σ, K ls st σ → yK b ac oq D cA E F L Xs p l e R s m args below meth c Q (M mi).2.2.1 k0 n0 stop ls st σ) :
    ∀ (n pc : Nat) (ls st : List xAV) (σ : xS), (xdp σ + (M mi).2.2.2.2 + 1 ≤ R.frames ∧ (xdp σ + (M mi).2.2.2.2 + 1) * 60 ≤ R.locals) → xgo E F P stop mi K n pc ls st σ → yK b ac oq D cA E F L Xs p l e R s m args below meth c Q (M mi).2.2.1 k0 n0 pc ls st σ := by
  intro n
  induction n with
  | zero =>
    intro pc ls st σ hF h
    have h : False := h
    exact h.elim
  | succ n ih =>
    intro pc ls st σ hF h
    refine ⟨xgo_b (fun ls st σ h => (hK ls st σ h).1) (n + 1) pc ls st σ h, fun hk hn hv H locs rs hL hH => ?_⟩
    unfold xgo at h
    cases hc : xcode P mi pc with
    | none => rw [hc] at h; exact absurd h id
    | some r =>
      rw [hc] at h
      have h : xstep (X := Prop) E F r ls st σ (fun pc ls st σ => cond (Nat.beq pc stop) (K ls st σ) (xgo E F P stop mi K n pc ls st σ)) (fun _ _ => False) (fun mj as σ1 kk => ∃ v σ2, (∃ ls0, xent P mj as = some ls0 ∧ xEx E F P mj 0 ls0 [] σ1 = some (v, σ2)) ∧ kk v σ2) False := h
      have h38 : r.1 < 41 := by
        by_cases h38 : r.1 < 41
        · exact h38
        · exfalso
          obtain ⟨o, a, b, c, v, nx, sw⟩ := r
          unfold xstep at h
          dsimp only at h h38
          split at h <;> first | exact absurd h38 (by decide) | exact absurd h id
      obtain ⟨u, hdg, hok, hw, h4⟩ := hCk mi pc r hc h38
      have hP : xstep (X := Prop) E F r ls st σ (yK b ac oq D cA E F L Xs p l e R s m args below meth c Q (M mi).2.2.1 k0 n0) (yRET b ac oq D cA E F L Xs p l e R s m args below meth c Q k0 n0 (M mi)) (fun mj as σ1 kk => ∃ v σ2, (∃ ls0, xent P mj as = some ls0 ∧ xEx E F P mj 0 ls0 [] σ1 = some (v, σ2)) ∧ kk v σ2) False := by
        refine xstep_rel (Rl := fun (A B : Prop) => A → B) ?_ (fun _ _ _ h => absurd h id) ?_ (fun h => h) h
        · intro pc1 ls1 st1 σ1 hs1 hr1
          have hr1 : cond (Nat.beq pc1 stop) (K ls1 st1 σ1) (xgo E F P stop mi K n pc1 ls1 st1 σ1) := hr1
          cases hb : Nat.beq pc1 stop with
          | true =>
            rw [hb] at hr1
            have := hK _ _ _ hr1
            rw [Nat.eq_of_beq_eq_true hb]
            exact this
          | false =>
            rw [hb] at hr1
            exact ih _ _ _ _ (by rw [hs1.2.2.1]; exact hF) hr1
        · intro mj as σ1 kk kk' hkk hr1
          obtain ⟨v, σ2, ⟨ls0, he, hx⟩, hk2⟩ := hr1
          exact ⟨v, σ2, ⟨ls0, he, hx⟩, hkk v σ2 (xEx_le hx) hk2⟩
      refine y_step (CT := fun mj as σ1 v σ2 => ∃ ls0, xent P mj as = some ls0 ∧ xEx E F P mj 0 ls0 [] σ1 = some (v, σ2)) hTb hCx hF hdg hok hw ?_ (fun mj q1 q2 q3 => by rw [← q3]; exact h4 q1 q2) hP hk hn hv hL hH
      rintro mj as σ1 w σ2 ⟨ls0, he, hx⟩ hvas
      obtain ⟨n1, hr1⟩ := xEx_iff.mp hx
      exact ⟨xrun_le _ _ _ _ _ _ _ _ hr1, y_met hTb hCm (y_frames hTb hCk hCm n1) he hr1 hvas⟩
end START
/-! from the cells that were made to the cells that are fixed -/
noncomputable def yfx (i : Nat) : Bool := match xnth xCTf i with
  | some row => (List.range row.length).all fun k => (match xnth row k with
    | some (some v) => decide (m0 (200 + i) k = v)
    | _ => true)
  | none => true
set_option maxRecDepth 100000 in
theorem yfx_ok : ∀ i, i < 192 → yfx i = true := by decide +kernel
theorem m0_fix {a k : Nat} {v : Int} (h1 : 200 ≤ a) (h : xct xE1 a k = some v) : m0 a k = v := by
  rw [xE1_ct2 h1] at h
  cases hr : xnth xCTf (a - 200) with
  | none =>
    rw [xct_none (E := xEf) hr] at h
    cases h
  | some row =>
    have hi : a - 200 < 192 := by have := yxnth_lt hr; rw [st0_len.2.2.2] at this; exact this
    have hq := xct_row (E := xEf) hr h
    have h2 := yfx_ok (a - 200) hi
    unfold yfx at h2
    rw [hr] at h2
    have h3 := List.all_eq_true.mp h2 k (List.mem_range.mpr (yxnth_lt hq))
    rw [hq] at h3
    have h3 : decide (m0 (200 + (a - 200)) k = v) = true := h3
    have h4 := of_decide_eq_true h3
    rw [show 200 + (a - 200) = a by omega] at h4
    exact h4
section SW
variable {sl dp L' : Nat} {Xs' : Nat → Int}
theorem y_swc {a : Nat} (ha : 200 ≤ a) : ycon xE1 (m0, [], sl, dp, L', Xs') a = ycon xE0 (m0, xFTf, sl, dp, L', Xs') a := by
  funext k
  unfold ycon
  rw [xE0_ct ha]
  cases h : xct xE1 a k with
  | none => rfl
  | some v => exact (m0_fix ha h).symm
theorem y_swt {a : Nat} (ha : 200 ≤ a) (hb : a < 392) : xty xE1 (m0, [], sl, dp, L', Xs') a = xty xE0 (m0, xFTf, sl, dp, L', Xs') a := by
  have h1 : Nat.ble 392 a = false := by
    cases hq : Nat.ble 392 a with
    | false => rfl
    | true => have := Nat.le_of_ble_eq_true hq; omega
  have h2 : Nat.ble 200 a = true := Nat.ble_eq_true_of_le ha
  show cond (Nat.beq a 1) _ (cond (Nat.ble 392 a) _ (xnth xE1.2.1 a)) = cond (Nat.beq a 1) _ (cond (Nat.ble 200 a) (xnth xFTf (a - 200)) _)
  rw [beq_ff (show a ≠ 1 by omega), h1, h2]
  simp only [cond_false, cond_true]
  exact xE1_ty2 ha
theorem y_swn : xnew xE1 (m0, [], sl, dp, L', Xs') = 392 ∧ xnew xE0 (m0, xFTf, sl, dp, L', Xs') = 392 := by
  refine ⟨rfl, ?_⟩
  show 200 + xFTf.length = 392
  rw [st0_len.2.2.1]
theorem y_sw {b : Nat} {ac : Nat → Nat} {D : va_G} {cA : Nat → ClassId} {L : Nat} {Xs : Nat → Int} {s : State} {H : Heap} {locs : List Loc} (h : yHp b ac D cA xE0 xFk L Xs s (m0, xFTf, sl, dp, L', Xs') H locs) : yHp b ac D cA xE1 xFk L Xs s (m0, [], sl, dp, L', Xs') H locs := by
  obtain ⟨q1, q2, q3, q4, q5⟩ := h
  have hE : ∀ a, 200 ≤ a → a < 392 → yE b ac cA xE1 xFk (m0, [], sl, dp, L', Xs') a = yE b ac cA xE0 xFk (m0, xFTf, sl, dp, L', Xs') a := by
    intro a h1 h2
    unfold yE
    rw [y_swt h1 h2]
    unfold yfs
    rw [y_swc h1]
  have hws : yws b ac cA xE1 xFk (m0, [], sl, dp, L', Xs') = yws b ac cA xE0 xFk (m0, xFTf, sl, dp, L', Xs') := by
    unfold yws
    rw [y_swn.1, y_swn.2]
    apply List.map_congr_left
    intro i hi
    have hi := List.mem_range.mp hi
    have h2 : i < 392 - 200 := hi
    rw [hE (xNC + i) (Nat.le_add_right _ _) (by show 200 + i < 392; omega)]
  refine ⟨by rw [hws]; exact q1, by rw [y_swn.1]; rw [y_swn.2] at q2; exact q2, fun a h1 h2 => ?_, q4, q5⟩
  rw [y_swn.1] at h2
  obtain ⟨c, n, g1, g2, g3⟩ := q3 a h1 (by rw [y_swn.2]; exact h2)
  exact ⟨c, n, by rw [y_swt h1 h2]; exact g1, g2, fun k hk => by rw [y_swc h1]; exact g3 k hk⟩
end SW

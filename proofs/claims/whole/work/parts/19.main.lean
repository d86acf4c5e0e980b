/-! a step of the interpreter gives the machine's -/
section YMAIN
variable {p : Program} {l : Launch} {e : Env} {R : Room} {s : State} {m : MethodId} {args : Array Value} {below : List Frame} {meth : Method} {c : Code} {Q : State → Prop}
variable {b : Nat} {ac : Nat → Nat} {oq : Value} {D : va_G} {cA : Nat → ClassId} {E : xE} {F : List (List Nat)} {L : Nat} {Xs : Nat → Int}
variable {k0 n0 pc : Nat} {ls st : List xAV} {σ : xS} {H : Heap} {locs : List Loc} {rs : Array Slot}
/-- a return's goal -/
def yRET (b : Nat) (ac : Nat → Nat) (oq : Value) (D : va_G) (cA : Nat → ClassId) (E : xE) (F : List (List Nat)) (L : Nat) (Xs : Nat → Int) (p : Program) (l : Launch) (e : Env) (R : Room) (s : State) (m : MethodId) (args : Array Value) (below : List Frame) (meth : Method) (c : Code) (Q : State → Prop) (k0 n0 : Nat) (Mm : yMt) (v : xAV) (σ : xS) : Prop :=
  ∀ (pc' : Nat) (H : Heap) (locs : List Loc) (rs : Array Slot), decode Mm.2.1 pc' = .ok (match yrk Mm.2.2.2.1 with
    | 1 => (.lreturn, 1)
    | 5 => (.areturn, 1)
    | 9 => (.return_, 1)
    | _ => (.ireturn, 1)) → (yrk Mm.2.2.2.1 ≠ 9 → yrk Mm.2.2.2.1 < 9 ∧ yvv v ∧ v.1 = xtag (yrk Mm.2.2.2.1) ∧ xna (yrk Mm.2.2.2.1) v.2 = v.2) → yHp b ac D cA E F L Xs s σ H locs → W p l e R s m args below meth c H locs (xnew E σ - k0) (xsl σ - n0) Q (F0 m pc' rs (if yrk Mm.2.2.2.1 = 9 then [] else [ycv b ac oq v]))
theorem vv_cons {t : Nat} {x : Int} (h : ∀ w ∈ ((t, x) :: st : List xAV), yvv w ∧ w.1 ≤ 3) : yvv (t, x) ∧ t ≤ 3 ∧ ∀ w ∈ st, yvv w ∧ w.1 ≤ 3 := ⟨(h _ List.mem_cons_self).1, (h _ List.mem_cons_self).2, fun w hw => h w (List.mem_cons_of_mem _ hw)⟩
theorem vv_push {w : xAV} (hw : yvv w) (h3 : w.1 ≤ 3) (h : ∀ w ∈ st, yvv w ∧ w.1 ≤ 3) : ∀ z ∈ w :: st, yvv z ∧ z.1 ≤ 3 := fun z hz => by
  rcases List.mem_cons.mp hz with e | e
  · rw [e]; exact ⟨hw, h3⟩
  · exact h z e
theorem len_set {ls : List xAV} {a t : Nat} {x : Int} : (xset ls a t x).length = ls.length := by
  unfold xset
  cases Nat.beq t 1 with
  | true => show (xput (xput (xkill ls a) a (t, x)) (a + 1) (8, 0)).length = _; rw [len_put, len_put, len_kill]
  | false => show (xput (xkill ls a) a (t, x)).length = _; rw [len_put, len_kill]
theorem xib_R (b' : Nat) (x y : Int) : yR (xib b' x y) := by
  unfold xib
  split <;> first | exact xw_R _ | exact y_toR _
theorem y_tdR {x y : Int} (hx : yR x) (hy : yR y) : yR (x.tmod y) := by
  have h := y_rem hx hy
  have h2 := congrArg Int32.toInt h
  rw [y_i32] at h2
  have h3 := Int.natAbs_tmod x y
  have h4 : (x.tmod y).natAbs ≤ x.natAbs := by rw [h3]; exact Nat.mod_le _ _
  unfold yR at hx ⊢
  rcases Int.lt_or_le x 0 with g | g
  · have h5 := Int.neg_tmod x y
    have h6 := Int.tmod_nonneg y (show 0 ≤ -x by omega)
    omega
  · have := Int.tmod_nonneg y g
    omega
theorem y_tdRL {x y : Int} (hx : yRL x) : yRL (x.tmod y) := by
  have h3 := Int.natAbs_tmod x y
  have h4 : (x.tmod y).natAbs ≤ x.natAbs := by rw [h3]; exact Nat.mod_le _ _
  unfold yRL at hx ⊢
  rcases Int.lt_or_le x 0 with g | g
  · have h5 := Int.neg_tmod x y
    have h6 := Int.tmod_nonneg y (show 0 ≤ -x by omega)
    omega
  · have := Int.tmod_nonneg y g
    omega
set_option maxHeartbeats 4000000 in
theorem y_step {WL : List Cond} {tyF : Nat → Nat → FieldType} {M : Nat → yMt} {mi : Nat} {r : xR} {u : Nat × Nat × Nat} {CT : Nat → List xAV → xS → xAV → xS → Prop} (hTb : yTb E F WL tyF) (hCx : yCx p s m args meth c b ac oq D cA E L Xs WL (M mi)) (hF : xdp σ + (M mi).2.2.2.2 + 1 ≤ R.frames ∧ (xdp σ + (M mi).2.2.2.2 + 1) * 60 ≤ R.locals) (hdg : decode (M mi).2.1 pc = .ok (yi pc r u)) (hok : yok F M mi pc r u = true) (hw : ∀ w ∈ yw F M (M mi).1.cls r u, w ∈ WL)
    (hMet : ∀ mj as σ1 v σ2, CT mj as σ1 v σ2 → (∀ w ∈ as, yvv w ∧ w.1 ≤ 3) → xle σ1 σ2 ∧ Met l (M mj).1 (.code (M mj).1 (M mj).2.1 (M mj).2.2.1 (M mj).2.2.2.1 :: WL) { frames := xdp σ1 + (M mj).2.2.2.2 + 1, cells := xnew E σ2 - xnew E σ1, slots := xsl σ2 - xsl σ1, locals := (xdp σ1 + (M mj).2.2.2.2 + 1) * 60 } (yPc b ac oq D cA E F L Xs as σ1) (yQc b ac oq D cA E F (M mj).2.2.2.1 v σ2) (xnew E σ2 - xnew E σ1) (xsl σ2 - xsl σ1) (fun q => b ≤ q))
    (h4 : ∀ mj, r.1 = 32 → u.1 = 4 → r.2.1 = mj → ∃ b0 m0 r0, Cond.code ⟨"java/lang/AbstractStringBuilder", (M mj).1.name, (M mj).1.desc⟩ b0 m0 r0 ∈ WL)
    (h : xstep (X := Prop) E F r ls st σ (yK b ac oq D cA E F L Xs p l e R s m args below meth c Q (M mi).2.2.1 k0 n0) (yRET b ac oq D cA E F L Xs p l e R s m args below meth c Q k0 n0 (M mi)) (fun mj as σ1 kk => ∃ v σ2, CT mj as σ1 v σ2 ∧ kk v σ2) False)
    (hk : k0 ≤ xnew E σ ∧ n0 ≤ xsl σ) (hn : ls.length = (M mi).2.2.1) (hv : ∀ w ∈ st, yvv w ∧ w.1 ≤ 3) (hL : yL b ac oq ls rs) (hH : yHp b ac D cA E F L Xs s σ H locs) : yW b ac oq E p l e R s m args below meth c Q k0 n0 H locs σ pc rs st := by
  obtain ⟨hE, h0, hct, hcc, hCl, h50, hWg, hrow⟩ := hTb
  obtain ⟨hx, hb, hml, hts, hown, hini, hK, hC, hbs⟩ := hCx
  have hoq := yoq_cat (yC_oq hC)
  obtain ⟨o, a, b', c', v, nx, sw⟩ := r
  have go : ∀ {nx : Nat} {ls' : List xAV} {st' : List xAV} {rs' : Array Slot} {σ' : xS}, yK b ac oq D cA E F L Xs p l e R s m args below meth c Q (M mi).2.2.1 k0 n0 nx ls' st' σ' → xnew E σ' = xnew E σ → xsl σ' = xsl σ → ls'.length = (M mi).2.2.1 → (∀ w ∈ st', yvv w ∧ w.1 ≤ 3) → yL b ac oq ls' rs' → ∀ (H1 : Heap) (locs1 : List Loc), yHp b ac D cA E F L Xs s σ' H1 locs1 → yW b ac oq E p l e R s m args below meth c Q k0 n0 H1 locs1 σ' nx rs' st' := fun h e1 e2 hl hv' hL' H1 locs1 hH' => h.2 ⟨by rw [e1]; exact hk.1, by rw [e2]; exact hk.2⟩ hl hv' H1 locs1 _ hL' hH'
  unfold xstep at h
  dsimp only at h
  split at h
  · -- 0
    simp only [yok, Bool.and_eq_true, decide_eq_true_eq, beq_iff_eq] at hok
    obtain ⟨⟨e1, e2, e3⟩, hok⟩ := hok
    have hvv : yvv (0, v) := ⟨e2, e3⟩
    have g := fun (nx' : Nat) (e : nx = nx') => e ▸ go h rfl rfl hn (vv_push hvv (by decide) hv) hL H locs hH
    obtain ⟨u1, u2, u3⟩ := u
    match u1, hdg, hok, e1, hw with
    | 0, hdg, _, e1, _ => exact lv_iconst hx hb hdg rfl (g _ e1)
    | 1, hdg, hok, e1, _ => exact lv_bipush hx hb hdg (eq_of_beq hok) (g _ e1)
    | 2, hdg, hok, e1, _ => exact lv_sipush hx hb hdg (eq_of_beq hok) (g _ e1)
    | 3, hdg, _, e1, hw => exact lv_ldc hx hb hown (hts _ (hw _ List.mem_cons_self)) hdg (g _ e1)
    | 4, hdg, hok, e1, hw =>
      cases hq : ySt[u3]? with
      | none => simp [hq] at hok
      | some q =>
        simp only [hq, beq_iff_eq] at hok
        have hw : ∀ w ∈ [Cond.fieldLink (M mi).1.cls u2 q.1 q.2.1 q.2.2.1], w ∈ WL := by
          have : yw F M (M mi).1.cls (0, a, b', c', v, nx, sw) (4, u2, u3) = [Cond.fieldLink (M mi).1.cls u2 q.1 q.2.1 q.2.2.1] := by simp only [yw, hq]
          rw [← this]; exact hw
        refine y_gets hx hb hown hC hH hq (hts _ (hw _ List.mem_cons_self)) hdg ?_
        rw [hok]
        exact g _ e1
    | _ + 5, _, hok, _, _ => cases hok
  · -- 1
    simp only [yok, Bool.and_eq_true, decide_eq_true_eq, beq_iff_eq] at hok
    obtain ⟨⟨e1, e2, e3⟩, hok⟩ := hok
    have hvv : yvv (1, v) := ⟨e2, e3⟩
    have g := fun (nx' : Nat) (e : nx = nx') => e ▸ go h rfl rfl hn (vv_push hvv (by decide) hv) hL H locs hH
    obtain ⟨u1, u2, u3⟩ := u
    match u1, hdg, hok, e1, hw with
    | 0, hdg, hok, e1, _ =>
      refine lv_lconst hx hb hdg ?_ (g _ e1)
      simp only [Bool.or_eq_true, beq_iff_eq] at hok
      rcases hok with e | e <;> subst e <;> rfl
    | _ + 1, hdg, _, e1, hw => exact lv_ldc2 hx hb hown (hts _ (hw _ List.mem_cons_self)) hdg (g _ e1)
  · -- 2
    simp only [yok, Bool.and_eq_true, decide_eq_true_eq, beq_iff_eq] at hok
    obtain ⟨⟨e1, e2⟩, hok⟩ := hok
    have hvv : yvv (2, v) := e2
    have g := fun (nx' : Nat) (e : nx = nx') => e ▸ go h rfl rfl hn (vv_push hvv (by decide) hv) hL H locs hH
    obtain ⟨u1, u2, u3⟩ := u
    match u1, hdg, hok, e1, hw with
    | 0, hdg, hok, e1, _ =>
      have e : v = 0 := eq_of_beq hok
      subst e
      exact lv_null hx hb hdg (g _ e1)
    | 1, hdg, hok, e1, hw =>
      cases hq : ySt[u3]? with
      | none => simp [hq] at hok
      | some q =>
        simp only [hq, beq_iff_eq] at hok
        have hw : ∀ w ∈ [Cond.fieldLink (M mi).1.cls u2 q.1 q.2.1 q.2.2.1], w ∈ WL := by
          have : yw F M (M mi).1.cls (2, a, b', c', v, nx, sw) (1, u2, u3) = [Cond.fieldLink (M mi).1.cls u2 q.1 q.2.1 q.2.2.1] := by simp only [yw, hq]
          rw [← this]; exact hw
        refine y_gets hx hb hown hC hH hq (hts _ (hw _ List.mem_cons_self)) hdg ?_
        rw [hok]
        exact g _ e1
    | 2, hdg, hok, e1, _ =>
      cases hq : yStr[u3]? with
      | none => simp [hq] at hok
      | some q =>
        simp only [hq, Bool.and_eq_true, beq_iff_eq] at hok
        obtain ⟨⟨⟨⟨o1, o2⟩, o3⟩, o4⟩, o5⟩ := hok
        have hR := hC.2.2.2.2.1 q (List.mem_of_getElem? hq)
        rw [o1, o2] at hR
        have g := g _ e1
        have o4 : 0 < q.2.2.2 := Nat.le_of_ble_eq_true o4
        have o5 : q.2.2.2 < xNC := Nat.le_of_ble_eq_true o5
        have e3 : ycv b ac oq (2, v) = .ref (ac q.2.2.2) := by
          show va_rf (yrf b ac v) = _
          rw [← o3, yrf_pos (by omega), Int.toNat_natCast]
          unfold yad
          rw [if_pos o5]; rfl
        unfold yW at g
        rw [List.map_cons, e3] at g
        exact va_ldcS hx hb hown hR hdg g
    | _ + 3, _, hok, _, _ => cases hok
  · -- 3
    obtain ⟨w, h1, h⟩ := xob_P h
    obtain ⟨h2, h⟩ := xco_P h
    simp only [yok, Bool.and_eq_true, beq_iff_eq, Bool.or_eq_true, bne_iff_ne, ne_eq] at hok
    obtain ⟨⟨e1, e2⟩, e3⟩ := hok
    have h2 := Nat.eq_of_beq_eq_true h2
    have e2 : b' < 3 := Nat.le_of_ble_eq_true e2
    have hvw : yvv (b', w.2) := by
      have := (hL.2.2 _ _ h1 (by omega)).2
      rw [← h2]; exact this
    refine ys_load hx hb (yC_oq hC) hL h1 h2 e2 hdg e1 ?_ (go h rfl rfl hn (vv_push hvw (by show b' ≤ 3; omega) hv) hL H locs hH)
    intro e
    rcases e3 with e3 | e3
    · exact absurd e e3
    · exact Nat.le_of_ble_eq_true e3
  · -- 4
    obtain ⟨x, st, rfl, h⟩ := xpop_P h
    obtain ⟨h2, h⟩ := xco_P h
    obtain ⟨v1, v2, v3⟩ := vv_cons hv
    simp only [yok, Bool.and_eq_true, beq_iff_eq, Bool.or_eq_true, bne_iff_ne, ne_eq] at hok
    obtain ⟨⟨e1, e2⟩, e3⟩ := hok
    have e2 : b' < 3 := Nat.le_of_ble_eq_true e2
    refine ys_store hx hb hoq hL v1 e2 ?_ hdg e1 ?_ (fun rs' hL' => go h rfl rfl (by rw [len_set]; exact hn) v3 hL' H locs hH)
    · have := Nat.le_of_ble_eq_true h2
      by_cases e : b' = 1
      · rw [if_pos e]; rw [e] at this; exact this
      · rw [if_neg e]
        have : Nat.beq b' 1 = false := by cases z : Nat.beq b' 1 with
          | false => rfl
          | true => exact absurd (Nat.eq_of_beq_eq_true z) e
        simp only [this, cond_false] at *
        omega
    · intro e
      rcases e3 with e3 | e3
      · exact absurd e e3
      · exact Nat.le_of_ble_eq_true e3
  · -- 5
    obtain ⟨w, h1, h⟩ := xob_P h
    obtain ⟨h2, h⟩ := xco_P h
    have h2 := Nat.eq_of_beq_eq_true h2
    have hok : nx = pc + 3 := by simpa [yok, yi] using hok
    subst hok
    have hl := xnth_lt h1
    obtain ⟨t, x⟩ := w
    have h2 : t = 0 := h2
    subst h2
    have h1' := hL.2.2 _ _ h1 (by decide)
    have hm : (a, Value.int (Int32.ofInt x)) ∈ yLl b ac oq ls := yLl_mem.mpr ⟨_, h1, by decide, rfl⟩
    obtain ⟨k, hk1⟩ := List.getElem?_of_mem hm
    refine lv_iinc (k := k) (x := Int32.ofInt x) (v := Int32.ofInt (xw (x + v))) hx hb hdg hL.has hk1 ?_ hl rfl (fun rs' h' => ?_)
    · rw [y_add]
    · have hz : yvv (0, xw (x + v)) := xw_R _
      have hL' := yL_set1 (t := 0) (x := xw (x + v)) hoq hL hl (by decide) hz h'
      have hxx : xset ls a 0 (xw (x + v)) = xput (xkill ls a) a (0, xw (x + v)) := rfl
      rw [hxx] at hL'
      have hL2 : yL b ac oq (xput ls a (0, xw (x + v))) rs' := by
        refine ⟨by rw [len_put]; have := hL'.1; rw [len_put, len_kill] at this; exact this, hL'.2.1, fun j w hj hw3 => ?_⟩
        rw [xnth_put] at hj
        by_cases hja : j = a
        · subst hja
          exact hL'.2.2 j w (by rw [xnth_put, len_kill]; exact hj) hw3
        · rw [if_neg (fun z => hja z.1)] at hj
          by_cases hj1 : j + 1 = a
          · have h9 := hL.2.2 _ _ hj hw3
            by_cases hw1 : w.1 = 1
            · have hc2 : (ycv b ac oq w).category = 2 := (ycv_cat hoq).mpr hw1
              have hs2 := hL.2.1.1 j _ h9.1 hc2
              rw [hj1] at hs2
              rw [h1'.1] at hs2
              cases hs2
            · refine hL'.2.2 j w ?_ hw3
              rw [xnth_put, len_kill, if_neg (fun z => hja z.1), xnth_kill, if_pos hj1, hj]
              show some (xkl w) = some w
              unfold xkl
              have : Nat.beq w.1 1 = false := by cases z : Nat.beq w.1 1 with
                | false => rfl
                | true => exact absurd (Nat.eq_of_beq_eq_true z) hw1
              rw [this]; rfl
          · exact hL'.2.2 j w (by rw [xnth_put, len_kill, if_neg (fun z => hja z.1), xnth_kill, if_neg hj1]; exact hj) hw3
      exact go h rfl rfl (by rw [len_put]; exact hn) hv hL2 H locs hH
  · -- 6
    obtain ⟨y, st, rfl, h⟩ := xpop_P h
    obtain ⟨x, st, rfl, h⟩ := xpop_P h
    have hok : nx = pc + 1 := by simpa [yok, yi] using hok
    subst hok
    obtain ⟨-, -, v3⟩ := vv_cons hv
    obtain ⟨-, -, v3⟩ := vv_cons v3
    exact ys_ib hx hb hdg (go h rfl rfl hn (vv_push (w := (0, xib b' x y)) (xib_R b' x y) (by decide) v3) hL H locs hH)
  · -- 7
    obtain ⟨y, st, rfl, h⟩ := xpop_P h
    obtain ⟨x, st, rfl, h⟩ := xpop_P h
    obtain ⟨hne, h⟩ := xnite_P h
    obtain ⟨vy, -, v3⟩ := vv_cons hv
    obtain ⟨vx, -, v3⟩ := vv_cons v3
    have vy : yR y := vy
    have vx : yR x := vx
    have hne' : ¬ Int32.ofInt y = 0 := by rw [y_0, y_eq vy yR_0]; exact hne
    match b', hdg, h, hok with
    | 0, hdg, h, hok =>
      have hok : nx = pc + 1 := by simpa [yok, yi] using hok
      subst hok
      have k := go h rfl rfl hn (vv_push (w := (0, xw (x.tdiv y))) (xw_R _) (by decide) v3) hL H locs hH
      have k : W p l e R s m args below meth c H locs (xnew E σ - k0) (xsl σ - n0) Q (F0 m (pc + 1) rs (.int (Int32.ofInt (xw (x.tdiv y))) :: st.map (ycv b ac oq))) := k
      rw [← y_div vx vy] at k
      exact lv_idiv hx hb hdg hne' k
    | b' + 1, hdg, h, hok =>
      have hok : nx = pc + 1 := by simpa [yok, yi] using hok
      subst hok
      have k := go h rfl rfl hn (vv_push (w := (0, x.tmod y)) (y_tdR vx vy) (by decide) v3) hL H locs hH
      have k : W p l e R s m args below meth c H locs (xnew E σ - k0) (xsl σ - n0) Q (F0 m (pc + 1) rs (.int (Int32.ofInt (x.tmod y)) :: st.map (ycv b ac oq))) := k
      rw [← y_rem vx vy] at k
      exact lv_irem hx hb hdg hne' k
  · -- 8
    obtain ⟨x, st, rfl, h⟩ := xpop_P h
    have hok : nx = pc + 1 := by simpa [yok, yi] using hok
    subst hok
    obtain ⟨-, -, v3⟩ := vv_cons hv
    have k := go h rfl rfl hn (vv_push (w := (0, xw (-x))) (xw_R _) (by decide) v3) hL H locs hH
    have k : W p l e R s m args below meth c H locs (xnew E σ - k0) (xsl σ - n0) Q (F0 m (pc + 1) rs (.int (Int32.ofInt (xw (-x))) :: st.map (ycv b ac oq))) := k
    rw [← y_neg] at k
    exact lv_ineg hx hb hdg k
  · -- 9
    obtain ⟨y, st, rfl, h⟩ := xpop_P h
    obtain ⟨x, st, rfl, h⟩ := xpop_P h
    obtain ⟨-, -, v3⟩ := vv_cons hv
    obtain ⟨-, -, v3⟩ := vv_cons v3
    match b', hdg, h, hok with
    | 0, hdg, h, hok =>
      have hok : nx = pc + 1 := by simpa [yok, yi] using hok
      subst hok
      have k := go h rfl rfl hn (vv_push (w := (1, xW (x + y))) (xW_R _) (by decide) v3) hL H locs hH
      have k : W p l e R s m args below meth c H locs (xnew E σ - k0) (xsl σ - n0) Q (F0 m (pc + 1) rs (.long (Int64.ofInt (xW (x + y))) :: st.map (ycv b ac oq))) := k
      rw [← y_addL] at k
      exact lv_ladd hx hb hdg k
    | 1, hdg, h, hok =>
      have hok : nx = pc + 1 := by simpa [yok, yi] using hok
      subst hok
      have k := go h rfl rfl hn (vv_push (w := (1, xW (x - y))) (xW_R _) (by decide) v3) hL H locs hH
      have k : W p l e R s m args below meth c H locs (xnew E σ - k0) (xsl σ - n0) Q (F0 m (pc + 1) rs (.long (Int64.ofInt (xW (x - y))) :: st.map (ycv b ac oq))) := k
      rw [← y_subL] at k
      exact lv_lsub hx hb hdg k
    | b' + 2, hdg, h, hok =>
      have hok : nx = pc + 1 := by simpa [yok, yi] using hok
      subst hok
      have k := go h rfl rfl hn (vv_push (w := (1, xW (x * y))) (xW_R _) (by decide) v3) hL H locs hH
      have k : W p l e R s m args below meth c H locs (xnew E σ - k0) (xsl σ - n0) Q (F0 m (pc + 1) rs (.long (Int64.ofInt (xW (x * y))) :: st.map (ycv b ac oq))) := k
      rw [← y_mulL] at k
      exact lv_lmul hx hb hdg k
  · -- 10
    obtain ⟨y, st, rfl, h⟩ := xpop_P h
    obtain ⟨x, st, rfl, h⟩ := xpop_P h
    obtain ⟨hne, h⟩ := xnite_P h
    obtain ⟨vy, -, v3⟩ := vv_cons hv
    obtain ⟨vx, -, v3⟩ := vv_cons v3
    have vy : yRL y := vy
    have vx : yRL x := vx
    have hne' : ¬ Int64.ofInt y = 0 := by
      rw [show (0 : Int64) = Int64.ofInt 0 from rfl, y_eqL vy yRL_0]
      exact hne
    match b', hdg, h, hok with
    | 0, hdg, h, hok =>
      have hok : nx = pc + 1 := by simpa [yok, yi] using hok
      subst hok
      have k := go h rfl rfl hn (vv_push (w := (1, xW (x.tdiv y))) (xW_R _) (by decide) v3) hL H locs hH
      have k : W p l e R s m args below meth c H locs (xnew E σ - k0) (xsl σ - n0) Q (F0 m (pc + 1) rs (.long (Int64.ofInt (xW (x.tdiv y))) :: st.map (ycv b ac oq))) := k
      rw [← y_divL vx vy] at k
      exact lv_ldiv hx hb hdg hne' k
    | b' + 1, hdg, h, hok =>
      have hok : nx = pc + 1 := by simpa [yok, yi] using hok
      subst hok
      have k := go h rfl rfl hn (vv_push (w := (1, x.tmod y)) (y_tdRL vx) (by decide) v3) hL H locs hH
      have k : W p l e R s m args below meth c H locs (xnew E σ - k0) (xsl σ - n0) Q (F0 m (pc + 1) rs (.long (Int64.ofInt (x.tmod y)) :: st.map (ycv b ac oq))) := k
      rw [← y_remL vx vy] at k
      exact lv_lrem hx hb hdg hne' k
  · -- 11
    obtain ⟨x, st, rfl, h⟩ := xpop_P h
    have hok : nx = pc + 1 := by simpa [yok, yi] using hok
    subst hok
    obtain ⟨-, -, v3⟩ := vv_cons hv
    have k := go h rfl rfl hn (vv_push (w := (1, xW (-x))) (xW_R _) (by decide) v3) hL H locs hH
    have k : W p l e R s m args below meth c H locs (xnew E σ - k0) (xsl σ - n0) Q (F0 m (pc + 1) rs (.long (Int64.ofInt (xW (-x))) :: st.map (ycv b ac oq))) := k
    rw [← y_negL] at k
    exact lv_lneg hx hb hdg k
  · -- 12
    obtain ⟨x, st, rfl, h⟩ := xpop_P h
    obtain ⟨vx, -, v3⟩ := vv_cons hv
    match b', hdg, h, hok, vx with
    | 0, hdg, h, hok, vx =>
      have hok : nx = pc + 1 := by simpa [yok, yi] using hok
      subst hok
      have vx : yR x := vx
      exact lv_i2l hx hb hdg (y_i2l vx) (go h rfl rfl hn (vv_push (w := (1, x)) (by show yRL x; unfold yR at vx; unfold yRL; omega) (by decide) v3) hL H locs hH)
    | 1, hdg, h, hok, vx =>
      have hok : nx = pc + 1 := by simpa [yok, yi] using hok
      subst hok
      exact lv_l2i hx hb hdg (y_l2i x) (go h rfl rfl hn (vv_push (w := (0, xw x)) (xw_R _) (by decide) v3) hL H locs hH)
    | 2, hdg, h, hok, vx =>
      have hok : nx = pc + 1 := by simpa [yok, yi] using hok
      subst hok
      exact lv_i2b hx hb hdg (y_i2b x) (go h rfl rfl hn (vv_push (w := (0, xna 2 x)) (by show yR (xna 2 x); rw [xna2]; unfold yR; omega) (by decide) v3) hL H locs hH)
    | b' + 3, hdg, h, hok, vx =>
      have hok : nx = pc + 1 := by simpa [yok, yi] using hok
      subst hok
      exact lv_i2c hx hb hdg (y_i2c x) (go h rfl rfl hn (vv_push (w := (0, xna 3 x)) (by show yR (xna 3 x); rw [xna3]; unfold yR; omega) (by decide) v3) hL H locs hH)
  · sorry
  all_goals sorry
end YMAIN

/-! a step of the interpreter gives the machine's -/
section YMAIN
variable {p : Program} {l : Launch} {e : Env} {R : Room} {s : State} {m : MethodId} {args : Array Value} {below : List Frame} {meth : Method} {c : Code} {Q : State → Prop}
variable {b : Nat} {ac : Nat → Nat} {oq : Value} {D : va_G} {cA : Nat → ClassId} {E : xE} {F : List (List Nat)} {L : Nat} {Xs : Nat → Int}
variable {k0 n0 pc : Nat} {ls st : List xAV} {σ : xS} {H : Heap} {locs : List Loc} {rs : Array Slot}
/-- a return's goal -/
def yRET (b : Nat) (ac : Nat → Nat) (oq : Value) (D : va_G) (cA : Nat → ClassId) (E : xE) (F : List (List Nat)) (L : Nat) (Xs : Nat → Int) (p : Program) (l : Launch) (e : Env) (R : Room) (s : State) (m : MethodId) (args : Array Value) (below : List Frame) (meth : Method) (c : Code) (Q : State → Prop) (k0 n0 : Nat) (Mm : yMt) (v : xAV) (σ : xS) : Prop :=
  ∀ (pc' : Nat) (H : Heap) (locs : List Loc) (rs : Array Slot), decode Mm.2.1 pc' = .ok (yrt (yrk Mm.2.2.2.1)) → (yrk Mm.2.2.2.1 ≠ 9 → yrk Mm.2.2.2.1 < 9 ∧ yvv v ∧ v.1 = xtag (yrk Mm.2.2.2.1) ∧ xna (yrk Mm.2.2.2.1) v.2 = v.2) → yHp b ac D cA E F L Xs s σ H locs → W p l e R s m args below meth c H locs (xnew E σ - k0) (xsl σ - n0) Q (F0 m pc' rs (if yrk Mm.2.2.2.1 = 9 then [] else [ycv b ac oq v]))
theorem vv_cons {t : Nat} {x : Int} (h : ∀ w ∈ ((t, x) :: st : List xAV), yvv w ∧ w.1 ≤ 3) : yvv (t, x) ∧ t ≤ 3 ∧ ∀ w ∈ st, yvv w ∧ w.1 ≤ 3 := ⟨(h _ List.mem_cons_self).1, (h _ List.mem_cons_self).2, fun w hw => h w (List.mem_cons_of_mem _ hw)⟩
theorem vv_push {w : xAV} (hw : yvv w) (h3 : w.1 ≤ 3) (h : ∀ w ∈ st, yvv w ∧ w.1 ≤ 3) : ∀ z ∈ w :: st, yvv z ∧ z.1 ≤ 3 := fun z hz => by
  rcases List.mem_cons.mp hz with e | e
  · rw [e]; exact ⟨hw, h3⟩
  · exact h z e
theorem len_set {ls : List xAV} {a t : Nat} {x : Int} : (xset ls a t x).length = ls.length := by
  unfold xset
  cases Nat.beq t 1 with
  | true => show (xput (xput (xkill ls a) a (t, x)) (a + 1) (8, 0)).length = _; rw [len_put, len_put, len_kill]
  | false => show (xput (xkill ls a) a (t, x)).length = _; rw [len_put, len_kill]
theorem xib_R (b' : Nat) (x y : Int) : yR (xib b' x y) := by
  unfold xib
  split <;> first | exact xw_R _ | exact y_toR _
theorem y_tdR {x y : Int} (hx : yR x) (hy : yR y) : yR (x.tmod y) := by
  have h := y_rem hx hy
  have h2 := congrArg Int32.toInt h
  rw [y_i32] at h2
  have h3 := Int.natAbs_tmod x y
  have h4 : (x.tmod y).natAbs ≤ x.natAbs := by rw [h3]; exact Nat.mod_le _ _
  unfold yR at hx ⊢
  rcases Int.lt_or_le x 0 with g | g
  · have h5 := Int.neg_tmod x y
    have h6 := Int.tmod_nonneg y (show 0 ≤ -x by omega)
    omega
  · have := Int.tmod_nonneg y g
    omega
theorem y_tdRL {x y : Int} (hx : yRL x) : yRL (x.tmod y) := by
  have h3 := Int.natAbs_tmod x y
  have h4 : (x.tmod y).natAbs ≤ x.natAbs := by rw [h3]; exact Nat.mod_le _ _
  unfold yRL at hx ⊢
  rcases Int.lt_or_le x 0 with g | g
  · have h5 := Int.neg_tmod x y
    have h6 := Int.tmod_nonneg y (show 0 ≤ -x by omega)
    omega
  · have := Int.tmod_nonneg y g
    omega
theorem yc1 {w : xAV} (ho : oq.category = 1) (h : Nat.beq w.1 1 = false) : (ycv b ac oq w).category = 1 := ycv_cat1 ho (fun q => by rw [q] at h; cases h)
theorem xif_P {b : Nat} {x y : Int} {A B A' B' : Prop} (h : xif b x y A B) (hA : A → A') (hB : B → B') : xif b x y A' B' := xif_rel (Rl := fun (P Q : Prop) => P → Q) hA hB h
theorem xsw_P {l : List (Int × Nat)} {x : Int} {d d' : Prop} {k k' : Nat → Prop} (h : xsw l x d k) (hd : d → d') (hk : ∀ t, k t → k' t) : xsw l x d' k' := xsw_rel (Rl := fun (P Q : Prop) => P → Q) hd hk h
theorem xif0_P {x y : Int} {A B : Prop} (h : xif 0 x y A B) : (x = y → A) ∧ (¬ x = y → B) := by
  have h : if x = y then A else B := h
  exact ⟨fun e => by rwa [if_pos e] at h, fun e => by rwa [if_neg e] at h⟩
theorem xif1_P {x y : Int} {A B : Prop} (h : xif 1 x y A B) : (¬ x = y → A) ∧ (x = y → B) := by
  have h : if x = y then B else A := h
  exact ⟨fun e => by rwa [if_neg e] at h, fun e => by rwa [if_pos e] at h⟩
theorem y_cm {x y : Int} (hC : yC b ac oq E L Xs s s.heap) (hx : 0 ≤ x) (hy : 0 ≤ y) (h1 : xcm x = true) (h2 : xcm y = true) : yrf b ac x = yrf b ac y ↔ x = y := by
  have key : ∀ z : Int, xcm z = true → z.toNat = 0 ∨ (2 ≤ z.toNat ∧ z.toNat < 40) ∨ xNC ≤ z.toNat := by
    intro z hz
    unfold xcm at hz
    simp only [Bool.or_eq_true, Bool.and_eq_true] at hz
    rcases hz with (h | h) | h
    · exact Or.inl (Nat.eq_of_beq_eq_true h)
    · exact Or.inr (Or.inl ⟨Nat.le_of_ble_eq_true h.1, Nat.lt_succ_of_le (Nat.le_of_ble_eq_true h.2)⟩)
    · exact Or.inr (Or.inr (Nat.le_of_ble_eq_true h))
  have h := hC.2.2.2.2.2.2 _ _ (key x h1) (key y h2)
  rw [Int.toNat_of_nonneg hx, Int.toNat_of_nonneg hy] at h
  rw [h]
  omega
theorem xlen_P {x : Int} {n : Nat} (h : xlen E σ x = some n) : ∃ t, t < 8 ∧ xarr E σ x t = some n := by
  unfold xlen at h
  cases hq : xty E σ x.toNat with
  | none => rw [hq] at h; cases h
  | some q =>
    rw [hq] at h
    simp only at h
    cases hb : Nat.ble 100 q.1 && Nat.ble q.1 107 with
    | false => rw [hb] at h; cases h
    | true =>
      rw [hb] at h
      rw [Bool.and_eq_true] at hb
      have h1 := Nat.le_of_ble_eq_true hb.1
      have h2 := Nat.le_of_ble_eq_true hb.2
      refine ⟨q.1 - 100, by omega, ?_⟩
      unfold xarr
      rw [hq]
      simp only
      rw [show 100 + (q.1 - 100) = q.1 by omega, Nat.beq_refl]
      exact h
theorem y_iflc {cc : ByteArray} {rest : List Value} {b' : Nat} {x y off : Int} {tgt cells slots : Nat} (hx : p.tables.exec = Jvm.exec) (hb : c.code = cc) (hr : yRL x) (hq : yRL y) (hd1 : decode cc pc = .ok (.lcmp, 1)) (hdg : decode cc (pc + 1) = .ok (yj0 b' off, 3)) (ht : ((pc + 1 : Nat) : Int) + off = (tgt : Int))
    (k : xif b' x y (W p l e R s m args below meth c H locs cells slots Q (F0 m tgt rs rest)) (W p l e R s m args below meth c H locs cells slots Q (F0 m (pc + 1 + 3) rs rest))) : W p l e R s m args below meth c H locs cells slots Q (F0 m pc rs (.long (Int64.ofInt y) :: .long (Int64.ofInt x) :: rest)) := by
  refine W.lcmp hx hb hd1 ?_
  have e0 := lg_cmp_eq (Int64.ofInt x) (Int64.ofInt y)
  have l0 := lg_cmp_lt (Int64.ofInt x) (Int64.ofInt y)
  have g0 := lg_cmp_gt (Int64.ofInt x) (Int64.ofInt y)
  have ge := lg_cmp_ge (Int64.ofInt x) (Int64.ofInt y)
  have le := lg_cmp_le (Int64.ofInt x) (Int64.ofInt y)
  have eL : ∀ {u v : Int}, yRL u → yRL v → (Int64.ofInt u ≤ Int64.ofInt v ↔ u ≤ v) := fun hu hv => by rw [Int64.le_iff_toInt_le, y_i64R hu, y_i64R hv]
  rw [y_eqL hr hq] at e0
  rw [y_ltL hr hq] at l0
  rw [y_ltL hq hr] at g0
  rw [eL hq hr] at ge
  rw [eL hr hq] at le
  unfold xif at k
  unfold yj0 at hdg
  split at k
  · exact lv_if_eq hx hb hdg ht (fun h => by rwa [if_pos (e0.mp h)] at k) (fun h => by rwa [if_neg (fun q => h (e0.mpr q))] at k)
  · exact lv_if_ne hx hb hdg ht (fun h => by rwa [if_neg (fun q => h (e0.mpr q))] at k) (fun h => by rwa [if_pos (e0.mp h)] at k)
  · exact lv_if_lt hx hb hdg ht (fun h => by rwa [if_pos (l0.mp h)] at k) (fun h => by rwa [if_neg (fun q => h (l0.mpr q))] at k)
  · exact lv_if_ge hx hb hdg ht (fun h => by rwa [if_neg (by have := ge.mp h; omega)] at k) (fun h => by rwa [if_pos (l0.mp (Int32.not_le.mp h))] at k)
  · exact lv_if_gt hx hb hdg ht (fun h => by rwa [if_pos (g0.mp h)] at k) (fun h => by rwa [if_neg (fun q => h (g0.mpr q))] at k)
  · have hdg : decode cc (pc + 1) = .ok (.ifCond .le off, 3) := by
      revert hdg
      split <;> first | (intro h; exact h) | (intro; simp_all)
    exact lv_if_le hx hb hdg ht (fun h => by rwa [if_neg (by have := le.mp h; omega)] at k) (fun h => by rwa [if_pos (g0.mp (Int32.not_le.mp h))] at k)
theorem xle_new {σ' : xS} (h : xle σ σ') : xnew E σ ≤ xnew E σ' := by
  obtain ⟨⟨t, h1⟩, -⟩ := h
  show E.1 + (xtys σ).length ≤ E.1 + (xtys σ').length
  rw [h1, List.length_append]
  omega
set_option maxHeartbeats 4000000 in
theorem y_step {WL : List Cond} {tyF : Nat → Nat → FieldType} {M : Nat → yMt} {mi : Nat} {r : xR} {u : Nat × Nat × Nat} {CT : Nat → List xAV → xS → xAV → xS → Prop} (hTb : yTb E F WL tyF) (hCx : yCx p s m args meth c b ac oq D cA E L Xs WL (M mi)) (hF : xdp σ + (M mi).2.2.2.2 + 1 ≤ R.frames ∧ (xdp σ + (M mi).2.2.2.2 + 1) * 60 ≤ R.locals) (hdg : decode (M mi).2.1 pc = .ok (yi pc r u)) (hok : yok F M mi pc r u = true) (hw : ∀ w ∈ yw F M (M mi).1.cls r u, w ∈ WL)
    (hMet : ∀ mj as σ1 v σ2, CT mj as σ1 v σ2 → (∀ w ∈ as, yvv w ∧ w.1 ≤ 3) → xle σ1 σ2 ∧ Met l (M mj).1 (.code (M mj).1 (M mj).2.1 (M mj).2.2.1 (M mj).2.2.2.1 :: WL) { frames := xdp σ1 + (M mj).2.2.2.2 + 1, cells := xnew E σ2 - xnew E σ1, slots := xsl σ2 - xsl σ1, locals := (xdp σ1 + (M mj).2.2.2.2 + 1) * 60 } (yPc b ac oq D cA E F L Xs as σ1) (yQc b ac oq D cA E F (M mj).2.2.2.1 v σ2) (xnew E σ2 - xnew E σ1) (xsl σ2 - xsl σ1) (fun q => b ≤ q))
    (h4 : ∀ mj, r.1 = 32 → u.1 = 4 → r.2.1 = mj → ∃ b0 m0 r0, Cond.code ⟨"java/lang/AbstractStringBuilder", (M mj).1.name, (M mj).1.desc⟩ b0 m0 r0 ∈ WL)
    (h : xstep (X := Prop) E F r ls st σ (yK b ac oq D cA E F L Xs p l e R s m args below meth c Q (M mi).2.2.1 k0 n0) (yRET b ac oq D cA E F L Xs p l e R s m args below meth c Q k0 n0 (M mi)) (fun mj as σ1 kk => ∃ v σ2, CT mj as σ1 v σ2 ∧ kk v σ2) False)
    (hk : k0 ≤ xnew E σ ∧ n0 ≤ xsl σ) (hn : ls.length = (M mi).2.2.1) (hv : ∀ w ∈ st, yvv w ∧ w.1 ≤ 3) (hL : yL b ac oq ls rs) (hH : yHp b ac D cA E F L Xs s σ H locs) : yW b ac oq E p l e R s m args below meth c Q k0 n0 H locs σ pc rs st := by
  obtain ⟨hE, h0, hct, hcc, hCl, h50, hWg, hrow⟩ := hTb
  obtain ⟨hx, hb, hml, hts, hown, hini, hK, hC, hbs⟩ := hCx
  have hoq := yoq_cat (yC_oq hC)
  obtain ⟨o, a, b', c', v, nx, sw⟩ := r
  have go : ∀ {nx : Nat} {ls' : List xAV} {st' : List xAV} {rs' : Array Slot} {σ' : xS}, yK b ac oq D cA E F L Xs p l e R s m args below meth c Q (M mi).2.2.1 k0 n0 nx ls' st' σ' → xnew E σ' = xnew E σ → xsl σ' = xsl σ → ls'.length = (M mi).2.2.1 → (∀ w ∈ st', yvv w ∧ w.1 ≤ 3) → yL b ac oq ls' rs' → ∀ (H1 : Heap) (locs1 : List Loc), yHp b ac D cA E F L Xs s σ' H1 locs1 → yW b ac oq E p l e R s m args below meth c Q k0 n0 H1 locs1 σ' nx rs' st' := fun h e1 e2 hl hv' hL' H1 locs1 hH' => h.2 ⟨by rw [e1]; exact hk.1, by rw [e2]; exact hk.2⟩ hl hv' H1 locs1 _ hL' hH'
  unfold xstep at h
  dsimp only at h
  split at h
  · -- 0
    simp only [yok, Bool.and_eq_true, decide_eq_true_eq, beq_iff_eq] at hok
    obtain ⟨⟨e1, e2, e3⟩, hok⟩ := hok
    have hvv : yvv (0, v) := ⟨e2, e3⟩
    have g := fun (nx' : Nat) (e : nx = nx') => e ▸ go h rfl rfl hn (vv_push hvv (Nat.le_of_ble_eq_true rfl) hv) hL H locs hH
    obtain ⟨u1, u2, u3⟩ := u
    match u1, hdg, hok, e1, hw with
    | 0, hdg, _, e1, _ => exact lv_iconst hx hb hdg rfl (g _ e1)
    | 1, hdg, hok, e1, _ => exact lv_bipush hx hb hdg (eq_of_beq hok) (g _ e1)
    | 2, hdg, hok, e1, _ => exact lv_sipush hx hb hdg (eq_of_beq hok) (g _ e1)
    | 3, hdg, _, e1, hw => exact lv_ldc hx hb hown (hts _ (hw _ List.mem_cons_self)) hdg (g _ e1)
    | 4, hdg, hok, e1, hw =>
      cases hq : ySt[u3]? with
      | none => simp [hq] at hok
      | some q =>
        simp only [hq, beq_iff_eq] at hok
        have hw : ∀ w ∈ [Cond.fieldLink (M mi).1.cls u2 q.1 q.2.1 q.2.2.1], w ∈ WL := by
          have : yw F M (M mi).1.cls (0, a, b', c', v, nx, sw) (4, u2, u3) = [Cond.fieldLink (M mi).1.cls u2 q.1 q.2.1 q.2.2.1] := by simp only [yw, hq]
          rw [← this]; exact hw
        refine y_gets hx hb hown hC hH hq (hts _ (hw _ List.mem_cons_self)) hdg ?_
        rw [hok]
        exact g _ e1
    | 5, hdg, hok, e1, hw => exact lv_ldcw hx hb hown (hts _ (hw _ List.mem_cons_self)) hdg (g _ e1)
    | _ + 6, _, hok, _, _ => cases hok
  · -- 1
    simp only [yok, Bool.and_eq_true, decide_eq_true_eq, beq_iff_eq] at hok
    obtain ⟨⟨e1, e2, e3⟩, hok⟩ := hok
    have hvv : yvv (1, v) := ⟨e2, e3⟩
    have g := fun (nx' : Nat) (e : nx = nx') => e ▸ go h rfl rfl hn (vv_push hvv (Nat.le_of_ble_eq_true rfl) hv) hL H locs hH
    obtain ⟨u1, u2, u3⟩ := u
    match u1, hdg, hok, e1, hw with
    | 0, hdg, hok, e1, _ =>
      refine lv_lconst hx hb hdg ?_ (g _ e1)
      simp only [Bool.or_eq_true, beq_iff_eq] at hok
      rcases hok with e | e <;> subst e <;> rfl
    | _ + 1, hdg, _, e1, hw => exact lv_ldc2 hx hb hown (hts _ (hw _ List.mem_cons_self)) hdg (g _ e1)
  · -- 2
    simp only [yok, Bool.and_eq_true, decide_eq_true_eq, beq_iff_eq] at hok
    obtain ⟨⟨e1, e2⟩, hok⟩ := hok
    have hvv : yvv (2, v) := e2
    have g := fun (nx' : Nat) (e : nx = nx') => e ▸ go h rfl rfl hn (vv_push hvv (Nat.le_of_ble_eq_true rfl) hv) hL H locs hH
    obtain ⟨u1, u2, u3⟩ := u
    match u1, hdg, hok, e1, hw with
    | 0, hdg, hok, e1, _ =>
      have e : v = 0 := eq_of_beq hok
      subst e
      exact lv_null hx hb hdg (g _ e1)
    | 1, hdg, hok, e1, hw =>
      cases hq : ySt[u3]? with
      | none => simp [hq] at hok
      | some q =>
        simp only [hq, beq_iff_eq] at hok
        have hw : ∀ w ∈ [Cond.fieldLink (M mi).1.cls u2 q.1 q.2.1 q.2.2.1], w ∈ WL := by
          have : yw F M (M mi).1.cls (2, a, b', c', v, nx, sw) (1, u2, u3) = [Cond.fieldLink (M mi).1.cls u2 q.1 q.2.1 q.2.2.1] := by simp only [yw, hq]
          rw [← this]; exact hw
        refine y_gets hx hb hown hC hH hq (hts _ (hw _ List.mem_cons_self)) hdg ?_
        rw [hok]
        exact g _ e1
    | 2, hdg, hok, e1, _ =>
      cases hq : yStr[u3]? with
      | none => simp [hq] at hok
      | some q =>
        simp only [hq, Bool.and_eq_true, beq_iff_eq] at hok
        obtain ⟨⟨⟨⟨o1, o2⟩, o3⟩, o4⟩, o5⟩ := hok
        have hR := hC.2.2.2.2.1.1 q (List.mem_of_getElem? hq)
        rw [o1, o2] at hR
        have g := g _ e1
        have o4 : 0 < q.2.2.2 := Nat.le_of_ble_eq_true o4
        have o5 : q.2.2.2 < xNC := Nat.le_of_ble_eq_true o5
        have e3 : ycv b ac oq (2, v) = .ref (ac q.2.2.2) := by
          show va_rf (yrf b ac v) = _
          rw [← o3, yrf_pos (by omega), Int.toNat_natCast]
          unfold yad
          rw [if_pos o5]; rfl
        unfold yW at g
        rw [List.map_cons, e3] at g
        exact va_ldcS hx hb hown hR hdg g
    | 3, hdg, hok, e1, _ =>
      cases hq : yNf[u3]? with
      | none => simp [hq] at hok
      | some q =>
        simp only [hq, Bool.and_eq_true, beq_iff_eq] at hok
        obtain ⟨⟨⟨o1, o2⟩, o3⟩, o4⟩ := hok
        have o3 : q.2.2.2 < 44 := Nat.le_of_ble_eq_true o3
        have hN := hC.2.2.2.2.1.2.2.1 q (List.mem_of_getElem? hq)
        rw [o1, o2] at hN
        have hs44 : ySt.length = 44 := rfl
        have hqs : ySq q.2.2.2 ∈ ySt := by
          unfold ySq
          rw [List.getD_eq_getElem?_getD, List.getElem?_eq_getElem (by rw [hs44]; exact o3)]
          exact List.getElem_mem _
        have hZ := hC.2.2.2.1 _ hqs
        have g := g _ e1
        have e3 : ycv b ac oq (ySq q.2.2.2).2.2.2 = ycv b ac oq (2, v) := by rw [o4]
        unfold yW at g
        rw [List.map_cons, ← e3] at g
        exact va_getsN hx hb hZ hH.2.2.2.2 hown (va_Nw.use rfl hN) (fun _ h => h) hdg g
    | _ + 4, _, hok, _, _ => cases hok
  · -- 3
    replace h := xob_P h
    obtain ⟨w, h1, h⟩ := h
    replace h := xco_P h
    obtain ⟨h2, h⟩ := h
    simp only [yok, Bool.and_eq_true, beq_iff_eq, Bool.or_eq_true, bne_iff_ne, ne_eq] at hok
    obtain ⟨⟨e1, e2⟩, e3⟩ := hok
    have h2 := Nat.eq_of_beq_eq_true h2
    have e2 : b' < 3 := Nat.le_of_ble_eq_true e2
    have hvw : yvv (b', w.2) := by
      have := (hL.2.2 _ _ h1 (by omega)).2
      rw [← h2]; exact this
    refine ys_load hx hb (yC_oq hC) hL h1 h2 e2 hdg e1 ?_ (go h rfl rfl hn (vv_push hvw (by show b' ≤ 3; omega) hv) hL H locs hH)
    intro e
    rcases e3 with e3 | e3
    · exact absurd e e3
    · exact Nat.le_of_ble_eq_true e3
  · -- 4
    replace h := xpop_P h
    obtain ⟨x, st, rfl, h⟩ := h
    replace h := xco_P h
    obtain ⟨h2, h⟩ := h
    obtain ⟨v1, v2, v3⟩ := vv_cons hv
    simp only [yok, Bool.and_eq_true, beq_iff_eq, Bool.or_eq_true, bne_iff_ne, ne_eq] at hok
    obtain ⟨⟨e1, e2⟩, e3⟩ := hok
    have e2 : b' < 3 := Nat.le_of_ble_eq_true e2
    refine ys_store hx hb hoq hL v1 e2 ?_ hdg e1 ?_ (fun rs' hL' => go h rfl rfl (by rw [len_set]; exact hn) v3 hL' H locs hH)
    · have := Nat.le_of_ble_eq_true h2
      by_cases e : b' = 1
      · rw [if_pos e]; rw [e] at this; exact this
      · rw [if_neg e]
        have : Nat.beq b' 1 = false := by cases z : Nat.beq b' 1 with
          | false => rfl
          | true => exact absurd (Nat.eq_of_beq_eq_true z) e
        simp only [this, cond_false] at *
        omega
    · intro e
      rcases e3 with e3 | e3
      · exact absurd e e3
      · exact Nat.le_of_ble_eq_true e3
  · -- 5
    replace h := xob_P h
    obtain ⟨w, h1, h⟩ := h
    replace h := xco_P h
    obtain ⟨h2, h⟩ := h
    have h2 := Nat.eq_of_beq_eq_true h2
    have hok : nx = pc + 3 := by simpa [yok, yi] using hok
    subst hok
    have hl := yxnth_lt h1
    obtain ⟨t, x⟩ := w
    have h2 : t = 0 := h2
    subst h2
    have h1' := hL.2.2 _ _ h1 (Nat.zero_le 3)
    have hm : (a, Value.int (Int32.ofInt x)) ∈ yLl b ac oq ls := yLl_mem.mpr ⟨_, h1, Nat.zero_le 3, rfl⟩
    obtain ⟨k, hk1⟩ := List.getElem?_of_mem hm
    refine lv_iinc (k := k) (x := Int32.ofInt x) (v := Int32.ofInt (xw (x + v))) hx hb hdg hL.has hk1 ?_ hl rfl (fun rs' h' => ?_)
    · rw [y_add]
    · have hz : yvv (0, xw (x + v)) := xw_R _
      have hL' := yL_set1 (t := 0) (x := xw (x + v)) hoq hL hl (by decide) hz h'
      have hxx : xset ls a 0 (xw (x + v)) = xput (xkill ls a) a (0, xw (x + v)) := rfl
      rw [hxx] at hL'
      have hL2 : yL b ac oq (xput ls a (0, xw (x + v))) rs' := by
        refine ⟨by rw [len_put]; have := hL'.1; rw [len_put, len_kill] at this; exact this, hL'.2.1, fun j w hj hw3 => ?_⟩
        rw [xnth_put] at hj
        by_cases hja : j = a
        · subst hja
          rw [if_pos ⟨rfl, hl⟩] at hj
          exact hL'.2.2 j w (by rw [xnth_put, len_kill, if_pos ⟨rfl, hl⟩]; exact hj) hw3
        · rw [if_neg (fun z => hja z.1)] at hj
          by_cases hj1 : j + 1 = a
          · have h9 := hL.2.2 _ _ hj hw3
            by_cases hw1 : w.1 = 1
            · have hc2 : (ycv b ac oq w).category = 2 := (ycv_cat hoq).mpr hw1
              have hs2 := hL.2.1.1 j _ h9.1 hc2
              rw [hj1] at hs2
              rw [h1'.1] at hs2
              cases hs2
            · refine hL'.2.2 j w ?_ hw3
              rw [xnth_put, len_kill, if_neg (fun z => hja z.1), xnth_kill, if_pos hj1, hj]
              show some (xkl w) = some w
              unfold xkl
              have : Nat.beq w.1 1 = false := by cases z : Nat.beq w.1 1 with
                | false => rfl
                | true => exact absurd (Nat.eq_of_beq_eq_true z) hw1
              rw [this]; rfl
          · exact hL'.2.2 j w (by rw [xnth_put, len_kill, if_neg (fun z => hja z.1), xnth_kill, if_neg hj1]; exact hj) hw3
      exact go h rfl rfl (by rw [len_put]; exact hn) hv hL2 H locs hH
  · -- 6
    replace h := xpop_P h
    obtain ⟨y, st, rfl, h⟩ := h
    replace h := xpop_P h
    obtain ⟨x, st, rfl, h⟩ := h
    have hok : nx = pc + 1 := by simpa [yok, yi] using hok
    subst hok
    obtain ⟨-, -, v3⟩ := vv_cons hv
    obtain ⟨-, -, v3⟩ := vv_cons v3
    exact ys_ib hx hb hdg (go h rfl rfl hn (vv_push (w := (0, xib b' x y)) (xib_R b' x y) (Nat.le_of_ble_eq_true rfl) v3) hL H locs hH)
  · -- 7
    replace h := xpop_P h
    obtain ⟨y, st, rfl, h⟩ := h
    replace h := xpop_P h
    obtain ⟨x, st, rfl, h⟩ := h
    replace h := xnite_P h
    obtain ⟨hne, h⟩ := h
    obtain ⟨vy, -, v3⟩ := vv_cons hv
    obtain ⟨vx, -, v3⟩ := vv_cons v3
    have vy : yR y := vy
    have vx : yR x := vx
    have hne' : ¬ Int32.ofInt y = 0 := by rw [y_0, y_eq vy yR_0]; exact hne
    match b', hdg, h, hok with
    | 0, hdg, h, hok =>
      have hok : nx = pc + 1 := by simpa [yok, yi] using hok
      subst hok
      have k := go h rfl rfl hn (vv_push (w := (0, xw (x.tdiv y))) (xw_R _) (Nat.le_of_ble_eq_true rfl) v3) hL H locs hH
      have k : W p l e R s m args below meth c H locs (xnew E σ - k0) (xsl σ - n0) Q (F0 m (pc + 1) rs (.int (Int32.ofInt (xw (x.tdiv y))) :: st.map (ycv b ac oq))) := k
      rw [← y_div vx vy] at k
      exact lv_idiv hx hb hdg hne' k
    | b' + 1, hdg, h, hok =>
      have hok : nx = pc + 1 := by simpa [yok, yi] using hok
      subst hok
      have k := go h rfl rfl hn (vv_push (w := (0, x.tmod y)) (y_tdR vx vy) (Nat.le_of_ble_eq_true rfl) v3) hL H locs hH
      have k : W p l e R s m args below meth c H locs (xnew E σ - k0) (xsl σ - n0) Q (F0 m (pc + 1) rs (.int (Int32.ofInt (x.tmod y)) :: st.map (ycv b ac oq))) := k
      rw [← y_rem vx vy] at k
      exact lv_irem hx hb hdg hne' k
  · -- 8
    replace h := xpop_P h
    obtain ⟨x, st, rfl, h⟩ := h
    have hok : nx = pc + 1 := by simpa [yok, yi] using hok
    subst hok
    obtain ⟨-, -, v3⟩ := vv_cons hv
    have k := go h rfl rfl hn (vv_push (w := (0, xw (-x))) (xw_R _) (Nat.le_of_ble_eq_true rfl) v3) hL H locs hH
    have k : W p l e R s m args below meth c H locs (xnew E σ - k0) (xsl σ - n0) Q (F0 m (pc + 1) rs (.int (Int32.ofInt (xw (-x))) :: st.map (ycv b ac oq))) := k
    rw [← y_neg] at k
    exact lv_ineg hx hb hdg k
  · -- 9
    replace h := xpop_P h
    obtain ⟨y, st, rfl, h⟩ := h
    replace h := xpop_P h
    obtain ⟨x, st, rfl, h⟩ := h
    obtain ⟨-, -, v3⟩ := vv_cons hv
    obtain ⟨-, -, v3⟩ := vv_cons v3
    match b', hdg, h, hok with
    | 0, hdg, h, hok =>
      have hok : nx = pc + 1 := by simpa [yok, yi] using hok
      subst hok
      have k := go h rfl rfl hn (vv_push (w := (1, xW (x + y))) (xW_R _) (Nat.le_of_ble_eq_true rfl) v3) hL H locs hH
      have k : W p l e R s m args below meth c H locs (xnew E σ - k0) (xsl σ - n0) Q (F0 m (pc + 1) rs (.long (Int64.ofInt (xW (x + y))) :: st.map (ycv b ac oq))) := k
      rw [← y_addL] at k
      exact lv_ladd hx hb hdg k
    | 1, hdg, h, hok =>
      have hok : nx = pc + 1 := by simpa [yok, yi] using hok
      subst hok
      have k := go h rfl rfl hn (vv_push (w := (1, xW (x - y))) (xW_R _) (Nat.le_of_ble_eq_true rfl) v3) hL H locs hH
      have k : W p l e R s m args below meth c H locs (xnew E σ - k0) (xsl σ - n0) Q (F0 m (pc + 1) rs (.long (Int64.ofInt (xW (x - y))) :: st.map (ycv b ac oq))) := k
      rw [← y_subL] at k
      exact lv_lsub hx hb hdg k
    | b' + 2, hdg, h, hok =>
      have hok : nx = pc + 1 := by simpa [yok, yi] using hok
      subst hok
      have k := go h rfl rfl hn (vv_push (w := (1, xW (x * y))) (xW_R _) (Nat.le_of_ble_eq_true rfl) v3) hL H locs hH
      have k : W p l e R s m args below meth c H locs (xnew E σ - k0) (xsl σ - n0) Q (F0 m (pc + 1) rs (.long (Int64.ofInt (xW (x * y))) :: st.map (ycv b ac oq))) := k
      rw [← y_mulL] at k
      exact lv_lmul hx hb hdg k
  · -- 10
    replace h := xpop_P h
    obtain ⟨y, st, rfl, h⟩ := h
    replace h := xpop_P h
    obtain ⟨x, st, rfl, h⟩ := h
    replace h := xnite_P h
    obtain ⟨hne, h⟩ := h
    obtain ⟨vy, -, v3⟩ := vv_cons hv
    obtain ⟨vx, -, v3⟩ := vv_cons v3
    have vy : yRL y := vy
    have vx : yRL x := vx
    have hne' : ¬ Int64.ofInt y = 0 := by
      rw [show (0 : Int64) = Int64.ofInt 0 from rfl, y_eqL vy yRL_0]
      exact hne
    match b', hdg, h, hok with
    | 0, hdg, h, hok =>
      have hok : nx = pc + 1 := by simpa [yok, yi] using hok
      subst hok
      have k := go h rfl rfl hn (vv_push (w := (1, xW (x.tdiv y))) (xW_R _) (Nat.le_of_ble_eq_true rfl) v3) hL H locs hH
      have k : W p l e R s m args below meth c H locs (xnew E σ - k0) (xsl σ - n0) Q (F0 m (pc + 1) rs (.long (Int64.ofInt (xW (x.tdiv y))) :: st.map (ycv b ac oq))) := k
      rw [← y_divL vx vy] at k
      exact lv_ldiv hx hb hdg hne' k
    | b' + 1, hdg, h, hok =>
      have hok : nx = pc + 1 := by simpa [yok, yi] using hok
      subst hok
      have k := go h rfl rfl hn (vv_push (w := (1, x.tmod y)) (y_tdRL vx) (Nat.le_of_ble_eq_true rfl) v3) hL H locs hH
      have k : W p l e R s m args below meth c H locs (xnew E σ - k0) (xsl σ - n0) Q (F0 m (pc + 1) rs (.long (Int64.ofInt (x.tmod y)) :: st.map (ycv b ac oq))) := k
      rw [← y_remL vx vy] at k
      exact lv_lrem hx hb hdg hne' k
  · -- 11
    replace h := xpop_P h
    obtain ⟨x, st, rfl, h⟩ := h
    have hok : nx = pc + 1 := by simpa [yok, yi] using hok
    subst hok
    obtain ⟨-, -, v3⟩ := vv_cons hv
    have k := go h rfl rfl hn (vv_push (w := (1, xW (-x))) (xW_R _) (Nat.le_of_ble_eq_true rfl) v3) hL H locs hH
    have k : W p l e R s m args below meth c H locs (xnew E σ - k0) (xsl σ - n0) Q (F0 m (pc + 1) rs (.long (Int64.ofInt (xW (-x))) :: st.map (ycv b ac oq))) := k
    rw [← y_negL] at k
    exact lv_lneg hx hb hdg k
  · -- 12
    replace h := xpop_P h
    obtain ⟨x, st, rfl, h⟩ := h
    obtain ⟨vx, -, v3⟩ := vv_cons hv
    match b', hdg, h, hok, vx with
    | 0, hdg, h, hok, vx =>
      have hok : nx = pc + 1 := by simpa [yok, yi] using hok
      subst hok
      have vx : yR x := vx
      exact lv_i2l hx hb hdg (y_i2l vx) (go h rfl rfl hn (vv_push (w := (1, x)) (by show yRL x; unfold yR at vx; unfold yRL; omega) (Nat.le_of_ble_eq_true rfl) v3) hL H locs hH)
    | 1, hdg, h, hok, vx =>
      have hok : nx = pc + 1 := by simpa [yok, yi] using hok
      subst hok
      exact lv_l2i hx hb hdg (y_l2i x) (go h rfl rfl hn (vv_push (w := (0, xw x)) (xw_R _) (Nat.le_of_ble_eq_true rfl) v3) hL H locs hH)
    | 2, hdg, h, hok, vx =>
      have hok : nx = pc + 1 := by simpa [yok, yi] using hok
      subst hok
      exact lv_i2b hx hb hdg (y_i2b x) (go h rfl rfl hn (vv_push (w := (0, xna 2 x)) (by show yR (xna 2 x); rw [xna2]; unfold yR; omega) (Nat.le_of_ble_eq_true rfl) v3) hL H locs hH)
    | b' + 3, hdg, h, hok, vx =>
      have hok : nx = pc + 1 := by simpa [yok, yi] using hok
      subst hok
      exact lv_i2c hx hb hdg (y_i2c x) (go h rfl rfl hn (vv_push (w := (0, xna 3 x)) (by show yR (xna 3 x); rw [xna3]; unfold yR; omega) (Nat.le_of_ble_eq_true rfl) v3) hL H locs hH)
  · -- 13
    cases st with
    | nil => exact absurd h id
    | cons w st =>
      replace h := xnc_P h
      obtain ⟨hb1, h⟩ := h
      have hok : nx = pc + 1 := by simpa [yok, yi] using hok
      subst hok
      have hw1 := hv w List.mem_cons_self
      exact lv_dup hx hb hdg (yc1 hoq hb1) (go h rfl rfl hn (vv_push hw1.1 hw1.2 hv) hL H locs hH)
  · -- 14
    cases st with
    | nil => exact absurd h id
    | cons w st =>
      replace h := xnc_P h
      obtain ⟨hb1, h⟩ := h
      have hok : nx = pc + 1 := by simpa [yok, yi] using hok
      subst hok
      exact lv_pop hx hb hdg (yc1 hoq hb1) (go h rfl rfl hn (fun z hz => hv z (List.mem_cons_of_mem _ hz)) hL H locs hH)
  · -- 15
    cases st with
    | nil => exact absurd h id
    | cons w st =>
      cases st with
      | nil => exact absurd h id
      | cons w2 st =>
        replace h := xnc_P h
        obtain ⟨hb1, h⟩ := h
        rw [Bool.or_eq_false_iff] at hb1
        have hok : nx = pc + 1 := by simpa [yok, yi] using hok
        subst hok
        have hw1 := hv w List.mem_cons_self
        exact lv_dup_x1 hx hb hdg (yc1 hoq hb1.1) (yc1 hoq hb1.2) (go h rfl rfl hn (vv_push hw1.1 hw1.2 (vv_push (hv w2 (List.mem_cons_of_mem _ List.mem_cons_self)).1 (hv w2 (List.mem_cons_of_mem _ List.mem_cons_self)).2 (vv_push hw1.1 hw1.2 (fun z hz => hv z (List.mem_cons_of_mem _ (List.mem_cons_of_mem _ hz)))))) hL H locs hH)
  · -- 16
    cases st with
    | nil => exact absurd h id
    | cons w st =>
      cases st with
      | nil => exact absurd h id
      | cons w2 st =>
        replace h := xnc_P h
        obtain ⟨hb1, h⟩ := h
        rw [Bool.or_eq_false_iff] at hb1
        have hok : nx = pc + 1 := by simpa [yok, yi] using hok
        subst hok
        have hw1 := hv w List.mem_cons_self
        exact lv_dup2_11 hx hb hdg (yc1 hoq hb1.1) (yc1 hoq hb1.2) (go h rfl rfl hn (vv_push hw1.1 hw1.2 (vv_push (hv w2 (List.mem_cons_of_mem _ List.mem_cons_self)).1 (hv w2 (List.mem_cons_of_mem _ List.mem_cons_self)).2 hv)) hL H locs hH)
  · -- 17
    replace h := xpop_P h
    obtain ⟨x, st, rfl, h⟩ := h
    have hok : nx = pc + 3 := by simpa [yok] using hok
    subst hok
    obtain ⟨vx, -, v3⟩ := vv_cons hv
    exact y_if0 hx hb vx hdg (tgt := c') (by omega) (xif_P h (fun h => go h rfl rfl hn v3 hL H locs hH) (fun h => go h rfl rfl hn v3 hL H locs hH))
  · -- 18
    replace h := xpop_P h
    obtain ⟨y, st, rfl, h⟩ := h
    replace h := xpop_P h
    obtain ⟨x, st, rfl, h⟩ := h
    have hok : nx = pc + 3 := by simpa [yok] using hok
    subst hok
    obtain ⟨vy, -, v3⟩ := vv_cons hv
    obtain ⟨vx, -, v3⟩ := vv_cons v3
    exact y_ifc hx hb vx vy hdg (tgt := c') (by omega) (xif_P h (fun h => go h rfl rfl hn v3 hL H locs hH) (fun h => go h rfl rfl hn v3 hL H locs hH))
  · -- 19
    replace h := xpop_P h
    obtain ⟨y, st, rfl, h⟩ := h
    replace h := xpop_P h
    obtain ⟨x, st, rfl, h⟩ := h
    replace h := xco_P h
    obtain ⟨hc1, h⟩ := h
    simp only [yok, Bool.and_eq_true, beq_iff_eq] at hok
    obtain ⟨hok, hb2⟩ := hok
    subst hok
    have hb2 : b' < 2 := Nat.le_of_ble_eq_true hb2
    obtain ⟨vy, -, v3⟩ := vv_cons hv
    obtain ⟨vx, -, v3⟩ := vv_cons v3
    rw [Bool.and_eq_true] at hc1
    have key := y_cm hC vx vy hc1.1 hc1.2
    match b', hb2, hdg, h with
    | 0, _, hdg, h =>
      have h := xif0_P h
      exact lv_acmp_eq (rx := yrf b ac x) (ry := yrf b ac y) (tgt := c') hx hb hdg (by omega) (fun e => go (h.1 (key.mp e)) rfl rfl hn v3 hL H locs hH) (fun e => go (h.2 (fun q => e (key.mpr q))) rfl rfl hn v3 hL H locs hH)
    | 1, _, hdg, h =>
      have h := xif1_P h
      exact lv_acmp_ne (rx := yrf b ac x) (ry := yrf b ac y) (tgt := c') hx hb hdg (by omega) (fun e => go (h.1 (fun q => e (key.mpr q))) rfl rfl hn v3 hL H locs hH) (fun e => go (h.2 (key.mp e)) rfl rfl hn v3 hL H locs hH)
    | b' + 2, hb2, _, _ => omega
  · -- 20
    replace h := xpop_P h
    obtain ⟨x, st, rfl, h⟩ := h
    simp only [yok, Bool.and_eq_true, beq_iff_eq] at hok
    obtain ⟨hok, hb2⟩ := hok
    subst hok
    have hb2 : b' < 2 := Nat.le_of_ble_eq_true hb2
    obtain ⟨vx, -, v3⟩ := vv_cons hv
    have vx : 0 ≤ x := vx
    have e1 : ∀ z, yW b ac oq E p l e R s m args below meth c Q k0 n0 H locs σ z rs ((2, x) :: st) = W p l e R s m args below meth c H locs (xnew E σ - k0) (xsl σ - n0) Q (F0 m z rs (va_rf (yrf b ac x) :: st.map (ycv b ac oq))) := fun _ => rfl
    rw [e1]
    by_cases hz : x = 0
    · have e2 : yrf b ac x = none := by unfold yrf; rw [if_pos (by omega)]
      rw [e2]
      match b', hb2, hdg, h with
      | 0, _, hdg, h => exact lv_ifnullN (tgt := c') hx hb hdg (by omega) (go ((xif0_P h).1 hz) rfl rfl hn v3 hL H locs hH)
      | 1, _, hdg, h => exact lv_ifnonnullN hx hb hdg (go ((xif1_P h).2 hz) rfl rfl hn v3 hL H locs hH)
      | b' + 2, hb2, _, _ => omega
    · have e2 : yrf b ac x = some (yad b ac x.toNat) := yrf_pos (by omega)
      rw [e2]
      match b', hb2, hdg, h with
      | 0, _, hdg, h => exact lv_ifnull hx hb hdg (go ((xif0_P h).2 hz) rfl rfl hn v3 hL H locs hH)
      | 1, _, hdg, h => exact lv_ifnonnull (tgt := c') hx hb hdg (by omega) (go ((xif1_P h).1 hz) rfl rfl hn v3 hL H locs hH)
      | b' + 2, hb2, _, _ => omega
  · -- 21
    exact lv_goto (tgt := c') hx hb hdg (by omega) (go h rfl rfl hn hv hL H locs hH)
  · -- 22
    replace h := xpop_P h
    obtain ⟨y, st, rfl, h⟩ := h
    replace h := xpop_P h
    obtain ⟨x, st, rfl, h⟩ := h
    simp only [yok, Bool.and_eq_true, beq_iff_eq, decide_eq_true_eq] at hok
    obtain ⟨hok, hd2⟩ := hok
    subst hok
    obtain ⟨vy, -, v3⟩ := vv_cons hv
    obtain ⟨vx, -, v3⟩ := vv_cons v3
    exact y_iflc hx hb vx vy hdg hd2 (tgt := c') (by omega) (xif_P h (fun h => go h rfl rfl hn v3 hL H locs hH) (fun h => go h rfl rfl hn v3 hL H locs hH))
  · -- 23
    replace h := xpop_P h
    obtain ⟨x, st, rfl, h⟩ := h
    obtain ⟨vx, -, v3⟩ := vv_cons hv
    obtain ⟨u1, u2, u3⟩ := u
    simp only [yok, Bool.and_eq_true, bne_iff_ne, ne_eq] at hok
    obtain ⟨hok, hne⟩ := hok
    have h := xsw_P h (fun h => go h rfl rfl hn v3 hL H locs hH) (fun t h => go h rfl rfl hn v3 hL H locs hH)
    match u1, hdg, hok with
    | 0, hdg, hok =>
      have hok : ∀ i, i < sw.length → (sw.getD i (0, 0)).1 = (sw.headD (0, 0)).1 + (i : Int) := by
        intro i hi
        have := List.all_eq_true.mp hok i (List.mem_range.mpr hi)
        exact eq_of_beq this
      exact y_table (dflt := 0) hx hb vx hne hok hdg h
    | _ + 1, hdg, hok => exact y_lookup hx hb vx hok hdg h
  · -- 24
    replace h := xpop_P h
    obtain ⟨x, st, rfl, h⟩ := h
    replace h := xob_P h
    obtain ⟨w, hw0, h⟩ := h
    simp only [yok, Bool.and_eq_true, beq_iff_eq] at hok
    obtain ⟨⟨⟨hok, ha⟩, hk1⟩, hkc⟩ := hok
    subst hok
    have ha : a < 100 := Nat.le_of_ble_eq_true ha
    have hkk : ∀ q, vwCl[a]? = some q → b' < q.2.2 ∧ yfk F a b' = c' := by
      intro q hq
      rw [hq] at hk1
      simp only [Bool.and_eq_true, beq_iff_eq] at hk1
      exact ⟨Nat.le_of_ble_eq_true hk1.1, hk1.2⟩
    have hkc' : yck a b' = c' ∨ (a ≠ 0 ∧ a ≠ 50) := by simpa using hkc
    obtain ⟨-, -, v3⟩ := vv_cons hv
    have hvk := yfld_vk hE hC hH.2.2.1 hw0 ha hkk (fun ci q hq => (hCl ci q hq).2.1) hkc' (fun z c1 n h1 h2 h3 => (hcc z c1 n h1 h2).1 h3)
    exact ys_getf hx hb hE h0 hts hCl hown hK hC hH hw0 ha hkk hkc' (fun z c1 n h1 h2 h3 => (hcc z c1 n h1 h2).1 h3) h50 (hts _ (hw _ List.mem_cons_self)) hdg (go h rfl rfl hn (vv_push (yvv_of hvk) (Nat.le_trans (xtag_le _) (Nat.le_succ 2)) v3) hL H locs hH)
  · -- 25
    replace h := xpop_P h
    obtain ⟨w, st, rfl, h⟩ := h
    replace h := xpop_P h
    obtain ⟨x, st, rfl, h⟩ := h
    replace h := xco_P h
    obtain ⟨ho, h⟩ := h
    replace h := xck_P h
    obtain ⟨hna, h⟩ := h
    replace h := xob_P h
    obtain ⟨σ1, hwr, h⟩ := h
    simp only [yok, Bool.and_eq_true, beq_iff_eq, bne_iff_ne, ne_eq] at hok
    obtain ⟨⟨⟨hok, ha⟩, h9⟩, hk1⟩ := hok
    subst hok
    have ha : a < 100 := Nat.le_of_ble_eq_true ha
    have hkk : ∀ q, vwCl[a]? = some q → b' < q.2.2 ∧ yfk F a b' = c' ∧ ((q.2.1 b').2.2.2 = true → meth.name = "<init>" ∧ (q.2.1 b').1 = (M mi).1.cls) := by
      intro q hq
      rw [hq] at hk1
      simp only [Bool.and_eq_true, beq_iff_eq, Bool.or_eq_true, Bool.not_eq_true'] at hk1
      refine ⟨Nat.le_of_ble_eq_true hk1.1.1, hk1.1.2, fun q1 => ?_⟩
      rcases hk1.2 with q2 | q2
      · rw [q1] at q2; cases q2
      · exact ⟨hini q2.1, q2.2⟩
    obtain ⟨vw, -, v3⟩ := vv_cons hv
    obtain ⟨-, -, v3⟩ := vv_cons v3
    have hwr0 := hwr
    obtain ⟨-, -, e1⟩ := xwr_P hwr0
    subst e1
    exact ys_putf hx hb hE hts hCl hown hK hH ho hwr hna vw ha h9 hkk h50 (hts _ (hw _ List.mem_cons_self)) hdg (fun H1 locs1 hH1 => go h rfl rfl hn v3 hL H1 locs1 hH1)
  · -- 26
    replace h := xpop_P h
    obtain ⟨i, st, rfl, h⟩ := h
    replace h := xpop_P h
    obtain ⟨x, st, rfl, h⟩ := h
    replace h := xob_P h
    obtain ⟨n, hn0, h⟩ := h
    replace h := xite_P h
    obtain ⟨hin, h⟩ := h
    simp only [yok, Bool.and_eq_true, beq_iff_eq] at hok
    obtain ⟨hok, ha⟩ := hok
    subst hok
    have ha : a < 8 := Nat.le_of_ble_eq_true ha
    obtain ⟨vi, -, v3⟩ := vv_cons hv
    obtain ⟨-, -, v3⟩ := vv_cons v3
    obtain ⟨_, _, -, -, -, -, -, -, -, q8⟩ := yarr_of hE h0 hK hC hH hn0 ha
    have hvk := (q8 i.toNat (by have := hin.1; have := hin.2; omega)).2
    exact ys_ald hx hb hE h0 hK hC hH hn0 ha vi hin hdg (go h rfl rfl hn (vv_push (yvv_of hvk) (Nat.le_trans (xtag_le _) (Nat.le_succ 2)) v3) hL H locs hH)
  · -- 27
    replace h := xpop_P h
    obtain ⟨w, st, rfl, h⟩ := h
    replace h := xpop_P h
    obtain ⟨i, st, rfl, h⟩ := h
    replace h := xpop_P h
    obtain ⟨x, st, rfl, h⟩ := h
    replace h := xob_P h
    obtain ⟨n, hn0, h⟩ := h
    replace h := xco_P h
    obtain ⟨hobj, h⟩ := h
    replace h := xite_P h
    obtain ⟨hin, h⟩ := h
    replace h := xob_P h
    obtain ⟨σ1, hwr, h⟩ := h
    simp only [yok, Bool.and_eq_true, beq_iff_eq, Bool.or_eq_true, bne_iff_ne, ne_eq] at hok
    obtain ⟨⟨⟨hok, ha⟩, e5⟩, e6⟩ := hok
    subst hok
    have ha : a < 7 := Nat.le_of_ble_eq_true ha
    obtain ⟨vw, -, v3⟩ := vv_cons hv
    obtain ⟨vi, -, v3⟩ := vv_cons v3
    obtain ⟨-, -, v3⟩ := vv_cons v3
    have hob : xtag a = 2 → w = 0 ∨ ∃ (a1 : Nat) (cv : Cell) (kv : Class), yrf b ac w = some a1 ∧ H[a1]? = some cv ∧ (∀ q, cv.vm ≠ .statics q) ∧ s.vm.classes[cv.cls]? = some kv ∧ ∀ comp C, yTy.getD a .int = .object C → s.vm.findClass C = some comp → s.vm.assignable cv.cls comp = true := by
      intro ht
      rw [ht] at hobj
      have hobj : (xisO E σ w c' || decide (w = 0)) = true := hobj
      rw [Bool.or_eq_true, decide_eq_true_eq] at hobj
      rcases hobj with ho | ho
      · have ha5 : a = 5 ∧ c' = 50 ∨ a = 6 ∧ c' = 11 := by
          rcases (show a = 0 ∨ a = 1 ∨ a = 2 ∨ a = 3 ∨ a = 4 ∨ a = 5 ∨ a = 6 by omega) with e | e | e | e | e | e | e <;> subst e <;> first | (exact absurd ht (by decide)) | skip
          · rcases e5 with e5 | e5
            · exact absurd rfl e5
            · exact Or.inl ⟨rfl, e5⟩
          · rcases e6 with e6 | e6
            · exact absurd rfl e6
            · exact Or.inr ⟨rfl, e6⟩
        obtain ⟨a1, cv, r1, r2, r3, r4⟩ := y_recv hE h0 hK hC hH ho (by omega)
        obtain ⟨kv, hkv⟩ := Vm.classAt_of_findClass r4
        refine Or.inr ⟨a1, cv, kv, r1, r2, fun q hq => by rw [hq] at r3; exact Bool.noConfusion r3, hkv, fun comp C hC1 hC2 => ?_⟩
        have e1 : yCn c' = C := by
          rcases ha5 with ⟨q1, q2⟩ | ⟨q1, q2⟩ <;> subst q1 <;> subst q2 <;> exact (FieldType.object.inj hC1)
        rw [e1, hC2] at r4
        rw [Option.some.inj r4]
        exact va_asg _ _
      · exact Or.inl ho
    have hwr0 := hwr
    obtain ⟨-, -, e1⟩ := xwr_P hwr0
    subst e1
    exact ys_ast (ci := 0) hx hb hE hK hC hH hn0 ha vi hin vw hwr hob hdg (fun H1 locs1 hH1 => go h rfl rfl hn v3 hL H1 locs1 hH1)
  · -- 28
    replace h := xpop_P h
    obtain ⟨x, st, rfl, h⟩ := h
    replace h := xob_P h
    obtain ⟨n, hn0, h⟩ := h
    have hok : nx = pc + 1 := by simpa [yok, yi] using hok
    subst hok
    obtain ⟨-, -, v3⟩ := vv_cons hv
    obtain ⟨t, ht, hxa⟩ := xlen_P hn0
    exact ys_alen hx hb hE h0 hK hC hH hxa ht hdg (fun hR => go h rfl rfl hn (vv_push (w := (0, (n : Int))) hR (Nat.zero_le 3) v3) hL H locs hH)
  · -- 29
    replace h := xob_P h
    obtain ⟨f, hf, h⟩ := h
    simp only [yok, Bool.and_eq_true, beq_iff_eq] at hok
    obtain ⟨⟨hok, ha⟩, hff⟩ := hok
    subst hok
    have ha : a < 14 := Nat.le_of_ble_eq_true ha
    rw [hf] at hff
    simp only [Bool.and_eq_true, beq_iff_eq, List.all_eq_true, List.mem_range] at hff
    obtain ⟨hf6, hfl⟩ := hff
    have h1 := h.1
    rw [xnew_al, xsl_al] at h1
    refine ys_new (n := 0) hx hb hE hct hts hCl hown hK hH ha hf (fun k hk' => ⟨?_, Nat.le_of_ble_eq_true (hf6 k hk')⟩) (hts _ (hw _ List.mem_cons_self)) (by rw [← hfl]; exact hts _ (hw _ (List.mem_cons_of_mem _ List.mem_cons_self))) (hts _ (hw _ (List.mem_cons_of_mem _ (List.mem_cons_of_mem _ List.mem_cons_self)))) (by omega) hk h1 hdg (fun H1 hH1 => ?_)
    · have : yfk F a k < 6 := Nat.le_of_ble_eq_true (hf6 k hk')
      omega
    · exact h.2 ⟨by rw [xnew_al]; omega, by rw [xsl_al]; omega⟩ hn (vv_push (w := (2, ((xnew E σ : Nat) : Int))) (Int.natCast_nonneg _) (Nat.le_succ 2) hv) H1 locs rs hL hH1
  · -- 30
    replace h := xpop_P h
    obtain ⟨n, st, rfl, h⟩ := h
    replace h := xite_P h
    obtain ⟨hin, h⟩ := h
    obtain ⟨-, -, v3⟩ := vv_cons hv
    have h1 := h.1
    rw [xnew_al, xsl_al] at h1
    have fin : ∀ (H1 : Heap), yHp b ac D cA E F L Xs s (xal E σ (100 + a) n.toNat) H1 locs → yW b ac oq E p l e R s m args below meth c Q k0 n0 H1 locs (xal E σ (100 + a) n.toNat) nx rs ((2, ((xnew E σ : Nat) : Int)) :: st) := fun H1 hH1 => h.2 ⟨by rw [xnew_al]; omega, by rw [xsl_al]; omega⟩ hn (vv_push (w := (2, ((xnew E σ : Nat) : Int))) (Int.natCast_nonneg _) (Nat.le_succ 2) v3) H1 locs rs hL hH1
    obtain ⟨u1, u2, u3⟩ := u
    match u1, hdg, hok, hw with
    | 0, hdg, hok, hw =>
      simp only [yok, Bool.and_eq_true, beq_iff_eq] at hok
      obtain ⟨hok, ha⟩ := hok
      subst hok
      exact ys_newa hx hb hE hct hK hH (Nat.le_of_ble_eq_true ha) hin.1 hin.2 (hts _ (hw _ List.mem_cons_self)) hk h1 hdg fin
    | _ + 1, hdg, hok, hw =>
      simp only [yok, Bool.and_eq_true, beq_iff_eq, Bool.or_eq_true] at hok
      obtain ⟨hok, ha⟩ := hok
      subst hok
      rcases ha with e1 | e1 <;> subst e1
      · exact ys_newq (C := "LinenPool$Kind") hx hb hE hct hown hK hH (Or.inl ⟨rfl, rfl⟩) hin.1 hin.2 (hts _ (hw _ List.mem_cons_self)) hC.2.2.2.2.1.2.2.2.1.use hk h1 hdg fin
      · exact ys_newq (C := "LinenPool$Terms") hx hb hE hct hown hK hH (Or.inr ⟨rfl, rfl⟩) hin.1 hin.2 (hts _ (hw _ List.mem_cons_self)) hC.2.2.2.2.1.2.2.2.2.1.use hk h1 hdg fin
  · -- 31
    replace h := xpop_P h
    obtain ⟨k, st, rfl, h⟩ := h
    replace h := xpop_P h
    obtain ⟨n, st, rfl, h⟩ := h
    replace h := xite_P h
    obtain ⟨hin, h⟩ := h
    obtain ⟨-, -, v3⟩ := vv_cons hv
    obtain ⟨-, -, v3⟩ := vv_cons v3
    simp only [yok, Bool.and_eq_true, beq_iff_eq] at hok
    obtain ⟨⟨hok, ha⟩, hb7⟩ := hok
    subst hok ha hb7
    have hro := xrows_facts (t := 0) (k := k.toNat) (o := xnew E σ) hE hct (Nat.le_add_right _ _) n.toNat 0 (xal E σ (100 + 7) n.toNat) (by rw [xnew_al]; exact Nat.lt_succ_self _)
    have hr1 := hro.1
    have hr2 := hro.2.1
    rw [xnew_al] at hr1
    rw [xsl_al] at hr2
    have h1 := h.1
    rw [hr1, hr2] at h1
    refine ys_mna (t := 0) hx hb hE hct hown hK hH hin.1 hin.2 (hts _ (hw _ List.mem_cons_self)) hC.2.2.2.2.1.2.2.2.2.2.1 (hts _ (hw _ (List.mem_cons_of_mem _ List.mem_cons_self))) hk h1 hdg (fun H1 hH1 => ?_)
    exact h.2 ⟨by rw [hr1]; omega, by rw [hr2]; omega⟩ hn (vv_push (w := (2, ((xnew E σ : Nat) : Int))) (Int.natCast_nonneg _) (Nat.le_succ 2) v3) H1 locs rs hL hH1
  · -- 32
    replace h := xob_P h
    obtain ⟨⟨as, rest⟩, htk, h⟩ := h
    replace h := xco_P h
    obtain ⟨hcat, h⟩ := h
    replace h := xco_P h
    obtain ⟨hrcv, h⟩ := h
    obtain ⟨u1, u2, u3⟩ := u
    simp only [yok, Bool.and_eq_true] at hok
    obtain ⟨⟨⟨⟨⟨hok, hmh, hpar⟩, hml2⟩, hrk⟩, hret⟩, hu⟩ := hok
    have hok : nx = pc + 3 := eq_of_beq hok
    subst hok
    have hpar := eq_of_beq hpar
    have hml2 := Nat.le_of_ble_eq_true hml2
    have hcat : xcat rest ≤ 8 := Nat.le_of_ble_eq_true hcat
    obtain ⟨z, hz1, hz2, hz3⟩ := xtake_P htk
    have hst : st = as.reverse ++ rest := by rw [hz1, hz2]; simp
    have hlen : as.length = b' := by rw [hz1]; simp [hz3]
    have vas : ∀ w ∈ as, yvv w ∧ w.1 ≤ 3 := fun w hw1 => hv w (by rw [hst]; exact List.mem_append_left _ (List.mem_reverse.mpr hw1))
    have vrs : ∀ w ∈ rest, yvv w ∧ w.1 ≤ 3 := fun w hw1 => hv w (by rw [hst]; exact List.mem_append_right _ hw1)
    have hrec : (c' / 4 % 2 = 1 ∧ 0 < b') → ∃ x as', as = (2, x) :: as' ∧ xisO E σ x v.toNat = true := by
      rintro ⟨q1, q2⟩
      cases as with
      | nil => rw [← hlen] at q2; exact absurd q2 (Nat.lt_irrefl 0)
      | cons w as' =>
        obtain ⟨tw, x⟩ := w
        rw [q1] at hrcv
        have hrcv : (Nat.beq tw 2 && xisO E σ x v.toNat) = true := hrcv
        rw [Bool.and_eq_true] at hrcv
        have := Nat.eq_of_beq_eq_true hrcv.1
        subst this
        exact ⟨x, as', rfl, hrcv.2⟩
    have hu2 : (ysta u1 = false → c' / 4 % 2 = 1 ∧ 0 < b' ∧ v.toNat < 100) ∧ ((u1 = 0 ∧ yCn v.toNat = (M a).1.cls) ∨ u1 = 1 ∨ (u1 = 2 ∧ (M a).1.name = "<init>" ∧ (M a).2.2.2.1 = none) ∨ u1 = 3 ∨ u1 = 4 ∨ (u1 = 5 ∧ (M a).1.name ≠ "<init>" ∧ v.toNat < 14) ∨ u1 = 6 ∨ (u1 = 7 ∧ (M a).1.name = "<init>" ∧ (M a).2.2.2.1 = none)) ∧ (u1 = 6 ∨ u1 = 7 → yokn M mi a (u1, u2, u3) = true) := by
      have ns : ∀ n, (n = 6 ∨ n = 7) → n < 6 → yokn M mi a (n, u2, u3) = true := fun n q1 q2 => by omega
      match u1, hu with
      | 0, hu =>
        simp only [Bool.and_eq_true, Bool.or_eq_true, beq_iff_eq] at hu
        obtain ⟨⟨⟨q1, q2⟩, q3⟩, q4⟩ := hu
        refine ⟨fun _ => ⟨q1, Nat.le_of_ble_eq_true q2, ?_⟩, Or.inl ⟨rfl, q3⟩, fun q => ns _ q (by decide)⟩
        rcases q4 with q4 | q4
        · subst q4; decide
        · have : v.toNat < 14 := Nat.le_of_ble_eq_true q4
          omega
      | 1, hu => exact ⟨fun q => absurd (show ysta 1 = true from rfl) (by rw [q]; decide), Or.inr (Or.inl rfl), fun q => ns _ q (by decide)⟩
      | 2, hu =>
        simp only [Bool.and_eq_true, beq_iff_eq] at hu
        obtain ⟨⟨⟨⟨q1, q2⟩, q3⟩, q4⟩, q5⟩ := hu
        have q5 : v.toNat < 14 := Nat.le_of_ble_eq_true q5
        exact ⟨fun _ => ⟨q1, Nat.le_of_ble_eq_true q2, by omega⟩, Or.inr (Or.inr (Or.inl ⟨rfl, q3, q4⟩)), fun q => ns _ q (by decide)⟩
      | 3, hu =>
        simp only [Bool.and_eq_true, Bool.or_eq_true, beq_iff_eq] at hu
        obtain ⟨⟨q1, q2⟩, q4⟩ := hu
        refine ⟨fun _ => ⟨q1, Nat.le_of_ble_eq_true q2, ?_⟩, Or.inr (Or.inr (Or.inr (Or.inl rfl))), fun q => ns _ q (by decide)⟩
        rcases q4 with q4 | q4
        · subst q4; decide
        · have : v.toNat < 14 := Nat.le_of_ble_eq_true q4
          omega
      | 4, hu =>
        simp only [Bool.and_eq_true, beq_iff_eq] at hu
        obtain ⟨⟨q1, q2⟩, q5⟩ := hu
        have q5 : v.toNat < 14 := Nat.le_of_ble_eq_true q5
        exact ⟨fun _ => ⟨q1, Nat.le_of_ble_eq_true q2, by omega⟩, Or.inr (Or.inr (Or.inr (Or.inr (Or.inl rfl)))), fun q => ns _ q (by decide)⟩
      | 5, hu =>
        simp only [Bool.and_eq_true, beq_iff_eq, bne_iff_ne, ne_eq] at hu
        obtain ⟨⟨⟨q1, q2⟩, q3⟩, q5⟩ := hu
        have q5 : v.toNat < 14 := Nat.le_of_ble_eq_true q5
        exact ⟨fun _ => ⟨q1, Nat.le_of_ble_eq_true q2, by omega⟩, Or.inr (Or.inr (Or.inr (Or.inr (Or.inr (Or.inl ⟨rfl, q3, q5⟩))))), fun q => ns _ q (by decide)⟩
      | 6, hu =>
        simp only [Bool.and_eq_true, beq_iff_eq] at hu
        exact ⟨fun q => absurd (show ysta 6 = true from rfl) (by rw [q]; decide), Or.inr (Or.inr (Or.inr (Or.inr (Or.inr (Or.inr (Or.inl rfl)))))), fun _ => hu.2⟩
      | 7, hu =>
        simp only [Bool.and_eq_true, beq_iff_eq] at hu
        obtain ⟨⟨⟨⟨⟨q1, q2⟩, q3⟩, q4⟩, q5⟩, q6⟩ := hu
        have q5 : v.toNat < 14 := Nat.le_of_ble_eq_true q5
        exact ⟨fun _ => ⟨q1, Nat.le_of_ble_eq_true q2, by omega⟩, Or.inr (Or.inr (Or.inr (Or.inr (Or.inr (Or.inr (Or.inr ⟨rfl, q3, q4⟩)))))), fun _ => q6⟩
      | _ + 8, hu => cases hu
    have hnest : u1 = 6 ∨ u1 = 7 → ∃ host, va_Nw (.methodLinkNest (M mi).1.cls u2 (M a).1 host) s := by
      intro q
      have h9 := hu2.2.2 q
      unfold yokn at h9
      cases hq : yNm[u3]? with
      | none => simp [hq] at h9
      | some z =>
        simp only [hq, Bool.and_eq_true, beq_iff_eq, decide_eq_true_eq] at h9
        obtain ⟨⟨o1, o2⟩, o3⟩ := h9
        have hN := hC.2.2.2.2.1.2.1 z (List.mem_of_getElem? hq)
        rw [o1, o2, o3] at hN
        exact ⟨_, hN⟩
    have hrecv : ysta u1 = false → ∃ x as', as = (2, x) :: as' ∧ xisO E σ x v.toNat = true ∧ v.toNat < 100 := by
      intro q
      obtain ⟨q1, q2, q3⟩ := hu2.1 q
      obtain ⟨x, as', e1, e2⟩ := hrec ⟨q1, q2⟩
      exact ⟨x, as', e1, e2, q3⟩
    have hcode : Cond.code (M a).1 (M a).2.1 (M a).2.2.1 (M a).2.2.2.1 ∈ WL := hw _ List.mem_cons_self
    have hww : ∀ w ∈ ywc (M mi).1.cls u1 u2 v.toNat (M a).1, w ∈ WL := fun w hw1 => hw w (List.mem_cons_of_mem _ hw1)
    have fin : ∀ (σ1 : xS) (w : xAV) (σ2 σ3 : xS), CT a as σ1 w σ2 → (yws b ac cA E F σ1 = yws b ac cA E F σ ∧ xnew E σ1 = xnew E σ ∧ yT E F σ1 ∧ xL σ1 = xL σ ∧ xX σ1 = xX σ) → xsl σ1 = xsl σ → xdp σ1 + (M a).2.2.2.2 + 1 ≤ xdp σ + (M mi).2.2.2.2 → (xnew E σ3 = xnew E σ2 ∧ xsl σ3 = xsl σ2) → (∀ (H1 : Heap) (locs1 : List Loc), yHp b ac D cA E F L Xs s σ2 H1 locs1 → yHp b ac D cA E F L Xs s σ3 H1 locs1) → yK b ac oq D cA E F L Xs p l e R s m args below meth c Q (M mi).2.2.1 k0 n0 (pc + 3) ls (cond (Nat.beq (c' % 2) 0) rest (w :: rest)) σ3 → yW b ac oq E p l e R s m args below meth c Q k0 n0 H locs σ pc rs st := by
      intro σ1 w σ2 σ3 hCT hs hs1 hdp hs3 hH3 hK3
      obtain ⟨hle, hmet⟩ := hMet a as σ1 w σ2 hCT vas
      have hn12 := xle_new (E := E) hle
      have hs12 : xsl σ1 ≤ xsl σ2 := hle.2.1
      have hL2 : xL σ2 = L ∧ xX σ2 = Xs := ⟨by rw [hle.2.2.2.1, hs.2.2.2.1]; exact hH.2.2.2.1.1, by rw [hle.2.2.2.2, hs.2.2.2.2]; exact hH.2.2.2.1.2⟩
      have e1 : xnew E σ - k0 + (xnew E σ2 - xnew E σ1) = xnew E σ3 - k0 := by have := hs.2.1; omega
      have e2 : xsl σ - n0 + (xsl σ2 - xsl σ1) = xsl σ3 - n0 := by omega
      refine ys_call (Mm := M a) (as := as) (rest := rest) (w := w) (σ1 := σ1) (σ2 := σ2) (nL := (M mi).2.2.1) hx hb hml (by rw [hL.1, hn]) hE h0 hts hWg hown hK hC hH hbs hoq hs hL2 hmet ⟨rfl, rfl, ?_, ?_⟩ hst hcat hcode hww hmh (by rw [hpar, hlen]) hrecv hu2.2.1 hnest hdg (fun q => h4 a rfl q rfl) ?_ ?_
      · show xdp σ1 + (M a).2.2.2.2 + 1 + 1 ≤ R.frames
        omega
      · show 8 + ((M a).2.2.1 + 11) + (xdp σ1 + (M a).2.2.2.2 + 1) * 60 ≤ R.locals
        omega
      · rw [e1, e2]; exact hK3.1
      · intro hvw H1 locs1 hH1
        rw [e1, e2]
        have hkk : k0 ≤ xnew E σ3 ∧ n0 ≤ xsl σ3 := by have := hs.2.1; omega
        by_cases hc2 : c' % 2 = 0
        · rw [if_pos hc2] at hret
          have hret := eq_of_beq hret
          rw [if_pos hret]
          have hb0 : Nat.beq (c' % 2) 0 = true := by rw [hc2]; rfl
          rw [hb0] at hK3
          exact hK3.2 hkk hn vrs H1 locs1 rs hL (hH3 _ _ hH1)
        · rw [if_neg hc2] at hret
          have hret : (M a).2.2.2.1 ≠ none := by simpa using hret
          rw [if_neg hret]
          have hb0 : Nat.beq (c' % 2) 0 = false := by
            cases hq : Nat.beq (c' % 2) 0 with
            | false => rfl
            | true => exact absurd (Nat.eq_of_beq_eq_true hq) hc2
          rw [hb0] at hK3
          exact hK3.2 hkk hn (vv_push (hvw hret).1 (hvw hret).2 vrs) H1 locs1 rs hL (hH3 _ _ hH1)
    by_cases hd2 : c' / 2 % 2 = 0
    · have hb0 : Nat.beq (c' / 2 % 2) 0 = true := by rw [hd2]; rfl
      rw [hb0] at h
      rw [if_pos hd2] at hrk
      have hrk : (M a).2.2.2.2 < (M mi).2.2.2.2 := Nat.le_of_ble_eq_true hrk
      obtain ⟨w, σ2, hCT, hkk⟩ := h
      exact fin σ w σ2 σ2 hCT ⟨rfl, rfl, hH.2.2.1, rfl, rfl⟩ rfl (by omega) ⟨rfl, rfl⟩ (fun _ _ q => q) hkk
    · have hb0 : Nat.beq (c' / 2 % 2) 0 = false := by
        cases hq : Nat.beq (c' / 2 % 2) 0 with
        | false => rfl
        | true => exact absurd (Nat.eq_of_beq_eq_true hq) hd2
      rw [hb0] at h
      rw [if_neg hd2] at hrk
      have hrk : (M a).2.2.2.2 ≤ (M mi).2.2.2.2 := Nat.le_of_ble_eq_true hrk
      replace h := xnc_P h
      obtain ⟨hd0, w, σ2, hCT, hkk⟩ := h
      have hd0 : xdp σ ≠ 0 := fun q => by rw [q] at hd0; cases hd0
      have hdd : xdp (xsetdp σ (xdp σ - 1)) = xdp σ - 1 := rfl
      exact fin (xsetdp σ (xdp σ - 1)) w σ2 (xsetdp σ2 (xdp σ)) hCT (y_dp hH.2.2.1) rfl (by rw [hdd]; omega) ⟨rfl, rfl⟩ (fun _ _ q => q) hkk
  · -- 33
    have hbk : b' = yrk (M mi).2.2.2.1 := by simpa [yok] using hok
    subst hbk
    cases st with
    | nil =>
      replace h := xco_P h
      obtain ⟨h9, h⟩ := h
      have h9 := Nat.eq_of_beq_eq_true h9
      have k := h pc H locs rs hdg (fun q => absurd h9 q) hH
      rw [if_pos h9] at k
      exact k
    | cons w st =>
      cases st with
      | cons w2 st => exact absurd h id
      | nil =>
        replace h := xco_P h
        obtain ⟨h9, h⟩ := h
        replace h := xck_P h
        obtain ⟨hna, h⟩ := h
        rw [Bool.and_eq_true] at h9
        have h8 := Nat.le_of_ble_eq_true h9.2
        have hw1 := hv w List.mem_cons_self
        have k := h pc H locs rs hdg (fun q => ⟨by omega, hw1.1, Nat.eq_of_beq_eq_true h9.1, hna⟩) hH
        rw [if_neg (by omega)] at k
        exact k
  · -- 34
    replace h := xpop_P h
    obtain ⟨x, st, rfl, h⟩ := h
    replace h := xnc_P h
    obtain ⟨hx0, h⟩ := h
    replace h := xco_P h
    obtain ⟨hcat, h⟩ := h
    have hok : nx = pc + 3 := by simpa [yok] using hok
    subst hok
    obtain ⟨vx, -, v3⟩ := vv_cons hv
    have vx : 0 ≤ x := vx
    have hxp : 0 < x := by
      by_cases hz : x = 0
      · subst hz; cases hx0
      · omega
    have e1 : ycv b ac oq (2, x) = .ref (yad b ac x.toNat) := by
      show va_rf (yrf b ac x) = _
      rw [yrf_pos hxp]; rfl
    have hs8 : ((st.map (ycv b ac oq)).map fun v => v.category).sum ≤ 8 := by rw [xcat_sum hoq]; exact Nat.le_of_ble_eq_true hcat
    have hs9 := lv_room (m := m) (pc := pc) (ls := rs) (rest := ((2, x) :: st).map (ycv b ac oq)) hs8
    refine W.objInit hx hb hown (hts _ (hw _ List.mem_cons_self)) (hts _ (hw _ (List.mem_cons_of_mem _ List.mem_cons_self))) (hts _ (hw _ (List.mem_cons_of_mem _ (List.mem_cons_of_mem _ List.mem_cons_self)))) (g := F0 m pc rs (((2, x) :: st).map (ycv b ac oq))) rfl (by show rs.size = _; rw [hL.1, hn, hml]) (a := yad b ac x.toNat) (rest := st.map (ycv b ac oq)) (by rw [← e1]; rfl) hdg (by omega) (by omega) (go h rfl rfl hn v3 hL H locs hH)
  · -- 35
    replace h := xpop_P h
    obtain ⟨n, st, rfl, h⟩ := h
    replace h := xpop_P h
    obtain ⟨dp, st, rfl, h⟩ := h
    replace h := xpop_P h
    obtain ⟨y, st, rfl, h⟩ := h
    replace h := xpop_P h
    obtain ⟨sp, st, rfl, h⟩ := h
    replace h := xpop_P h
    obtain ⟨x, st, rfl, h⟩ := h
    replace h := xco_P h
    obtain ⟨hcat, h⟩ := h
    replace h := xob_P h
    obtain ⟨nn, hn1, h⟩ := h
    replace h := xob_P h
    obtain ⟨ny, hn2, h⟩ := h
    replace h := xite_P h
    obtain ⟨hcd, h⟩ := h
    replace h := xco_P h
    obtain ⟨hyx, h⟩ := h
    simp only [yok, Bool.and_eq_true, beq_iff_eq, Bool.or_eq_true] at hok
    obtain ⟨hok, ha⟩ := hok
    subst hok
    obtain ⟨vn, -, v3⟩ := vv_cons hv
    obtain ⟨vd, -, v3⟩ := vv_cons v3
    obtain ⟨-, -, v3⟩ := vv_cons v3
    obtain ⟨vs, -, v3⟩ := vv_cons v3
    obtain ⟨-, -, v3⟩ := vv_cons v3
    rw [Bool.and_eq_true, Bool.not_eq_true'] at hyx
    have hy := Nat.le_of_ble_eq_true hyx.1
    have hne : x.toNat ≠ y.toNat := fun q => by rw [q, Nat.beq_refl] at hyx; cases hyx.2
    have hcn : ∀ j, xct E y.toNat j = none := by
      intro j
      by_cases hlt : E.1 ≤ y.toNat
      · exact hct _ _ hlt
      · have hty := xarr_P hn2
        have hty2 : xnth E.2.1 y.toNat = some (100 + a, ny) := by
          have h1 : Nat.beq y.toNat 1 = false := by
            cases hq : Nat.beq y.toNat 1 with
            | false => rfl
            | true =>
              have := Nat.eq_of_beq_eq_true hq
              have hx1 : 1 < xNC := by decide
              omega
          have h2 : Nat.ble E.1 y.toNat = false := by
            cases hq : Nat.ble E.1 y.toNat with
            | false => rfl
            | true => exact absurd (Nat.le_of_ble_eq_true hq) hlt
          unfold xty at hty
          rw [h1, h2] at hty
          exact hty
        exact hrow _ _ _ hy (by omega) hty2 (by rcases ha with e1 | e1 <;> subst e1 <;> simp) j
    have hs8 : ((st.map (ycv b ac oq)).map fun v => v.category).sum ≤ 8 := by rw [xcat_sum hoq]; exact Nat.le_of_ble_eq_true hcat
    have hnf : nativeFrameWords "java/lang/System" "arraycopy" 5 ≤ 41 := by decide
    exact ys_copy hx hb (by rw [hL.1, hn, hml]) hE h0 hown (hts _ (hw _ List.mem_cons_self)) (hts _ (hw _ (List.mem_cons_of_mem _ List.mem_cons_self))) (hts _ (hw _ (List.mem_cons_of_mem _ (List.mem_cons_of_mem _ List.mem_cons_self)))) (hts _ (hw _ (List.mem_cons_of_mem _ (List.mem_cons_of_mem _ (List.mem_cons_of_mem _ List.mem_cons_self))))) hK hC hH ha hn1 hn2 ⟨vs, vd, vn⟩ hcd hy hne hcn (by omega) (by omega) hdg (fun H1 locs1 hH1 => go h rfl rfl hn v3 hL H1 locs1 hH1)
  · -- 36
    cases hok
  · -- 37
    obtain ⟨u1, u2, u3⟩ := u
    simp only [yok, Bool.and_eq_true, beq_iff_eq] at hok
    obtain ⟨hok, hq0⟩ := hok
    subst hok
    cases hq : ySt[u3]? with
    | none => simp [hq] at hq0
    | some q =>
      simp only [hq, beq_iff_eq] at hq0
      have hw : ∀ w ∈ [Cond.fieldLink (M mi).1.cls u2 q.1 q.2.1 q.2.2.1], w ∈ WL := by
        have : yw F M (M mi).1.cls (37, a, b', c', v, pc + 3, sw) (u1, u2, u3) = [Cond.fieldLink (M mi).1.cls u2 q.1 q.2.1 q.2.2.1] := by simp only [yw, hq]
        rw [← this]; exact hw
      refine y_gets hx hb hown hC hH hq (hts _ (hw _ List.mem_cons_self)) hdg ?_
      rw [hq0]
      exact go h rfl rfl hn (vv_push (w := (3, 0)) True.intro (Nat.le_refl 3) hv) hL H locs hH
  · -- 38
    replace h := xpop_P h
    obtain ⟨y, st, rfl, h⟩ := h
    replace h := xpop_P h
    obtain ⟨x, st, rfl, h⟩ := h
    replace h := xco_P h
    obtain ⟨hcat, h⟩ := h
    simp only [yok, Bool.and_eq_true, beq_iff_eq] at hok
    obtain ⟨hok, hb2⟩ := hok
    subst hok
    have hb2 : b' < 2 := Nat.le_of_ble_eq_true hb2
    obtain ⟨vy, -, v2⟩ := vv_cons hv
    obtain ⟨vx, -, v3⟩ := vv_cons v2
    clear v2
    have hs8 : ((st.map (ycv b ac oq)).map fun v => v.category).sum ≤ 8 := by rw [xcat_sum hoq]; exact Nat.le_of_ble_eq_true hcat
    have hml' : c.maxLocals = rs.size := by rw [hL.1, hn, hml]
    have m1 := fun w hw1 => hts w (hw w hw1)
    match b', hb2, hdg, h, vx, vy, m1 with
    | 0, _, hdg, h, vx, vy, m1 =>
      have vx : yR x := vx
      have vy : yR y := vy
      match a, h, m1 with
      | 0, h, m1 =>
        have k := go h rfl rfl hn (vv_push (w := (0, xmm 0 x y)) (by show yR (if x < y then y else x); split <;> assumption) (Nat.zero_le 3) v3) hL H locs hH
        have k : W p l e R s m args below meth c H locs (xnew E σ - k0) (xsl σ - n0) Q (F0 m (pc + 3) rs (.int (Int32.ofInt (if x < y then y else x)) :: st.map (ycv b ac oq))) := k
        refine va_mmax hx hb hml' hown (m1 _ (by simp [yw, ymw, ymm])) (m1 _ (by simp [yw, ymw, ymm])) (m1 _ (by simp [yw, ymw, ymm])) (m1 _ (by simp [yw, ymw, ymm])) (by omega) (by omega) h.1.1 h.1.2 hdg ?_
        by_cases hlt : x < y
        · rw [if_pos ((y_lt vx vy).mpr hlt)]; rw [if_pos hlt] at k; exact k
        · rw [if_neg (fun q => hlt ((y_lt vx vy).mp q))]; rw [if_neg hlt] at k; exact k
      | a + 1, h, m1 =>
        have k := go h rfl rfl hn (vv_push (w := (0, xmm (a + 1) x y)) (by show yR (if y < x then y else x); split <;> assumption) (Nat.zero_le 3) v3) hL H locs hH
        have k : W p l e R s m args below meth c H locs (xnew E σ - k0) (xsl σ - n0) Q (F0 m (pc + 3) rs (.int (Int32.ofInt (if y < x then y else x)) :: st.map (ycv b ac oq))) := k
        refine va_mmin hx hb hml' hown (m1 _ (by simp [yw, ymw, ymm])) (m1 _ (by simp [yw, ymw, ymm])) (m1 _ (by simp [yw, ymw, ymm])) (m1 _ (by simp [yw, ymw, ymm])) (by omega) (by omega) h.1.1 h.1.2 hdg ?_
        by_cases hlt : y < x
        · rw [if_pos ((y_lt vy vx).mpr hlt)]; rw [if_pos hlt] at k; exact k
        · rw [if_neg (fun q => hlt ((y_lt vy vx).mp q))]; rw [if_neg hlt] at k; exact k
    | 1, _, hdg, h, vx, vy, m1 =>
      have vx : yRL x := vx
      have vy : yRL y := vy
      match a, h, m1 with
      | 0, h, m1 =>
        have k := go h rfl rfl hn (vv_push (w := (1, xmm 0 x y)) (by show yRL (if x < y then y else x); split <;> assumption) (Nat.le_of_ble_eq_true rfl) v3) hL H locs hH
        have k : W p l e R s m args below meth c H locs (xnew E σ - k0) (xsl σ - n0) Q (F0 m (pc + 3) rs (.long (Int64.ofInt (if x < y then y else x)) :: st.map (ycv b ac oq))) := k
        refine va_mmax_long hx hb hml' hown (m1 _ (by simp [yw, ymw, ymm])) (m1 _ (by simp [yw, ymw, ymm])) (m1 _ (by simp [yw, ymw, ymm])) (m1 _ (by simp [yw, ymw, ymm])) (by omega) (by omega) h.1.1 h.1.2 hdg ?_
        by_cases hlt : y < x
        · rw [if_pos ((y_ltL vy vx).mpr hlt)]; rw [if_neg (by omega)] at k; exact k
        · rw [if_neg (fun q => hlt ((y_ltL vy vx).mp q))]
          by_cases he : x < y
          · rw [if_pos he] at k; exact k
          · rw [if_neg he] at k
            have : x = y := by omega
            rw [this] at k; exact k
      | a + 1, h, m1 =>
        have k := go h rfl rfl hn (vv_push (w := (1, xmm (a + 1) x y)) (by show yRL (if y < x then y else x); split <;> assumption) (Nat.le_of_ble_eq_true rfl) v3) hL H locs hH
        have k : W p l e R s m args below meth c H locs (xnew E σ - k0) (xsl σ - n0) Q (F0 m (pc + 3) rs (.long (Int64.ofInt (if y < x then y else x)) :: st.map (ycv b ac oq))) := k
        refine va_mmin_long hx hb hml' hown (m1 _ (by simp [yw, ymw, ymm])) (m1 _ (by simp [yw, ymw, ymm])) (m1 _ (by simp [yw, ymw, ymm])) (m1 _ (by simp [yw, ymw, ymm])) (by omega) (by omega) h.1.1 h.1.2 hdg ?_
        by_cases hlt : y < x
        · rw [if_pos ((y_ltL vy vx).mpr hlt)]; rw [if_pos hlt] at k; exact k
        · rw [if_neg (fun q => hlt ((y_ltL vy vx).mp q))]; rw [if_neg hlt] at k; exact k
    | b' + 2, hb2, _, _, _, _, _ => omega
  · -- 39
    replace h := xpop_P h
    obtain ⟨x, st, rfl, h⟩ := h
    replace h := xco_P h
    obtain ⟨hcat, h⟩ := h
    simp only [yok, Bool.and_eq_true, beq_iff_eq] at hok
    obtain ⟨hok, hb2⟩ := hok
    subst hok
    have hb2 : b' < 2 := Nat.le_of_ble_eq_true hb2
    obtain ⟨vx, -, v3⟩ := vv_cons hv
    have hs8 : ((st.map (ycv b ac oq)).map fun v => v.category).sum ≤ 8 := by rw [xcat_sum hoq]; exact Nat.le_of_ble_eq_true hcat
    have hml' : c.maxLocals = rs.size := by rw [hL.1, hn, hml]
    have m1 := fun w hw1 => hts w (hw w hw1)
    match b', hb2, hdg, h, vx, m1 with
    | 0, _, hdg, h, vx, m1 =>
      have vx : yR x := vx
      have k := go h rfl rfl hn (vv_push (w := (0, xab 0 x)) (by show yR (if 0 ≤ x then x else xw (-x)); split <;> first | assumption | exact xw_R _) (Nat.zero_le 3) v3) hL H locs hH
      have k : W p l e R s m args below meth c H locs (xnew E σ - k0) (xsl σ - n0) Q (F0 m (pc + 3) rs (.int (Int32.ofInt (if 0 ≤ x then x else xw (-x))) :: st.map (ycv b ac oq))) := k
      refine va_mabs hx hb hml' hown (m1 _ (by simp [yw, ymw, yma])) (m1 _ (by simp [yw, ymw, yma])) (m1 _ (by simp [yw, ymw, yma])) (m1 _ (by simp [yw, ymw, yma])) (by omega) (by omega) h.1.1 h.1.2 hdg ?_
      have e0 : (0 : Int32) ≤ Int32.ofInt x ↔ 0 ≤ x := by rw [y_0]; exact y_le yR_0 vx
      by_cases hlt : 0 ≤ x
      · rw [if_pos (e0.mpr hlt)]; rw [if_pos hlt] at k; exact k
      · rw [if_neg (fun q => hlt (e0.mp q))]
        rw [if_neg hlt, ← y_neg] at k
        rw [Int32.zero_sub]
        exact k
    | 1, _, hdg, h, vx, m1 =>
      have vx : yRL x := vx
      have k := go h rfl rfl hn (vv_push (w := (1, xab 1 x)) (by show yRL (if 0 < x then x else xW (-x)); split <;> first | assumption | exact xW_R _) (Nat.le_of_ble_eq_true rfl) v3) hL H locs hH
      have k : W p l e R s m args below meth c H locs (xnew E σ - k0) (xsl σ - n0) Q (F0 m (pc + 3) rs (.long (Int64.ofInt (if 0 < x then x else xW (-x))) :: st.map (ycv b ac oq))) := k
      refine va_mabs_long hx hb hml' hown (m1 _ (by simp [yw, ymw, yma])) (m1 _ (by simp [yw, ymw, yma])) (m1 _ (by simp [yw, ymw, yma])) (m1 _ (by simp [yw, ymw, yma])) (by omega) (by omega) h.1.1 h.1.2 hdg ?_
      have e0 : (0 : Int64) < Int64.ofInt x ↔ 0 < x := by rw [show (0 : Int64) = Int64.ofInt 0 from rfl]; exact y_ltL yRL_0 vx
      by_cases hlt : 0 < x
      · rw [if_pos (e0.mpr hlt)]; rw [if_pos hlt] at k; exact k
      · rw [if_neg (fun q => hlt (e0.mp q))]
        rw [if_neg hlt, ← y_negL] at k
        exact k
    | b' + 2, hb2, _, _, _, _ => omega
  · -- 40
    replace h := xpop_P h
    obtain ⟨x, st, rfl, h⟩ := h
    replace h := xco_P h
    obtain ⟨hcat, h⟩ := h
    replace h := xob_P h
    obtain ⟨n, hn0, h⟩ := h
    replace h := xco_P h
    obtain ⟨hz, h⟩ := h
    simp only [yok, Bool.and_eq_true, beq_iff_eq, decide_eq_true_eq] at hok
    obtain ⟨⟨hok, ha⟩, hd2⟩ := hok
    subst hok ha
    obtain ⟨-, -, v3⟩ := vv_cons hv
    have h1 : xnew E (xal E σ (100 + 2) n) - k0 ≤ R.cells ∧ xsl (xal E σ (100 + 2) n) - n0 ≤ R.slots := h.1
    rw [xnew_al, xsl_al] at h1
    have hs8 : ((st.map (ycv b ac oq)).map fun v => v.category).sum ≤ 8 := by rw [xcat_sum hoq]; exact Nat.le_of_ble_eq_true hcat
    have m1 := fun w hw1 => hts w (hw w hw1)
    refine ys_clone hx hb (by rw [hL.1, hn, hml]) hE hct hown (m1 _ (by simp [yw])) (m1 _ (by simp [yw])) (m1 _ (by simp [yw])) (m1 _ (by simp [yw])) (m1 _ (by simp [yw])) (cast_moved (Vm.Alike.refl _) hC.2.2.2.2.1.2.2.2.2.2.2) (m1 _ (by simp [yw])) hK hH hn0 (Nat.le_of_ble_eq_true hz) (by omega) (by omega) hk h1 hdg hd2 (fun H1 hH1 => ?_)
    have e1 : xnew E (xcopy E (xal E σ (100 + 2) n) x.toNat 0 (xnew E σ) 0 n) = xnew E σ + 1 := xnew_al
    have e2 : xsl (xcopy E (xal E σ (100 + 2) n) x.toNat 0 (xnew E σ) 0 n) = xsl σ + n := xsl_al (E := E) (σ := σ)
    have k := h.2 ⟨by rw [e1]; omega, by rw [e2]; omega⟩ hn (vv_push (w := (2, ((xnew E σ : Nat) : Int))) (Int.natCast_nonneg _) (Nat.le_succ 2) v3) H1 locs rs hL hH1
    rw [e1, e2] at k
    rw [show xnew E σ - k0 + 1 = xnew E σ + 1 - k0 by omega, show xsl σ - n0 + n = xsl σ + n - n0 by omega]
    have e3 : ycv b ac oq (2, ((xnew E σ : Nat) : Int)) = .ref H.size := by
      show va_rf (yrf b ac _) = _
      rw [yad_new hE hH]; rfl
    rw [List.map_cons, e3] at k
    exact k
  · exact absurd h id
end YMAIN

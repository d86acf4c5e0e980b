/-! soundness: what the interpreter comes to, the machine comes to -/
theorem xlay_cons (v : xAV) (as : List xAV) : xlay (v :: as) = cond (Nat.beq v.1 1) (v :: (8, 0) :: xlay as) (v :: xlay as) := rfl
theorem lay_get {b : Nat} {ac : Nat → Nat} {oq : Value} (ho : oq.category = 1) : ∀ (as : List xAV), (lg_sl (as.map (ycv b ac oq))).length = (xlay as).length ∧ ∀ (i : Nat) (w : xAV), (xlay as)[i]? = some w → w.1 ≤ 3 → (lg_sl (as.map (ycv b ac oq)))[i]? = some (.val (ycv b ac oq w)) ∧ w ∈ as
  | [] => ⟨rfl, fun i w h _ => by cases h⟩
  | v :: as => by
    obtain ⟨h1, h2⟩ := lay_get (b := b) (ac := ac) ho as
    have e0 : lg_sl ((v :: as).map (ycv b ac oq)) = (if (ycv b ac oq v).category = 2 then [.val (ycv b ac oq v), .second] else [.val (ycv b ac oq v)]) ++ lg_sl (as.map (ycv b ac oq)) := by
      unfold lg_sl
      rw [List.map_cons, List.flatMap_cons]
    rw [e0, xlay_cons]
    cases hb : Nat.beq v.1 1 with
    | true =>
      rw [if_pos ((ycv_cat ho).mpr (Nat.eq_of_beq_eq_true hb))]
      refine ⟨by simp [h1], fun i w hi hw => ?_⟩
      match i with
      | 0 =>
        have hi : some v = some w := hi
        cases hi
        exact ⟨rfl, List.mem_cons_self⟩
      | 1 =>
        have hi : some ((8, 0) : xAV) = some w := hi
        cases hi
        exact absurd hw (by decide)
      | i + 2 =>
        have hi : (xlay as)[i]? = some w := hi
        obtain ⟨g1, g2⟩ := h2 i w hi hw
        exact ⟨by simpa using g1, List.mem_cons_of_mem _ g2⟩
    | false =>
      rw [if_neg (fun q => by have := (ycv_cat ho).mp q; rw [this] at hb; cases hb)]
      refine ⟨by simp [h1], fun i w hi hw => ?_⟩
      match i with
      | 0 =>
        have hi : some v = some w := hi
        cases hi
        exact ⟨rfl, List.mem_cons_self⟩
      | i + 1 =>
        have hi : (xlay as)[i]? = some w := hi
        obtain ⟨g1, g2⟩ := h2 i w hi hw
        exact ⟨by simpa using g1, List.mem_cons_of_mem _ g2⟩
theorem pad_get : ∀ (n : Nat) (l ls0 : List xAV), xpad n l = some ls0 → ls0.length = n ∧ l.length ≤ n ∧ ∀ (i : Nat) (w : xAV), xnth ls0 i = some w → w.1 ≤ 3 → l[i]? = some w
  | 0, [], ls0, h => by cases h; exact ⟨rfl, Nat.le_refl _, fun i w h => by cases h⟩
  | 0, _ :: _, ls0, h => by cases h
  | n + 1, [], ls0, h => by
    have h : xob (xpad n []) none (fun l => some ((9, 0) :: l)) = some ls0 := h
    cases hp : xpad n [] with
    | none => rw [hp] at h; cases h
    | some l =>
      rw [hp] at h
      cases h
      obtain ⟨g1, g2, g3⟩ := pad_get n [] l hp
      refine ⟨by simp [g1], Nat.zero_le _, fun i w hi hw => ?_⟩
      match i with
      | 0 =>
        have hi : some ((9, 0) : xAV) = some w := hi
        cases hi
        exact absurd hw (by decide)
      | i + 1 => exact absurd (g3 i w hi hw) (by simp)
  | n + 1, v :: l, ls0, h => by
    have h : xob (xpad n l) none (fun l => some (v :: l)) = some ls0 := h
    cases hp : xpad n l with
    | none => rw [hp] at h; cases h
    | some l1 =>
      rw [hp] at h
      cases h
      obtain ⟨g1, g2, g3⟩ := pad_get n l l1 hp
      refine ⟨by simp [g1], Nat.succ_le_succ g2, fun i w hi hw => ?_⟩
      match i with
      | 0 =>
        have hi : some v = some w := hi
        cases hi
        rfl
      | i + 1 =>
        have := g3 i w hi hw
        simpa using this
theorem y_entry {b : Nat} {ac : Nat → Nat} {oq : Value} {n : Nat} {as ls0 : List xAV} (ho : oq.category = 1) (hv : ∀ w ∈ as, yvv w ∧ w.1 ≤ 3) (h : xpad n (xlay as) = some ls0) : ls0.length = n ∧ yL b ac oq ls0 ((lg_sl (as.map (ycv b ac oq)) ++ List.replicate (n - (lg_sl (as.map (ycv b ac oq))).length) Slot.unset).toArray) := by
  obtain ⟨h1, h2, h3⟩ := pad_get _ _ _ h
  obtain ⟨g1, g2⟩ := lay_get (b := b) (ac := ac) ho as
  have hl := lv_entry (as.map (ycv b ac oq)) (n := n) (by rw [g1]; exact h2)
  refine ⟨h1, by rw [hl.1, h1], hl.2.1, fun i w hi hw => ?_⟩
  obtain ⟨k1, k2⟩ := g2 i w (h3 i w hi hw) hw
  refine ⟨?_, (hv w k2).1⟩
  have hlt : i < (lg_sl (as.map (ycv b ac oq))).length := (List.getElem?_eq_some_iff.mp k1).1
  rw [List.getElem?_toArray, List.getElem?_append_left hlt]
  exact k1
/-- what is checked of the code, of the methods -/
def yCk (F : List (List Nat)) (M : Nat → yMt) (P : xP) (WL : List Cond) : Prop := ∀ mi pc r, xcode P mi pc = some r → r.1 < 41 → ∃ u, decode (M mi).2.1 pc = .ok (yi pc r u) ∧ yok F M mi pc r u = true ∧ (∀ w ∈ yw F M (M mi).1.cls r u, w ∈ WL) ∧ (r.1 = 32 → u.1 = 4 → ∃ b0 m0 r0, Cond.code ⟨"java/lang/AbstractStringBuilder", (M r.2.1).1.name, (M r.2.1).1.desc⟩ b0 m0 r0 ∈ WL)
def yCm (M : Nat → yMt) (P : xP) : Prop := ∀ mi m, xnth P mi = some m → plainName (M mi).1.cls = true ∧ m.2 = (M mi).2.2.1 ∧ yrk (M mi).2.2.2.1 ≠ 10
theorem yrf_two {b : Nat} {ac : Nat → Nat} {oq : Value} (x : Int) : ycv b ac oq (2, x) = .null ∨ ∃ a, ycv b ac oq (2, x) = .ref a := by
  have e : ycv b ac oq (2, x) = va_rf (yrf b ac x) := rfl
  rw [e]
  cases yrf b ac x with
  | none => exact Or.inl rfl
  | some y => exact Or.inr ⟨y, rfl⟩
section YSOUND
variable {l : Launch} {b : Nat} {ac : Nat → Nat} {oq : Value} {D : va_G} {cA : Nat → ClassId} {E : xE} {F : List (List Nat)} {L : Nat} {Xs : Nat → Int} {WL : List Cond} {tyF : Nat → Nat → FieldType} {M : Nat → yMt} {P : xP}
/-- a frame's statement, for so much fuel -/
def yFr (l : Launch) (b : Nat) (ac : Nat → Nat) (oq : Value) (D : va_G) (cA : Nat → ClassId) (E : xE) (F : List (List Nat)) (L : Nat) (Xs : Nat → Int) (WL : List Cond) (M : Nat → yMt) (P : xP) (n : Nat) : Prop :=
  ∀ (mi pc : Nat) (ls st : List xAV) (σ : xS) (v : xAV) (σ' : xS), xrun E F P n mi pc ls st σ = some (v, σ') →
    ∀ (p : Program) (e : Env) (R : Room) (s : State) (m : MethodId) (args : Array Value) (below : List Frame) (meth : Method) (c : Code) (Q : State → Prop) (k0 n0 : Nat) (H : Heap) (locs : List Loc) (rs : Array Slot),
      yCx p s m args meth c b ac oq D cA E L Xs WL (M mi) → (xdp σ + (M mi).2.2.2.2 + 1 ≤ R.frames ∧ (xdp σ + (M mi).2.2.2.2 + 1) * 60 ≤ R.locals) → (xnew E σ' - k0 ≤ R.cells ∧ xsl σ' - n0 ≤ R.slots) → (k0 ≤ xnew E σ ∧ n0 ≤ xsl σ) → ls.length = (M mi).2.2.1 → (∀ w ∈ st, yvv w ∧ w.1 ≤ 3) → yL b ac oq ls rs → yHp b ac D cA E F L Xs s σ H locs →
      yRET b ac oq D cA E F L Xs p l e R s m args below meth c Q k0 n0 (M mi) v σ' → yW b ac oq E p l e R s m args below meth c Q k0 n0 H locs σ pc rs st
theorem y_ret {p : Program} {e : Env} {R : Room} {s : State} {m : MethodId} {args : Array Value} {below : List Frame} {meth : Method} {c : Code} {k0 n0 mc ms : Nat} {Mm : yMt} {v : xAV} {σ' : xS} (hx : p.tables.exec = Jvm.exec) (hb : c.code = Mm.2.1) (hr : meth.sig.returnType = Mm.2.2.2.1) (hlk : meth.locks = false) (h10 : yrk Mm.2.2.2.1 ≠ 10) (hmc : mc = xnew E σ' - k0 ∧ ms = xsl σ' - n0) : yRET b ac oq D cA E F L Xs p l e R s m args below meth c (MQ below (yQc b ac oq D cA E F Mm.2.2.2.1 v σ') args s mc ms (fun q => b ≤ q)) k0 n0 Mm v σ' := by
  intro pc' H locs rs hdg hvv hH
  obtain ⟨rfl, rfl⟩ := hmc
  have hq : ∀ (t : State), t.heap = H → s.WarmedH t.vm → (Mm.2.2.2.1 ≠ none → yvv v ∧ v.1 ≤ 3) → ∀ o, o = .returned (if Mm.2.2.2.1 = none then none else some (ycv b ac oq v)) → yQc b ac oq D cA E F Mm.2.2.2.1 v σ' args s o t := fun t ht _ hv1 o ho =>
    ⟨ho, hv1, by rw [ht]; exact hH.1, by rw [ht]; exact hH.2.1, hH.2.2.1, by rw [ht]; exact hH.2.2.2.2.1, fun q h1 h2 => by rw [ht]; exact hH.2.2.2.2.2.1 q h1 h2⟩
  have hfl : ∀ q ∈ locs, b ≤ q.base := hH.2.2.2.2.2.2
  obtain ⟨y, cc, mL, rt, rk⟩ := Mm
  simp only at *
  obtain ⟨t, x⟩ := v
  have h3 : ∀ k, k < 9 → xtag k ≤ 3 := fun k _ => Nat.le_trans (xtag_le k) (Nat.le_succ 2)
  match rt, hr, h10, hdg, hvv, hq with
  | none, hr, _, hdg, hvv, hq => exact W.vret hx hb hr (fun u hu hw => hq u hu hw (fun q => absurd rfl q) _ rfl) hfl hdg hlk
  | some .int, hr, _, hdg, hvv, hq =>
    obtain ⟨h8, hv1, ht, hn⟩ := hvv (by decide)
    have ht : t = 0 := ht
    subst ht
    exact W.iret hx hb hr (fun u hu hw => hq u hu hw (fun _ => ⟨hv1, Nat.zero_le 3⟩) _ rfl) hfl hdg hlk
  | some .long, hr, _, hdg, hvv, hq =>
    obtain ⟨h8, hv1, ht, hn⟩ := hvv (by decide)
    have ht : t = 1 := ht
    subst ht
    exact W.lret hx hb hr (fun u hu hw => hq u hu hw (fun _ => ⟨hv1, Nat.le_of_ble_eq_true rfl⟩) _ rfl) hfl hdg hlk
  | some .byte, hr, _, hdg, hvv, hq =>
    obtain ⟨h8, hv1, ht, hn⟩ := hvv (by decide)
    have ht : t = 0 := ht
    subst ht
    have hnw := (y_nar (b := b) (ac := ac) (ty := .byte) (t := 2) (w := x) rfl (by decide) hn hv1).1
    exact W.zret hx hb hr hnw (fun u hu hw => hq u hu hw (fun _ => ⟨hv1, Nat.zero_le 3⟩) _ rfl) hfl hdg hlk
  | some .char, hr, _, hdg, hvv, hq =>
    obtain ⟨h8, hv1, ht, hn⟩ := hvv (by decide)
    have ht : t = 0 := ht
    subst ht
    have hnw := (y_nar (b := b) (ac := ac) (ty := .char) (t := 3) (w := x) rfl (by decide) hn hv1).1
    exact W.zret hx hb hr hnw (fun u hu hw => hq u hu hw (fun _ => ⟨hv1, Nat.zero_le 3⟩) _ rfl) hfl hdg hlk
  | some .boolean, hr, _, hdg, hvv, hq =>
    obtain ⟨h8, hv1, ht, hn⟩ := hvv (by decide)
    have ht : t = 0 := ht
    subst ht
    have hnw := (y_nar (b := b) (ac := ac) (ty := .boolean) (t := 4) (w := x) rfl (by decide) hn hv1).1
    exact W.zret hx hb hr hnw (fun u hu hw => hq u hu hw (fun _ => ⟨hv1, Nat.zero_le 3⟩) _ rfl) hfl hdg hlk
  | some (.object C), hr, _, hdg, hvv, hq =>
    obtain ⟨h8, hv1, ht, hn⟩ := hvv (show 5 ≠ 9 by decide)
    have ht : t = 2 := ht
    subst ht
    refine W.aret hx hb hr (Or.inl ⟨C, rfl⟩) ?_ (fun u hu hw => hq u hu hw (fun _ => ⟨hv1, Nat.le_of_ble_eq_true rfl⟩) _ rfl) hfl hdg hlk
    exact yrf_two x
  | some (.array C), hr, _, hdg, hvv, hq =>
    obtain ⟨h8, hv1, ht, hn⟩ := hvv (show 5 ≠ 9 by decide)
    have ht : t = 2 := ht
    subst ht
    refine W.aret hx hb hr (Or.inr ⟨C, rfl⟩) ?_ (fun u hu hw => hq u hu hw (fun _ => ⟨hv1, Nat.le_of_ble_eq_true rfl⟩) _ rfl) hfl hdg hlk
    exact yrf_two x
  | some .short, _, h10, _, _, _ => exact absurd rfl h10
  | some .float, _, h10, _, _, _ => exact absurd rfl h10
  | some .double, _, h10, _, _, _ => exact absurd rfl h10
theorem y_met (hTb : yTb E F WL tyF) (hCm : yCm M P) {n : Nat} (hF : yFr l b ac oq D cA E F L Xs WL M P n) {mj : Nat} {as ls0 : List xAV} {σ1 σ2 : xS} {v : xAV} (he : xent P mj as = some ls0) (hr : xrun E F P n mj 0 ls0 [] σ1 = some (v, σ2)) (hv : ∀ w ∈ as, yvv w ∧ w.1 ≤ 3) :
    Met l (M mj).1 (.code (M mj).1 (M mj).2.1 (M mj).2.2.1 (M mj).2.2.2.1 :: WL) { frames := xdp σ1 + (M mj).2.2.2.2 + 1, cells := xnew E σ2 - xnew E σ1, slots := xsl σ2 - xsl σ1, locals := (xdp σ1 + (M mj).2.2.2.2 + 1) * 60 } (yPc b ac oq D cA E F L Xs as σ1) (yQc b ac oq D cA E F (M mj).2.2.2.1 v σ2) (xnew E σ2 - xnew E σ1) (xsl σ2 - xsl σ1) (fun q => b ≤ q) := by
  obtain ⟨mP, hmP, hpad⟩ : ∃ mP, xnth P mj = some mP ∧ xpad mP.2 (xlay as) = some ls0 := by
    unfold xent at he
    cases hm : xnth P mj with
    | none => rw [hm] at he; cases he
    | some mP => rw [hm] at he; exact ⟨mP, rfl, he⟩
  obtain ⟨hpl, hml, h10⟩ := hCm _ _ hmP
  rw [hml] at hpad
  refine Met.ofW (cc := (M mj).2.1) (maxL := (M mj).2.2.1) (ret := (M mj).2.2.2.1) hpl rfl ?_
  intro p e s m args below meth c s₁ B hmL hP
  obtain ⟨ha, ⟨q1, q2, q3, q4, q5, q6, q7⟩, hbs⟩ := hP
  subst ha
  have hts := atoms_spec B.pre
  have hown : s.vm.findClass (M mj).1.cls = some m.cls := findClass_of_methodNamed B.named
  have hoq := yoq_cat (yC_oq q7)
  obtain ⟨hl, hL⟩ := y_entry (b := b) (ac := ac) hoq hv hpad
  rw [lg_entry_eq]
  have hc0 : xnew E σ1 - xnew E σ1 = 0 := Nat.sub_self _
  have hs0 : xsl σ1 - xsl σ1 = 0 := Nat.sub_self _
  have key := hF mj 0 ls0 [] σ1 v σ2 hr p e (headSpec (.code (M mj).1 (M mj).2.1 (M mj).2.2.1 (M mj).2.2.2.1 :: WL) { frames := xdp σ1 + (M mj).2.2.2.2 + 1, cells := xnew E σ2 - xnew E σ1, slots := xsl σ2 - xsl σ1, locals := (xdp σ1 + (M mj).2.2.2.2 + 1) * 60 }).room s m (as.map (ycv b ac oq)).toArray below meth c (MQ below (yQc b ac oq D cA E F (M mj).2.2.2.1 v σ2) (as.map (ycv b ac oq)).toArray s (xnew E σ2 - xnew E σ1) (xsl σ2 - xsl σ1) (fun q => b ≤ q)) (xnew E σ1) (xsl σ1) s.heap [] _
    ⟨B.exec, B.bytes, hmL, fun w hw => hts w (List.mem_cons_of_mem _ hw), hown, fun q => by rw [(name_of_methodNamed B.named B.method).1]; exact q, q6, q7, hbs⟩ ⟨Nat.le_refl _, Nat.le_refl _⟩ ⟨Nat.le_refl _, Nat.le_refl _⟩ ⟨Nat.le_refl _, Nat.le_refl _⟩ hl (fun w hw => absurd hw List.not_mem_nil) hL ⟨q1, q2, q3, ⟨q4, q5⟩, Nat.le_refl _, fun _ _ _ => rfl, fun _ h => absurd h List.not_mem_nil⟩ (y_ret B.exec B.bytes B.returns B.notSynchronized h10 ⟨rfl, rfl⟩)
  unfold yW at key
  rw [hc0, hs0] at key
  exact key
theorem y_frames (hTb : yTb E F WL tyF) (hCk : yCk F M P WL) (hCm : yCm M P) : ∀ n, yFr l b ac oq D cA E F L Xs WL M P n := by
  intro n
  induction n with
  | zero => intro mi pc ls st σ v σ' h; cases h
  | succ n ih =>
    intro mi pc ls st σ v σ' h p e R s m args below meth c Q k0 n0 H locs rs hCx hF hro hk hn hv hL hH hR
    have hle := xrun_le _ _ _ _ _ _ _ _ h
    unfold xrun at h
    cases hc : xcode P mi pc with
    | none => rw [hc] at h; cases h
    | some r =>
      rw [hc] at h
      have h : xstep E F r ls st σ (xrun E F P n mi) (fun v σ => some (v, σ)) (fun mj as σ kk => xob (xent P mj as) none fun ls0 => (xrun E F P n mj 0 ls0 [] σ).bind fun q => kk q.1 q.2) none = some (v, σ') := h
      have h38 : r.1 < 41 := by
        by_cases h38 : r.1 < 41
        · exact h38
        · exfalso
          obtain ⟨o, a, b, c, v, nx, sw⟩ := r
          unfold xstep at h
          dsimp only at h h38
          split at h <;> first | exact absurd h38 (by decide) | cases h
      obtain ⟨u, hdg, hok, hw, h4⟩ := hCk mi pc r hc h38
      have hP : xstep (X := Prop) E F r ls st σ (yK b ac oq D cA E F L Xs p l e R s m args below meth c Q (M mi).2.2.1 k0 n0) (yRET b ac oq D cA E F L Xs p l e R s m args below meth c Q k0 n0 (M mi)) (fun mj as σ1 kk => ∃ v σ2, (∃ ls0, xent P mj as = some ls0 ∧ xrun E F P n mj 0 ls0 [] σ1 = some (v, σ2)) ∧ kk v σ2) False := by
        refine xstep_rel (Rl := fun (A : Option (xAV × xS)) (B : Prop) => A = some (v, σ') → B) (k := xrun E F P n mi) (ret := fun v σ => some (v, σ)) (call := fun mj as σ kk => xob (xent P mj as) none fun ls0 => (xrun E F P n mj 0 ls0 [] σ).bind fun q => kk q.1 q.2) (bad := none) ?_ ?_ ?_ (fun h => by cases h) h
        · intro pc1 ls1 st1 σ1 hs1 hr1
          have hs2 := xrun_le _ _ _ _ _ _ _ _ hr1
          have hn2 := xle_new (E := E) hs2
          have hl2 : xsl σ1 ≤ xsl σ' := hs2.2.1
          refine ⟨⟨by omega, by omega⟩, fun hk1 hn1 hv1 H1 locs1 rs1 hL1 hH1 => ?_⟩
          exact ih mi pc1 ls1 st1 σ1 v σ' hr1 p e R s m args below meth c Q k0 n0 H1 locs1 rs1 hCx (by rw [hs1.2.2.1]; exact hF) hro hk1 hn1 hv1 hL1 hH1 hR
        · intro w σ1 _ hr1
          cases hr1
          exact hR
        · intro mj as σ1 kk kk' hkk hr1
          cases he : xent P mj as with
          | none => rw [he] at hr1; cases hr1
          | some ls0 =>
            rw [he] at hr1
            have hr1 : ((xrun E F P n mj 0 ls0 [] σ1).bind fun q => kk q.1 q.2) = some (v, σ') := hr1
            cases hq : xrun E F P n mj 0 ls0 [] σ1 with
            | none => rw [hq] at hr1; cases hr1
            | some q =>
              rw [hq] at hr1
              exact ⟨q.1, q.2, ⟨ls0, rfl, hq⟩, hkk q.1 q.2 (xrun_le _ _ _ _ _ _ _ _ hq) hr1⟩
      refine y_step (CT := fun mj as σ1 v σ2 => ∃ ls0, xent P mj as = some ls0 ∧ xrun E F P n mj 0 ls0 [] σ1 = some (v, σ2)) hTb hCx hF hdg hok hw ?_ (fun mj q1 q2 q3 => by rw [← q3]; exact h4 q1 q2) hP hk hn hv hL hH
      rintro mj as σ1 w σ2 ⟨ls0, he, hr1⟩ hvas
      exact ⟨xrun_le _ _ _ _ _ _ _ _ hr1, y_met hTb hCm ih he hr1 hvas⟩
end YSOUND

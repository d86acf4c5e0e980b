/-! an invocation -/
section YINV
variable {p : Program} {l : Launch} {e : Env} {R : Room} {s : State} {m : MethodId} {args : Array Value} {below : List Frame} {meth : Method} {c : Code} {Q : State → Prop}
variable {b : Nat} {ac : Nat → Nat} {oq : Value} {D : va_G} {cA : Nat → ClassId} {E : xE} {F : List (List Nat)} {L : Nat} {Xs : Nat → Int}
variable {k0 n0 pc nx : Nat} {ls st : List xAV} {σ : xS} {cc : ByteArray} {H : Heap} {locs : List Loc} {rs : Array Slot}
theorem y_mh {s : String} (h : yMH s = true) : s ≠ "java/lang/invoke/MethodHandle" ∧ s ≠ "java/lang/invoke/VarHandle" := by
  unfold yMH at h
  simpa using h
theorem ys_call {own : String} {WL : List Cond} {Mm : yMt} {u idx v nL mc ms : Nat} {as rest : List xAV} {w : xAV} {σ1 σ2 : xS} {rm : Room} (hx : p.tables.exec = Jvm.exec) (hb : c.code = cc) (hml : c.maxLocals = nL) (hsz : rs.size = nL) (hE : xNC ≤ E.1) (h0 : xnth E.2.1 0 = some (999, 0)) (hts : ∀ w ∈ WL, w.before args s = true) (hWg : ∀ w ∈ WL, goodWord w = true) (hown : s.vm.findClass own = some m.cls) (hK : va_K D vwCl (yTys cA) s) (hC : yC b ac oq E L Xs s s.heap) (hH : yHp b ac D cA E F L Xs s σ H locs) (hbs : b ≤ s.heap.size) (hoq : oq.category = 1)
    (hs : yws b ac cA E F σ1 = yws b ac cA E F σ ∧ xnew E σ1 = xnew E σ ∧ yT E F σ1 ∧ xL σ1 = xL σ ∧ xX σ1 = xX σ) (hL2 : xL σ2 = L ∧ xX σ2 = Xs)
    (hM : Met l Mm.1 (.code Mm.1 Mm.2.1 Mm.2.2.1 Mm.2.2.2.1 :: WL) rm (yPc b ac oq D cA E F L Xs as σ1) (yQc b ac oq D cA E F Mm.2.2.2.1 w σ2) mc ms (fun q => b ≤ q)) (hrm : rm.cells = mc ∧ rm.slots = ms ∧ rm.frames + 1 ≤ R.frames ∧ 8 + (Mm.2.2.1 + 11) + rm.locals ≤ R.locals)
    (hst : st = as.reverse ++ rest) (hcat : xcat rest ≤ 8) (hcode : Cond.code Mm.1 Mm.2.1 Mm.2.2.1 Mm.2.2.2.1 ∈ WL) (hw : ∀ w ∈ ywc own u idx v Mm.1, w ∈ WL) (hmh : yMH Mm.1.cls = true) (hpar : (parseMethodDescriptor Mm.1.desc).map (fun d => d.parameters.length) = some (if ysta u = true then as.length else as.length - 1))
    (hrecv : ysta u = false → ∃ x as', as = (2, x) :: as' ∧ xisO E σ x v = true ∧ v < 100) (hu : (u = 0 ∧ yCn v = Mm.1.cls) ∨ u = 1 ∨ (u = 2 ∧ Mm.1.name = "<init>" ∧ Mm.2.2.2.1 = none) ∨ u = 3 ∨ u = 4 ∨ (u = 5 ∧ Mm.1.name ≠ "<init>" ∧ v < 14) ∨ u = 6 ∨ (u = 7 ∧ Mm.1.name = "<init>" ∧ Mm.2.2.2.1 = none)) (hnest : u = 6 ∨ u = 7 → ∃ host, va_Nw (.methodLinkNest own idx Mm.1 host) s) (hdg : decode cc pc = .ok (yinv u idx))
    (h4 : u = 4 → ∃ b0 m0 r0, Cond.code ⟨"java/lang/AbstractStringBuilder", Mm.1.name, Mm.1.desc⟩ b0 m0 r0 ∈ WL)
    (hroom : xnew E σ - k0 + mc ≤ R.cells ∧ xsl σ - n0 + ms ≤ R.slots)
    (kk : (Mm.2.2.2.1 ≠ none → yvv w ∧ w.1 ≤ 3) → ∀ (H1 : Heap) (locs1 : List Loc), yHp b ac D cA E F L Xs s σ2 H1 locs1 → W p l e R s m args below meth c H1 locs1 (xnew E σ - k0 + mc) (xsl σ - n0 + ms) Q (F0 m (pc + 3) rs ((if Mm.2.2.2.1 = none then [] else [ycv b ac oq w]) ++ rest.map (ycv b ac oq)))) : yW b ac oq E p l e R s m args below meth c Q k0 n0 H locs σ pc rs st := by
  have hgood : ∀ ws : List Cond, (∀ w ∈ ws, w ∈ WL) → GoodIn WL (ws ++ (.code Mm.1 Mm.2.1 Mm.2.2.1 Mm.2.2.2.1 :: WL)) := by
    intro ws h w hw
    have hm : w ∈ WL := by
      rcases List.mem_append.mp hw with h1 | h1
      · exact h w h1
      · rcases List.mem_cons.mp h1 with h2 | h2
        · rw [h2]; exact hcode
        · exact h2
    exact ⟨hm, good_of_word (hWg w hm)⟩
  have hgood0 : GoodIn WL (.code Mm.1 Mm.2.1 Mm.2.2.1 Mm.2.2.2.1 :: WL) := hgood [] (fun _ h => absurd h List.not_mem_nil)
  have hmh := y_mh hmh
  have fix : CallFix p m c cc nL s args WL own := ⟨hx, hb, hml, hown, hts⟩
  have hbH : b ≤ H.size := Nat.le_trans hbs hH.2.2.2.2.1
  have hWs : ((rest.map (ycv b ac oq)).map fun v => v.category).sum ≤ 8 := by rw [xcat_sum hoq]; exact hcat
  have pre : PreS s H (yPc b ac oq D cA E F L Xs as σ1) (as.map (ycv b ac oq)) := ⟨yPc_blind, fun U hU hW => y_pre hK hC hH hbs hU hW hs⟩
  refine y_after (rest := rest.map (ycv b ac oq)) (a := (as.map (ycv b ac oq)).toArray) (rt := Mm.2.2.2.1) (v := w) (mc := mc) (ms := ms) hH hL2 ?_ hbH kk
  subst hst
  have hstk : (as.reverse ++ rest).map (ycv b ac oq) = (as.map (ycv b ac oq)).reverse ++ rest.map (ycv b ac oq) := by simp
  by_cases h1 : u = 1
  · subst h1
    rw [if_pos (show ysta 1 = true from rfl)] at hpar
    have cw := va_cwS (args := args) (s := s) (R := R) (rm := rm) (index := idx) (own := own) (bytes := Mm.2.1) (maxL := Mm.2.2.1) (ret := Mm.2.2.2.1) (ws' := WL) as.length hts (hgood _ hw) rfl hrm.1 hrm.2.1 ⟨hmh.1, hmh.2, hpar⟩ hrm.2.2
    exact va_runS (As := as.map (ycv b ac oq)) (rest := rest.map (ycv b ac oq)) fix hM cw pre rfl (by simp) hsz hstk (lv_room hWs) hdg hroom
  by_cases h6 : u = 6
  · subst h6
    rw [if_pos (show ysta 6 = true from rfl)] at hpar
    obtain ⟨host, hnw⟩ := hnest (Or.inl rfl)
    have w2 : Cond.static Mm.1 ∈ WL := hw _ (by simp [ywc])
    have w3 : Cond.initialized Mm.1.cls ∈ WL := hw _ (by simp [ywc])
    have cw := va_cnB (args := args) (s := s) (R := R) (rm := rm) (index := idx) (own := own) (bytes := Mm.2.1) (maxL := Mm.2.2.1) (ret := Mm.2.2.2.1) (ws' := WL) as.length hts hgood0 rfl hrm.1 hrm.2.1 hnw (hts _ w3) ⟨hmh.1, hmh.2, hpar⟩ hrm.2.2
    exact va_runSN (As := as.map (ycv b ac oq)) (rest := rest.map (ycv b ac oq)) fix hM ⟨cw, hts _ w2, True.intro⟩ pre rfl (by simp) hsz hstk (lv_room hWs) hdg hroom
  · have hst1 : ysta u = false := by unfold ysta; simp [h1, h6]
    obtain ⟨x, as', rfl, hrec, hv100⟩ := hrecv hst1
    obtain ⟨a, cell, r1, r2, r3, r4⟩ := y_recv hE h0 hK hC hH hrec hv100
    have e2 : ycv b ac oq (2, x) = .ref a := by show va_rf (yrf b ac x) = _; rw [r1]; rfl
    rw [if_neg (by rw [hst1]; decide), List.length_cons, Nat.add_sub_cancel] at hpar
    rw [List.map_cons, e2] at pre hstk ⊢
    have hstk : ((2, x) :: as').reverse.map (ycv b ac oq) ++ rest.map (ycv b ac oq) = (as'.map (ycv b ac oq)).reverse ++ .ref a :: rest.map (ycv b ac oq) := by
      rw [← List.map_append, hstk]; simp
    rw [← List.map_append] at hstk
    have preV : ∀ C, s.vm.findClass C = some cell.cls → PreV s H C a (yPc b ac oq D cA E F L Xs ((2, x) :: as') σ1) (as'.map (ycv b ac oq)) := fun C hC' => ⟨pre.1, ⟨cell, r2, r3, hC'⟩, pre.2⟩
    rcases hu with ⟨e, hcn⟩ | e | ⟨e, hin, hrt⟩ | e | e | ⟨e, hni, hv14⟩ | e | ⟨e, hin, hrt⟩
    · subst e
      have cw := cwV (args := args) (s := s) (R := R) (rm := rm) (index := idx) (own := own) (C := Mm.1.cls) (y := Mm.1) (bytes := Mm.2.1) (maxL := Mm.2.2.1) (ret := Mm.2.2.2.1) (ws' := WL) as'.length hts (hgood _ hw) rfl hrm.1 hrm.2.1 ⟨rfl, hmh.1, hmh.2, hpar⟩ hrm.2.2
      exact va_runV (As := as'.map (ycv b ac oq)) (rest := rest.map (ycv b ac oq)) fix hM cw (preV _ (by rw [← hcn]; exact r4)) rfl (by simp) hsz hstk (lv_room hWs) hdg hroom
    · exact absurd e h1
    · subst e
      have w1 : Cond.methodLink own idx Mm.1 ∈ WL := hw _ (by simp [ywc])
      have w2 : Cond.instanceMethod Mm.1 ∈ WL := hw _ (by simp [ywc])
      have w3 : Cond.initialized Mm.1.cls ∈ WL := hw _ (by simp [ywc])
      have cw := cwI (args := args) (s := s) (R := R) (rm := rm) (index := idx) (own := own) (y := Mm.1) (bytes := Mm.2.1) (maxL := Mm.2.2.1) (ws' := WL) as'.length hts (hgood0) (by rw [hrt]) hrm.1 hrm.2.1 (hts _ w3) (hts _ w1) (hts _ w2) hin ⟨hmh.1, hmh.2, hpar⟩ hrm.2.2
      exact va_runI (b := a) (As := as'.map (ycv b ac oq)) (rest := rest.map (ycv b ac oq)) fix hM cw pre rfl (by simp) hsz hstk (lv_room hWs) hdg hroom
    · subst e
      have cw := va_cwU (args := args) (s := s) (R := R) (rm := rm) (index := idx) (own := own) (C := yCn v) (owner := Mm.1.cls) (x := ⟨if v = 50 then "LinenPool$Kind" else Mm.1.cls, Mm.1.name, Mm.1.desc⟩) (y := Mm.1) (bytes := Mm.2.1) (maxL := Mm.2.2.1) (ret := Mm.2.2.2.1) (ws' := WL) as'.length hts (hgood _ hw) rfl hrm.1 hrm.2.1 rfl ⟨hmh.1, hmh.2, hpar⟩ hrm.2.2
      exact va_runU (As := as'.map (ycv b ac oq)) (rest := rest.map (ycv b ac oq)) fix hM cw (preV _ r4) rfl (by simp) hsz hstk (lv_room hWs) hdg hroom
    · subst e
      obtain ⟨b0, m0, r0, hc0⟩ := h4 rfl
      have cw := va_cwO (args := args) (s := s) (R := R) (rm := rm) (index := idx) (own := own) (C := yCn v) (owner := "java/lang/AbstractStringBuilder") (x := ⟨"java/lang/AbstractStringBuilder", Mm.1.name, Mm.1.desc⟩) (y := Mm.1) (bytes := Mm.2.1) (maxL := Mm.2.2.1) (ret := Mm.2.2.2.1) (ws' := WL) as'.length hts (hgood _ hw) rfl hrm.1 hrm.2.1 hc0 ⟨by decide, by decide, hpar⟩ hrm.2.2
      exact va_runU (As := as'.map (ycv b ac oq)) (rest := rest.map (ycv b ac oq)) fix hM cw (preV _ r4) rfl (by simp) hsz hstk (lv_room hWs) hdg hroom
    · subst e
      have cw := va_cwSU (args := args) (s := s) (R := R) (rm := rm) (index := idx) (own := own) (y := Mm.1) (bytes := Mm.2.1) (maxL := Mm.2.2.1) (ret := Mm.2.2.2.1) (ws' := WL) as'.length hts (hgood _ hw) rfl hrm.1 hrm.2.1 ⟨hni, hpar⟩ hrm.2.2
      obtain ⟨q, hq⟩ : ∃ q, vwCl[v]? = some q := ⟨_, List.getElem?_eq_getElem (show v < vwCl.length from hv14)⟩
      have hat : ClassAt s (yCn v) (D.1 v) := by
        have := (hK.1 v q hq).2
        unfold yCn
        rw [if_neg (by omega), hq]
        exact this
      exact va_runSU (As := as'.map (ycv b ac oq)) (rest := rest.map (ycv b ac oq)) hat fix hM cw (preV _ r4) rfl (by simp) hsz hstk (lv_room hWs) hdg hroom
    · exact absurd e h6
    · subst e
      obtain ⟨host, hnw⟩ := hnest (Or.inr rfl)
      have w2 : Cond.instanceMethod Mm.1 ∈ WL := hw _ (by simp [ywc])
      have w3 : Cond.initialized Mm.1.cls ∈ WL := hw _ (by simp [ywc])
      have cw := va_cnB (args := args) (s := s) (R := R) (rm := rm) (index := idx) (own := own) (bytes := Mm.2.1) (maxL := Mm.2.2.1) (ret := none) (ws' := WL) as'.length hts hgood0 (by rw [hrt]) hrm.1 hrm.2.1 hnw (hts _ w3) ⟨hmh.1, hmh.2, hpar⟩ hrm.2.2
      exact va_runIN (b := a) (As := as'.map (ycv b ac oq)) (rest := rest.map (ycv b ac oq)) fix hM ⟨cw, hin, hts _ w2⟩ pre rfl (by simp) hsz hstk (lv_room hWs) hdg hroom
end YINV

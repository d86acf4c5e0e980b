/-! a byte array cloned, and the cast behind it -/
def ycln : MethodName := ⟨"[B", "clone", "()Ljava/lang/Object;"⟩
def yclo : MethodName := ⟨"java/lang/Object", "clone", "()Ljava/lang/Object;"⟩
section YCLONE
variable {p : Program} {l : Launch} {e : Env} {R : Room} {s : State} {m : MethodId} {args : Array Value} {below : List Frame} {meth : Method} {c : Code} {Q : State → Prop}
variable {b : Nat} {ac : Nat → Nat} {oq : Value} {D : va_G} {cA : Nat → ClassId} {E : xE} {F : List (List Nat)} {L : Nat} {Xs : Nat → Int}
variable {k0 n0 pc nx : Nat} {ls st : List xAV} {σ : xS} {cc : ByteArray} {H : Heap} {locs : List Loc} {rs : Array Slot}
theorem arrV_cg {cI : ClassId} {N : Nat} {f g : Nat → Value} (h : ∀ j, j < N → f j = g j) : arrV cI N f = arrV cI N g := by
  unfold arrV
  have : (fun j : Fin N => f j.val) = fun j : Fin N => g j.val := funext fun j => h j.val j.isLt
  rw [this]
theorem yHp_cl {x t n : Nat} {H1 : Heap} (hE : xNC ≤ E.1) (hct : ∀ a k, E.1 ≤ a → xct E a k = none) (hH : yHp b ac D cA E F L Xs s σ H locs) (hx : xNC ≤ x) (hlx : x < xnew E σ) (hty : xty E σ x = some (100 + t, n)) (ht : t < 8) (hn : n < 2147483648) (hat : H1[H.size]? = some (arrV (cA t) n (fun j => ycv b ac .null (xtag t, xna t (ycon E σ x j))))) (z : H1.size = H.size + 1) (ho : ∀ q, q < H.size → H1[q]? = H[q]?) : yHp b ac D cA E F L Xs s (xcopy E (xal E σ (100 + t) n) x 0 (xnew E σ) 0 n) H1 locs := by
  have hnx : xNC ≤ xnew E σ := Nat.le_trans hE (Nat.le_add_right _ _)
  have hcn : ∀ j, xct E (xnew E σ) j = none := fun j => hct _ _ (Nat.le_add_right _ _)
  have hx1 : x ≠ 1 := fun e => by rw [e] at hx; exact absurd hx (by decide)
  have hxag : ∀ j, xag E (xal E σ (100 + t) n) (x : Int) j = ycon E σ x j := fun j => by
    rw [xag_con (by rw [Int.toNat_natCast]; exact hx1), Int.toNat_natCast, ycon_al (by omega)]
  have hcon : ∀ a k, ycon E (xcopy E (xal E σ (100 + t) n) x 0 (xnew E σ) 0 n) a k = if a = xnew E σ ∧ k < n then ycon E σ x k else ycon E (xal E σ (100 + t) n) a k := fun a k => by
    rw [ycon_copy hcn]
    by_cases h : a = xnew E σ ∧ k < n
    · rw [if_pos h, if_pos ⟨h.1, Nat.zero_le _, by omega⟩, hxag, Nat.zero_add, Nat.sub_zero]
    · rw [if_neg h, if_neg (fun q => h ⟨q.1, by omega⟩)]
  have hold : ∀ a, a ≠ xnew E σ → ycon E (xcopy E (xal E σ (100 + t) n) x 0 (xnew E σ) 0 n) a = ycon E σ a := fun a ha => by
    funext k
    rw [hcon, if_neg (fun q => ha q.1), ycon_al ha]
  have hvx := hH.2.2.1 x hx hlx
  obtain ⟨c3, n3, g1, g2, g3⟩ := hvx
  rw [hty] at g1
  have g1 := Option.some.inj g1
  have e3 : 100 + t = c3 := congrArg Prod.fst g1
  have e4 : n = n3 := congrArg Prod.snd g1
  subst e3
  subst e4
  have hT1 : yT E F (xcopy E (xal E σ (100 + t) n) x 0 (xnew E σ) 0 n) := by
    intro a h1 h2
    have h2 : a < xnew E (xal E σ (100 + t) n) := h2
    rw [xnew_al] at h2
    by_cases h : a = xnew E σ
    · subst h
      refine ⟨100 + t, n, yxty_new hE, Or.inr ⟨by omega, by omega, hn⟩, fun k hk => ?_⟩
      rw [hcon, if_pos ⟨rfl, hk⟩]
      exact g3 k hk
    · obtain ⟨c2, n2, f1, f2, f3⟩ := hH.2.2.1 a h1 (by omega)
      exact ⟨c2, n2, xty_al hE f1, f2, fun k hk => by rw [hold a h]; exact f3 k hk⟩
  have hE2 : yE b ac cA E F (xcopy E (xal E σ (100 + t) n) x 0 (xnew E σ) 0 n) (xnew E σ) = .inl (cA t, n, yar b ac t (ycon E (xcopy E (xal E σ (100 + t) n) x 0 (xnew E σ) 0 n) (xnew E σ))) := by
    unfold yE
    have : xty E (xcopy E (xal E σ (100 + t) n) x 0 (xnew E σ) 0 n) (xnew E σ) = some (100 + t, n) := yxty_new hE
    rw [this]
    simp only
    rw [if_neg (by omega), show 100 + t - 100 = t by omega]
  have hp := yws_push (b := b) (ac := ac) (cA := cA) (F := F) (σ := σ) (σ' := xcopy E (xal E σ (100 + t) n) x 0 (xnew E σ) 0 n) hE (show xnew E (xal E σ (100 + t) n) = xnew E σ + 1 from xnew_al) hE2 (fun j h1 h2 => by
    obtain ⟨c2, n2, f1, f2, f3⟩ := hH.2.2.1 j h1 h2
    unfold yE
    have e1 : xty E (xcopy E (xal E σ (100 + t) n) x 0 (xnew E σ) 0 n) j = some (c2, n2) := xty_al hE f1
    rw [e1, f1]
    simp only
    unfold yfs
    rw [hold j (by omega)])
  refine ⟨?_, ?_, hT1, hH.2.2.2.1, ⟨?_, ?_, hH.2.2.2.2.2.2⟩⟩
  · rw [hp]
    refine va_P.app (fun k q hq => (hH.1 k q hq).kept (ho _ (hH.1 k q hq).lt)) (fun k q hq => ?_)
    have hk : k < 1 := (List.getElem?_eq_some_iff.mp hq).1
    have hk0 : k = 0 := by omega
    subst hk0
    rw [List.getElem?_cons_zero] at hq
    have hq := Option.some.inj hq
    rw [← hq, ← hH.2.1]
    show H1[H.size]? = some (vp_cell _ _)
    rw [hat, yar_cell]
    refine congrArg some (arrV_cg fun j hj => ?_)
    rw [hcon, if_pos ⟨rfl, hj⟩]
  · show H1.size = b + (xnew E (xal E σ (100 + t) n) - xNC)
    rw [z, xnew_al, hH.2.1]; omega
  · rw [z]; have := hH.2.2.2.2.1; omega
  · intro q h1 h2
    rw [ho q (Nat.lt_of_lt_of_le h1 hH.2.2.2.2.1)]
    exact hH.2.2.2.2.2.1 q h1 h2
theorem ys_clone {x : Int} {n index index2 : Nat} {own : String} (hx : p.tables.exec = Jvm.exec) (hb : c.code = cc) (hml : c.maxLocals = rs.size) (hE : xNC ≤ E.1) (hct : ∀ a k, E.1 ≤ a → xct E a k = none) (hown : s.vm.findClass own = some m.cls)
    (hlink : (Cond.methodLink own index ycln).before args s = true) (hsame : (Cond.sameMethod "[B" "java/lang/Object" "clone" "()Ljava/lang/Object;").before args s = true) (hnat : (Cond.native yclo).before args s = true) (hinst : (Cond.instanceMethod yclo).before args s = true) (hsel : (Cond.selects "[B" ycln yclo).before args s = true) (hcast : (Cond.castable "[B" "java/lang/Cloneable").before args s = true) (hcl : (Cond.classLink own index2 "[B").before args s = true)
    (hK : va_K D vwCl (yTys cA) s) (hH : yHp b ac D cA E F L Xs s σ H locs) (ha : xarr E σ x 2 = some n) (hz : xNC ≤ x.toNat)
    (hframes : 1 ≤ R.frames) (hlocals : ((st.map (ycv b ac oq)).map fun v => v.category).sum + 14 ≤ R.locals) (hk : k0 ≤ xnew E σ ∧ n0 ≤ xsl σ) (hroom : xnew E σ + 1 - k0 ≤ R.cells ∧ xsl σ + n - n0 ≤ R.slots)
    (hdg : decode cc pc = .ok (.invokevirtual index, 3)) (hdg2 : decode cc (pc + 3) = .ok (.checkcast index2, 3))
    (kk : ∀ (H1 : Heap), yHp b ac D cA E F L Xs s (xcopy E (xal E σ (100 + 2) n) x.toNat 0 (xnew E σ) 0 n) H1 locs → W p l e R s m args below meth c H1 locs (xnew E σ - k0 + 1) (xsl σ - n0 + n) Q (F0 m (pc + 6) rs (.ref H.size :: st.map (ycv b ac oq)))) : yW b ac oq E p l e R s m args below meth c Q k0 n0 H locs σ pc rs ((2, x) :: st) := by
  have hty := xarr_P ha
  have hpos : 0 < x := by
    by_cases h : 0 < x
    · exact h
    · have : x.toNat = 0 := Int.toNat_of_nonpos (by omega)
      rw [this] at hz
      exact absurd hz (by decide)
  obtain ⟨hlt, hcl2, hvk⟩ := yT_at hH.2.2.1 hE hz hty
  have he := yws_at (b := b) (ac := ac) (cA := cA) (E := E) (F := F) (σ := σ) hz hlt
  have hE2 : yE b ac cA E F σ x.toNat = .inl (cA 2, n, yar b ac 2 (ycon E σ x.toNat)) := by
    unfold yE; rw [hty]; rfl
  rw [hE2] at he
  have hat : H[yad b ac x.toNat]? = some (vp_cell (cA 2) (n, yar b ac 2 (ycon E σ x.toNat))) := hH.1 _ _ he
  rw [yar_cell] at hat
  have hn : n < 2147483648 := by
    rcases hcl2 with ⟨g, f, g1, g2⟩ | g
    · have : vwCl.length = 14 := rfl
      omega
    · exact g.2.2
  have hRA : s.vm.findClass "[B" = some (cA 2) := (hK.2 2 _ (yTys_at (by decide))).2
  obtain ⟨-, kc1, hk1, cm1, hkk1⟩ := (hK.2 2 _ (yTys_at (by decide))).1 n (fun j => ycv b ac .null (xtag 2, xna 2 (ycon E σ x.toNat j)))
  obtain ⟨cB, cC, hcB, hcC, hasg⟩ := Cond.castable_spec hcast
  have ecB : cA 2 = cB := Option.some.inj (hRA.symm.trans hcB)
  subst ecB
  generalize hcell : arrV (cA 2) n (fun j => ycv b ac .null (xtag 2, xna 2 (ycon E σ x.toNat j))) = cell1 at hat hk1
  have hccls : cell1.cls = cA 2 := by rw [← hcell]; rfl
  have hcvm : cell1.vm = .none := by rw [← hcell]; rfl
  have hcsz : cell1.slots.size = n := by rw [← hcell]; exact arrV_size _ _ _
  have hcself : ({ cls := cell1.cls, slots := cell1.slots } : Cell) = cell1 := by rw [← hcell]; rfl
  have hkA : s.vm.classes[cA 2]? = some kc1 := by rw [← hccls]; exact hk1
  show W p l e R s m args below meth c H locs (xnew E σ - k0) (xsl σ - n0) Q (F0 m pc rs (va_rf (yrf b ac x) :: st.map (ycv b ac oq)))
  rw [yrf_pos hpos]
  intro T hT X
  obtain ⟨vm', X', step⟩ := X.cloneArray hx hown (ad := "[B") hlink hsame hnat hinst hsel (a := yad b ac x.toNat) (cell := cell1) (cC := cC) (by rw [hT]; exact hat) (fun k h => by rw [hcvm] at h; cases h) (by rw [hcvm]; intro h; cases h) (by rw [hccls]; exact hRA) hcC (by rw [hccls]; exact hasg)
    (fun i v hv => by
      obtain ⟨kA', hkA', hek⟩ := X.warmed.alike.2.2 _ _ hkA
      have hkind' : kA'.kind = .array cm1 .byte := by rw [hek]; exact hkk1
      have hi : i < n := by rw [← hcsz]; exact (Array.getElem?_eq_some_iff.mp hv).1
      rw [← hcell, arrV_read _ _ hi] at hv
      rw [hccls, ← Option.some.inj hv]
      have hvv := yvv_of (hvk i hi)
      have hf : fits .byte (ycv b ac .null (xtag 2, xna 2 (ycon E σ x.toNat i))) = true := (y_nar (b := b) (ac := ac) (ty := .byte) (t := 2) (w := xna 2 (ycon E σ x.toNat i)) rfl (by decide) (xna_na 2 _) hvv).2
      simp only [State.fitsSlot, State.slotType?, hkA']
      simp only [Option.bind_eq_bind, Option.bind_some, hkind']
      exact hf)
    (g := F0 m pc rs (.ref (yad b ac x.toNat) :: st.map (ycv b ac oq))) rfl (by rw [hml]) (rest := st.map (ycv b ac oq)) rfl (by rw [hb]; exact hdg) hframes (by show 2 * 0 + _ + _ ≤ _; omega) (by omega) (by rw [hcsz]; omega) (Vm.clonesLoader_of_array (by rw [hccls]; exact hkA) hkk1)
  rw [hcself, hcsz] at X' 
  rw [hcself] at step
  have hh : ((T.setVm vm').pushCell cell1).heap = H.push cell1 := by rw [← hT]; rfl
  have hTs : T.heap.size = H.size := by rw [hT]
  rw [hTs] at step
  generalize hU : (T.setVm vm').pushCell cell1 = U at X' step hh
  obtain ⟨vm2, X2, step2⟩ := X'.checkcastYes hx hown hcl (a := H.size) (cell := cell1) (cT := cA 2) (by rw [hh]; simp) (by rw [hcvm]; rfl) hRA (by rw [hccls]; exact va_asg _ _)
    (g := F0 m (pc + 3) rs (.ref H.size :: st.map (ycv b ac oq))) rfl (rest := st.map (ycv b ac oq)) rfl (by rw [hb]; exact hdg2)
  have hh2 : (U.setVm vm2).heap = H.push cell1 := hh
  have hp := yHp_cl (t := 2) (H1 := H.push cell1) hE hct hH hz hlt hty (by decide) hn (by rw [hcell]; simp) (by rw [Array.size_push]) (fun q hq => by rw [Array.getElem?_push_lt hq, ← Array.getElem?_eq_getElem hq])
  obtain ⟨t9, a1, b1⟩ := kk _ hp _ hh2 X2
  exact ⟨t9, step t9 (step2 t9 a1), b1⟩
end YCLONE

/-! new arrays, copies, casts -/
section YMORE
variable {p : Program} {l : Launch} {e : Env} {R : Room} {s : State} {m : MethodId} {args : Array Value} {below : List Frame} {meth : Method} {c : Code} {Q : State → Prop}
variable {b : Nat} {ac : Nat → Nat} {oq : Value} {D : va_G} {cA : Nat → ClassId} {E : xE} {F : List (List Nat)} {L : Nat} {Xs : Nat → Int}
variable {k0 n0 pc nx : Nat} {ls st : List xAV} {σ : xS} {cc : ByteArray} {H : Heap} {locs : List Loc} {rs : Array Slot}
theorem y_newcell {t n : Nat} (hE : xNC ≤ E.1) (hct : ∀ a k, E.1 ≤ a → xct E a k = none) : vp_cell (cA t) (n, yar b ac t (ycon E (xal E σ (100 + t) n) (xnew E σ))) = arrV (cA t) n (fun _ => ycv b ac .null (xtag t, 0)) := by
  rw [yar_cell]
  refine congrArg (arrV (cA t) n) (funext fun j => ?_)
  rw [ycon_new (hct _ _ (Nat.le_add_right _ _))]
  have : xna t 0 = 0 := by unfold xna; split <;> rfl
  rw [this]
theorem yE_new {t n : Nat} (hE : xNC ≤ E.1) : yE b ac cA E F (xal E σ (100 + t) n) (xnew E σ) = .inl (cA t, n, yar b ac t (ycon E (xal E σ (100 + t) n) (xnew E σ))) := by
  unfold yE
  rw [yxty_new hE]
  simp only
  rw [if_neg (by omega), show 100 + t - 100 = t by omega]
theorem ys_newa {n : Int} {t : Nat} (hx : p.tables.exec = Jvm.exec) (hb : c.code = cc) (hE : xNC ≤ E.1) (hct : ∀ a k, E.1 ≤ a → xct E a k = none) (hK : va_K D vwCl (yTys cA) s) (hH : yHp b ac D cA E F L Xs s σ H locs) (ht : t < 5) (h0 : 0 ≤ n) (h1 : n ≤ 100000) (harr : (Cond.arrayClass (yTy.getD t .int)).before args s = true) (hk : k0 ≤ xnew E σ ∧ n0 ≤ xsl σ) (hroom : xnew E σ + 1 - k0 ≤ R.cells ∧ xsl σ + n.toNat - n0 ≤ R.slots) (hdg : decode cc pc = .ok (.newarray (yat t), 2))
    (kk : ∀ (H1 : Heap), yHp b ac D cA E F L Xs s (xal E σ (100 + t) n.toNat) H1 locs → yW b ac oq E p l e R s m args below meth c Q k0 n0 H1 locs (xal E σ (100 + t) n.toNat) (pc + 2) rs ((2, ((xnew E σ : Nat) : Int)) :: st)) : yW b ac oq E p l e R s m args below meth c Q k0 n0 H locs σ pc rs ((0, n) :: st) := by
  have hR : yR n := by unfold yR; omega
  have ety : newarray.typeOf (yat t) = yTy.getD t .int := by
    rcases (show t = 0 ∨ t = 1 ∨ t = 2 ∨ t = 3 ∨ t = 4 by omega) with e | e | e | e | e <;> subst e <;> rfl
  have edf : defaultValue (yTy.getD t .int) = ycv b ac .null (xtag t, 0) := by
    rcases (show t = 0 ∨ t = 1 ∨ t = 2 ∨ t = 3 ∨ t = 4 by omega) with e | e | e | e | e <;> subst e <;> rfl
  have hRA : s.vm.findClass ("[" ++ (yTy.getD t .int).toString) = some (cA t) := by
    have := (hK.2 t _ (yTys_at (by omega))).2
    rcases (show t = 0 ∨ t = 1 ∨ t = 2 ∨ t = 3 ∨ t = 4 by omega) with e | e | e | e | e <;> subst e <;> exact this
  have hby : n.toNat * componentBytes (yTy.getD t .int) ≤ 536870912 := by
    have h8 : componentBytes (yTy.getD t .int) ≤ 8 := by
      rcases (show t = 0 ∨ t = 1 ∨ t = 2 ∨ t = 3 ∨ t = 4 by omega) with e | e | e | e | e <;> subst e <;> decide
    calc n.toNat * componentBytes (yTy.getD t .int) ≤ n.toNat * 8 := Nat.mul_le_mul_left _ h8
      _ ≤ 536870912 := by omega
  refine va_newaK (atype := yat t) (n := Int32.ofInt n) (N := n.toNat) hx hb (by rw [ety]; exact harr) rfl hdg rfl (by rw [y_0, y_lt hR yR_0]; omega) (y_nat h0 hR) (by rw [ety]; exact hby) (cells := xnew E σ - k0) (slots := xsl σ - n0) (by omega) (by omega) rfl fun H1 cA' e1 z1 o1 hAr hNm => ?_
  rw [ety] at e1 hNm
  have ecA : cA' = cA t := Option.some.inj (hNm.symm.trans hRA)
  subst ecA
  have hh := yHp_al (c' := 100 + t) (n := n.toNat) (H1 := H1) hE hct hH (Or.inr ⟨by omega, by omega, by omega⟩) (by
    rw [yE_new hE]
    show H1[H.size]? = some (vp_cell _ _)
    rw [y_newcell hE hct, e1, edf]) z1 o1
  have := kk H1 hh
  unfold yW at this
  rw [xnew_al, xsl_al] at this
  rw [show xnew E σ - k0 + 1 = xnew E σ + 1 - k0 by omega, show xsl σ - n0 + n.toNat = xsl σ + n.toNat - n0 by omega]
  have e2 : ycv b ac oq (2, ((xnew E σ : Nat) : Int)) = .ref H.size := by
    show va_rf (yrf b ac _) = _
    rw [yad_new hE hH]; rfl
  rw [List.map_cons, e2] at this
  exact this
theorem ys_newq {n : Int} {t index : Nat} {own : String} {C : String} (hx : p.tables.exec = Jvm.exec) (hb : c.code = cc) (hE : xNC ≤ E.1) (hct : ∀ a k, E.1 ≤ a → xct E a k = none) (hown : s.vm.findClass own = some m.cls) (hK : va_K D vwCl (yTys cA) s) (hH : yHp b ac D cA E F L Xs s σ H locs) (ht : t = 5 ∧ C = "LinenPool$Kind" ∨ t = 6 ∧ C = "LinenPool$Terms") (h0 : 0 ≤ n) (h1 : n ≤ 100000) (hlink : (Cond.classLink own index C).before args s = true) (hov : (Cond.arrayOver (.object C)).before args s = true) (hk : k0 ≤ xnew E σ ∧ n0 ≤ xsl σ) (hroom : xnew E σ + 1 - k0 ≤ R.cells ∧ xsl σ + n.toNat - n0 ≤ R.slots) (hdg : decode cc pc = .ok (.anewarray index, 3))
    (kk : ∀ (H1 : Heap), yHp b ac D cA E F L Xs s (xal E σ (100 + t) n.toNat) H1 locs → yW b ac oq E p l e R s m args below meth c Q k0 n0 H1 locs (xal E σ (100 + t) n.toNat) (pc + 3) rs ((2, ((xnew E σ : Nat) : Int)) :: st)) : yW b ac oq E p l e R s m args below meth c Q k0 n0 H locs σ pc rs ((0, n) :: st) := by
  have hR : yR n := by unfold yR; omega
  have hRA : s.vm.findClass ("[" ++ (FieldType.object C).toString) = some (cA t) := by
    rcases ht with ⟨e, e'⟩ | ⟨e, e'⟩ <;> subst e <;> subst e'
    · obtain ⟨kA, comp, -, -, -, h⟩ := (hK.2 5 _ (yTys_at (by omega))).2
      exact h
    · obtain ⟨kA, comp, -, -, -, h⟩ := (hK.2 6 _ (yTys_at (by omega))).2
      exact h
  refine W.anew (n := Int32.ofInt n) hx hb hown hlink (va_AO.use (A := args) (va_AO.of hov)) rfl hdg rfl (by rw [y_0, y_lt hR yR_0]; omega) (by rw [y_nat h0 hR]; omega) (cells := xnew E σ - k0) (slots := xsl σ - n0) (by omega) (by rw [y_nat h0 hR]; omega) fun cA' kA comp f1 f2 f3 f4 => ?_
  have ecA : cA' = cA t := Option.some.inj (f1.symm.trans hRA)
  subst ecA
  rw [y_nat h0 hR]
  generalize hH1 : H.push ({ cls := cA t, slots := Array.replicate n.toNat .null, vm := .none } : Cell) = H1
  have z1 : H1.size = H.size + 1 := by rw [← hH1, Array.size_push]
  have e1 : H1[H.size]? = some (arrV (cA t) n.toNat (fun _ => .null)) := by rw [← hH1, Array.getElem?_push_size, ← arrV_new]
  have o1 : ∀ q : Nat, q < H.size → H1[q]? = H[q]? := fun q hq => by rw [← hH1, Array.getElem?_push, if_neg (Nat.ne_of_lt hq)]
  have edf : Value.null = ycv b ac .null (xtag t, 0) := by
    rcases ht with ⟨e, e'⟩ | ⟨e, e'⟩ <;> subst e <;> rfl
  have hh := yHp_al (c' := 100 + t) (n := n.toNat) (H1 := H1) hE hct hH (Or.inr ⟨by omega, by omega, by omega⟩) (by
    rw [yE_new hE]
    show H1[H.size]? = some (vp_cell _ _)
    rw [y_newcell hE hct, e1, ← edf]) z1 o1
  have := kk H1 hh
  unfold yW at this
  rw [xnew_al, xsl_al] at this
  rw [show xnew E σ - k0 + 1 = xnew E σ + 1 - k0 by omega, show xsl σ - n0 + n.toNat = xsl σ + n.toNat - n0 by omega]
  have e2 : ycv b ac oq (2, ((xnew E σ : Nat) : Int)) = .ref H.size := by
    show va_rf (yrf b ac _) = _
    rw [yad_new hE hH]; rfl
  rw [List.map_cons, e2] at this
  exact this
end YMORE

/-! A STEP OF THE INTERPRETER, READ AS A PROPOSITION, GIVES THE MACHINE'S WALK -/
theorem xpop_P {t : Nat} {st : List xAV} {f : Int → List xAV → Prop} (h : xpop t st False f) : ∃ v st', st = (t, v) :: st' ∧ f v st' := by
  cases st with
  | nil => exact absurd h id
  | cons w st =>
    obtain ⟨u, v⟩ := w
    have h : cond (Nat.beq u t) (f v st) False := h
    cases hb : Nat.beq u t with
    | false => rw [hb] at h; exact absurd h id
    | true => rw [hb] at h; exact ⟨v, st, by rw [Nat.eq_of_beq_eq_true hb], h⟩
theorem xob_P {α : Type} {o : Option α} {f : α → Prop} (h : xob o False f) : ∃ v, o = some v ∧ f v := by
  cases o with
  | none => exact absurd h id
  | some v => exact ⟨v, rfl, h⟩
theorem xco_P {c : Bool} {A : Prop} (h : cond c A False) : c = true ∧ A := by
  cases c with
  | false => exact absurd h id
  | true => exact ⟨rfl, h⟩
theorem xnc_P {c : Bool} {A : Prop} (h : cond c False A) : c = false ∧ A := by
  cases c with
  | true => exact absurd h id
  | false => exact ⟨rfl, h⟩
theorem xite_P {c : Prop} [Decidable c] {A : Prop} (h : if c then A else False) : c ∧ A := by
  by_cases hc : c
  · rw [if_pos hc] at h; exact ⟨hc, h⟩
  · rw [if_neg hc] at h; exact absurd h id
theorem xnite_P {c : Prop} [Decidable c] {A : Prop} (h : if c then False else A) : ¬ c ∧ A := by
  by_cases hc : c
  · rw [if_pos hc] at h; exact absurd h id
  · rw [if_neg hc] at h; exact ⟨hc, h⟩
theorem xck_P {c : Nat} {w : Int} {A : Prop} (h : xck c w False A) : (xna c w = w) ∧ A := by
  unfold xck at h
  cases hs : xsub c with
  | true => rw [hs] at h; exact xite_P h
  | false =>
    rw [hs] at h
    refine ⟨?_, h⟩
    match c, hs with
    | 0, _ => rfl
    | 1, _ => rfl
    | 2, hs => cases hs
    | 3, hs => cases hs
    | 4, hs => cases hs
    | c + 5, _ => rfl
section YSEM
variable {p : Program} {l : Launch} {e : Env} {R : Room} {s : State} {m : MethodId} {args : Array Value} {below : List Frame} {meth : Method} {c : Code} {Q : State → Prop}
variable (b : Nat) (ac : Nat → Nat) (oq : Value) (D : va_G) (cA : Nat → ClassId) (E : xE) (F : List (List Nat)) (L : Nat) (Xs : Nat → Int)
/-- heap, and what was written -/
def yHp (s : State) (σ : xS) (H : Heap) (locs : List Loc) : Prop := va_P D vwCl (yws b ac cA E F σ) H ∧ H.size = b + (xnew E σ - xNC) ∧ yT E F σ ∧ (xL σ = L ∧ xX σ = Xs) ∧ va_S (fun q => b ≤ q) s.heap H locs
/-- the walk from a place on, for every frame and heap that the state pictures -/
def yK (p : Program) (l : Launch) (e : Env) (R : Room) (s : State) (m : MethodId) (args : Array Value) (below : List Frame) (meth : Method) (c : Code) (Q : State → Prop) (N k0 n0 pc : Nat) (ls st : List xAV) (σ : xS) : Prop :=
  (xnew E σ - k0 ≤ R.cells ∧ xsl σ - n0 ≤ R.slots) ∧ ((k0 ≤ xnew E σ ∧ n0 ≤ xsl σ) → ls.length = N → (∀ w ∈ st, yvv w ∧ w.1 ≤ 3) → ∀ (H : Heap) (locs : List Loc) (rs : Array Slot), yL b ac oq ls rs → yHp b ac D cA E F L Xs s σ H locs → W p l e R s m args below meth c H locs (xnew E σ - k0) (xsl σ - n0) Q (F0 m pc rs (st.map (ycv b ac oq))))
end YSEM
section YSEM2
variable {p : Program} {l : Launch} {e : Env} {R : Room} {s : State} {m : MethodId} {args : Array Value} {below : List Frame} {meth : Method} {c : Code} {Q : State → Prop}
variable {b : Nat} {ac : Nat → Nat} {oq : Value} {D : va_G} {cA : Nat → ClassId} {E : xE} {F : List (List Nat)} {L : Nat} {Xs : Nat → Int}
variable {k0 n0 pc nx : Nat} {ls st : List xAV} {σ : xS} {cc : ByteArray} {H : Heap} {locs : List Loc} {rs : Array Slot}
/-- the walk at a place, where the frame stands -/
abbrev yW (b : Nat) (ac : Nat → Nat) (oq : Value) (E : xE) (p : Program) (l : Launch) (e : Env) (R : Room) (s : State) (m : MethodId) (args : Array Value) (below : List Frame) (meth : Method) (c : Code) (Q : State → Prop) (k0 n0 : Nat) (H : Heap) (locs : List Loc) (σ : xS) (pc : Nat) (rs : Array Slot) (st : List xAV) : Prop := W p l e R s m args below meth c H locs (xnew E σ - k0) (xsl σ - n0) Q (F0 m pc rs (st.map (ycv b ac oq)))
theorem ys_cst {v : Int} {u : Nat × Nat × Nat} {a : Nat} (hx : p.tables.exec = Jvm.exec) (hb : c.code = cc) (hdg : decode cc pc = .ok (match u.1 with
    | 0 => (.iconst v, 1)
    | 1 => (.bipush v, 2)
    | _ => (.sipush v, 3))) (hn : nx = pc + (match u.1 with
    | 0 => 1
    | 1 => 2
    | _ => 3)) (hv : Int32.ofInt v = (match u.1 with
    | 0 => Int32.ofInt v
    | 1 => (Int8.ofInt v).toInt32
    | _ => (Int16.ofInt v).toInt32)) (k : yW b ac oq E p l e R s m args below meth c Q k0 n0 H locs σ nx rs ((0, v) :: st)) : yW b ac oq E p l e R s m args below meth c Q k0 n0 H locs σ pc rs st := by
  subst hn
  obtain ⟨u, u2⟩ := u
  match u with
  | 0 => exact lv_iconst hx hb hdg rfl k
  | 1 => exact lv_bipush hx hb hdg hv.symm k
  | u + 2 => exact lv_sipush hx hb hdg hv.symm k
theorem ys_load {a b' : Nat} {w : xAV} {u : Nat} (hx : p.tables.exec = Jvm.exec) (hb : c.code = cc) (hoq : oq = .null ∨ ∃ t, oq = .ref t) (hL : yL b ac oq ls rs) (hw : xnth ls a = some w) (ht : w.1 = b') (hb3 : b' < 3) (hdg : decode cc pc = .ok (yld b' a u)) (hn : nx = pc + (if u = 0 then 1 else 2)) (h4 : u = 0 → a < 4) (k : yW b ac oq E p l e R s m args below meth c Q k0 n0 H locs σ nx rs ((b', w.2) :: st)) : yW b ac oq E p l e R s m args below meth c Q k0 n0 H locs σ pc rs st := by
  obtain ⟨t, x⟩ := w
  subst ht
  subst hn
  have hl := (hL.2.2 _ _ hw (by show t ≤ 3; have : t < 3 := hb3; omega)).1
  have hf : ∀ h : a < 4, ((Fin.ofNat 4 a : Fin 4) : Nat) = a := fun h => by simp [Nat.mod_eq_of_lt h]
  match t, u with
  | 0, 0 => exact lv_iload_n hx hb hdg (hf (h4 rfl)) hl k
  | 0, u + 1 => exact lv_iload hx hb hdg hl k
  | 1, 0 => exact lv_lload_n hx hb hdg (hf (h4 rfl)) hl k
  | 1, u + 1 => exact lv_lload hx hb hdg hl k
  | 2, 0 =>
    have hl : rs[a]? = some (.val (va_rf (yrf b ac x))) := hl
    have k : W p l e R s m args below meth c H locs (xnew E σ - k0) (xsl σ - n0) Q (F0 m (pc + 1) rs (va_rf (yrf b ac x) :: st.map (ycv b ac oq))) := k
    cases hr : yrf b ac x with
    | none => rw [hr] at hl k; exact lv_aload_nN hx hb hdg (hf (h4 rfl)) hl k
    | some y => rw [hr] at hl k; exact lv_aload_n hx hb hdg (hf (h4 rfl)) hl k
  | 2, u + 1 =>
    have hl : rs[a]? = some (.val (va_rf (yrf b ac x))) := hl
    have k : W p l e R s m args below meth c H locs (xnew E σ - k0) (xsl σ - n0) Q (F0 m (pc + 2) rs (va_rf (yrf b ac x) :: st.map (ycv b ac oq))) := k
    cases hr : yrf b ac x with
    | none => rw [hr] at hl k; exact lv_aloadN hx hb hdg hl k
    | some y => rw [hr] at hl k; exact lv_aload hx hb hdg hl k
theorem ys_store {a b' : Nat} {x : Int} {u : Nat} (hx : p.tables.exec = Jvm.exec) (hb : c.code = cc) (hoq : oq.category = 1) (hL : yL b ac oq ls rs) (hv : yvv (b', x)) (hb3 : b' < 3) (ha : a + (if b' = 1 then 2 else 1) ≤ ls.length) (hdg : decode cc pc = .ok (yst b' a u)) (hn : nx = pc + (if u = 0 then 1 else 2)) (h4 : u = 0 → a < 4) (k : ∀ rs', yL b ac oq (xset ls a b' x) rs' → yW b ac oq E p l e R s m args below meth c Q k0 n0 H locs σ nx rs' st) : yW b ac oq E p l e R s m args below meth c Q k0 n0 H locs σ pc rs ((b', x) :: st) := by
  subst hn
  have hf : ∀ h : a < 4, ((Fin.ofNat 4 a : Fin 4) : Nat) = a := fun h => by simp [Nat.mod_eq_of_lt h]
  have hA : a < ls.length := by split at ha <;> omega
  have hA2 : b' = 1 → a + 1 < ls.length := fun e => by rw [if_pos e] at ha; omega
  match b', u with
  | 0, 0 => exact lv_istore_n hx hb hdg (hf (h4 rfl)) hL.has hA rfl (fun rs' h' => k rs' (yL_set1 hoq hL hA (by decide) hv h'))
  | 0, u + 1 => exact lv_istore hx hb hdg hL.has hA rfl (fun rs' h' => k rs' (yL_set1 hoq hL hA (by decide) hv h'))
  | 1, 0 => exact lv_lstore_n hx hb hdg (hf (h4 rfl)) hL.has (hA2 rfl) rfl (fun rs' h' => k rs' (yL_set2 hoq hL (hA2 rfl) hv h'))
  | 1, u + 1 => exact lv_lstore hx hb hdg hL.has (hA2 rfl) rfl (fun rs' h' => k rs' (yL_set2 hoq hL (hA2 rfl) hv h'))
  | 2, 0 =>
    have k : ∀ rs', yL b ac oq (xset ls a 2 x) rs' → W p l e R s m args below meth c H locs (xnew E σ - k0) (xsl σ - n0) Q (F0 m (pc + 1) rs' (st.map (ycv b ac oq))) := k
    show W p l e R s m args below meth c H locs (xnew E σ - k0) (xsl σ - n0) Q (F0 m pc rs (va_rf (yrf b ac x) :: st.map (ycv b ac oq)))
    have h1 := fun rs' => yL_set1 (b := b) (ac := ac) (i := a) (rs' := rs') hoq hL hA (by decide) hv
    have ec : ycv b ac oq (2, x) = va_rf (yrf b ac x) := rfl
    rw [ec] at h1
    cases hr : yrf b ac x with
    | none => rw [hr] at h1; exact lv_astore_nN hx hb hdg (hf (h4 rfl)) hL.has hA rfl (fun rs' h' => k rs' (h1 rs' h'))
    | some y => rw [hr] at h1; exact lv_astore_n hx hb hdg (hf (h4 rfl)) hL.has hA rfl (fun rs' h' => k rs' (h1 rs' h'))
  | 2, u + 1 =>
    have k : ∀ rs', yL b ac oq (xset ls a 2 x) rs' → W p l e R s m args below meth c H locs (xnew E σ - k0) (xsl σ - n0) Q (F0 m (pc + 2) rs' (st.map (ycv b ac oq))) := k
    show W p l e R s m args below meth c H locs (xnew E σ - k0) (xsl σ - n0) Q (F0 m pc rs (va_rf (yrf b ac x) :: st.map (ycv b ac oq)))
    have h1 := fun rs' => yL_set1 (b := b) (ac := ac) (i := a) (rs' := rs') hoq hL hA (by decide) hv
    have ec : ycv b ac oq (2, x) = va_rf (yrf b ac x) := rfl
    rw [ec] at h1
    cases hr : yrf b ac x with
    | none => rw [hr] at h1; exact lv_astoreN hx hb hdg hL.has hA rfl (fun rs' h' => k rs' (h1 rs' h'))
    | some y => rw [hr] at h1; exact lv_astore hx hb hdg hL.has hA rfl (fun rs' h' => k rs' (h1 rs' h'))
theorem ys_ib {b' : Nat} {x y : Int} (hx : p.tables.exec = Jvm.exec) (hb : c.code = cc) (hdg : decode cc pc = .ok (yib b', 1)) (k : yW b ac oq E p l e R s m args below meth c Q k0 n0 H locs σ (pc + 1) rs ((0, xib b' x y) :: st)) : yW b ac oq E p l e R s m args below meth c Q k0 n0 H locs σ pc rs ((0, y) :: (0, x) :: st) := by
  have k : W p l e R s m args below meth c H locs (xnew E σ - k0) (xsl σ - n0) Q (F0 m (pc + 1) rs (.int (Int32.ofInt (xib b' x y)) :: st.map (ycv b ac oq))) := k
  unfold xib at k
  unfold yib at hdg
  split at k
  · rw [← y_add] at k; exact lv_iadd hx hb hdg k
  · rw [← y_sub] at k; exact lv_isub hx hb hdg k
  · rw [← y_mul] at k; exact lv_imul hx hb hdg k
  · unfold xiand at k; rw [y_of] at k; exact lv_iand hx hb hdg k
  · unfold xior at k; rw [y_of] at k; exact lv_ior hx hb hdg k
  · unfold xixor at k; rw [y_of] at k; exact lv_ixor hx hb hdg k
  · unfold xshl at k; rw [y_of] at k; exact lv_ishl hx hb hdg k
  · unfold xshr at k; rw [y_of] at k; exact lv_ishr hx hb hdg k
  · have hdg : decode cc pc = .ok (.iushr, 1) := by
      revert hdg
      split <;> first | (intro h; exact h) | (intro; simp_all)
    unfold xushr at k; rw [y_of] at k; exact lv_iushr hx hb hdg rfl k
end YSEM2

/-! a step -/
/-- what is checked of the tables -/
def yTb (E : xE) (F : List (List Nat)) (WL : List Cond) (tyF : Nat → Nat → FieldType) : Prop := xNC ≤ E.1 ∧ xnth E.2.1 0 = some (999, 0) ∧ (∀ a k, E.1 ≤ a → xct E a k = none) ∧ (∀ z c' n, z < xNC → xnth E.2.1 z = some (c', n) → (c' < 100 → c' = 0 ∨ c' = 50) ∧ (100 ≤ c' → c' < 108 ∨ c' = 999)) ∧ yCl F WL tyF ∧ vwCl[50]? = none ∧ (∀ w ∈ WL, goodWord w = true) ∧ (∀ a c' n, xNC ≤ a → a < E.1 → xnth E.2.1 a = some (c', n) → c' = 100 ∨ c' = 102 → ∀ j, xct E a j = none)
section YSTEP
variable {p : Program} {l : Launch} {e : Env} {R : Room} {s : State} {m : MethodId} {args : Array Value} {below : List Frame} {meth : Method} {c : Code} {Q : State → Prop}
variable {b : Nat} {ac : Nat → Nat} {oq : Value} {D : va_G} {cA : Nat → ClassId} {E : xE} {F : List (List Nat)} {L : Nat} {Xs : Nat → Int}
variable {k0 n0 pc nx : Nat} {ls st : List xAV} {σ : xS} {H : Heap} {locs : List Loc} {rs : Array Slot}
/-- a frame of a method -/
def yCx (p : Program) (s : State) (m : MethodId) (args : Array Value) (meth : Method) (c : Code) (b : Nat) (ac : Nat → Nat) (oq : Value) (D : va_G) (cA : Nat → ClassId) (E : xE) (L : Nat) (Xs : Nat → Int) (WL : List Cond) (Mm : yMt) : Prop :=
  p.tables.exec = Jvm.exec ∧ c.code = Mm.2.1 ∧ c.maxLocals = Mm.2.2.1 ∧ (∀ w ∈ WL, w.before args s = true) ∧ s.vm.findClass Mm.1.cls = some m.cls ∧ (Mm.1.name = "<init>" → meth.name = "<init>") ∧ va_K D vwCl (yTys cA) s ∧ yC b ac oq E L Xs s s.heap ∧ b ≤ s.heap.size
theorem yoq_cat (h : oq = .null ∨ ∃ t, oq = .ref t) : oq.category = 1 := by
  rcases h with h | ⟨t, h⟩ <;> rw [h] <;> rfl
theorem yC_oq (hC : yC b ac oq E L Xs s s.heap) : oq = .null ∨ ∃ t, oq = .ref t := hC.2.2.2.2.2.1
theorem y_gets {i : Nat} {q : String × String × String × xAV} {own : String} {idx : Nat} {cc : ByteArray} (hx : p.tables.exec = Jvm.exec) (hb : c.code = cc) (hown : s.vm.findClass own = some m.cls) (hC : yC b ac oq E L Xs s s.heap) (hH : yHp b ac D cA E F L Xs s σ H locs) (hq : ySt[i]? = some q) (hlink : (Cond.fieldLink own idx q.1 q.2.1 q.2.2.1).before args s = true) (hdg : decode cc pc = .ok (.getstatic idx, 3)) (k : yW b ac oq E p l e R s m args below meth c Q k0 n0 H locs σ (pc + 3) rs (q.2.2.2 :: st)) : yW b ac oq E p l e R s m args below meth c Q k0 n0 H locs σ pc rs st := by
  have hZ := hC.2.2.2.1 q (List.mem_of_getElem? hq)
  exact va_gets hx hb hZ hH.2.2.2.2 hown hlink (fun _ h => h) hdg k
theorem y_table {x : Int} {dflt : Int} {sw : List (Int × Nat)} {len : Nat} {cc : ByteArray} {tgt : Nat} (hx : p.tables.exec = Jvm.exec) (hb : c.code = cc) (hR : yR x) (hne : sw.length ≠ 0) (hseq : ∀ i, i < sw.length → (sw.getD i (0, 0)).1 = (sw.headD (0, 0)).1 + (i : Int)) (hdg : decode cc pc = .ok (.tableswitch ((tgt : Int) - pc) (sw.headD (0, 0)).1 ((sw.headD (0, 0)).1 + (sw.length : Int) - 1) (sw.map fun q => (q.2 : Int) - pc).toArray, len)) (h : xsw sw x (yW b ac oq E p l e R s m args below meth c Q k0 n0 H locs σ tgt rs st) (fun t => yW b ac oq E p l e R s m args below meth c Q k0 n0 H locs σ t rs st)) : yW b ac oq E p l e R s m args below meth c Q k0 n0 H locs σ pc rs ((0, x) :: st) := by
  have key : ∀ (l : List (Int × Nat)) (P : Prop) (K : Nat → Prop), xsw l x P K → (∃ q ∈ l, x = q.1 ∧ K q.2) ∨ ((∀ q ∈ l, x ≠ q.1) ∧ P) := by
    intro l P K
    induction l with
    | nil => intro h; exact Or.inr ⟨fun q hq => absurd hq List.not_mem_nil, h⟩
    | cons q l ih =>
      intro h
      have h : if x = q.1 then K q.2 else xsw l x P K := h
      by_cases hx : x = q.1
      · rw [if_pos hx] at h
        exact Or.inl ⟨q, List.mem_cons_self, hx, h⟩
      · rw [if_neg hx] at h
        rcases ih h with ⟨q', h1, h2⟩ | ⟨h1, h2⟩
        · exact Or.inl ⟨q', List.mem_cons_of_mem _ h1, h2⟩
        · exact Or.inr ⟨fun q' hq' => by
            rcases List.mem_cons.mp hq' with e | e
            · rw [e]; exact hx
            · exact h1 q' e, h2⟩
  have hxi := y_i32R hR
  rcases key _ _ _ h with ⟨q, h1, h2, h3⟩ | ⟨h1, h2⟩
  · obtain ⟨i, hi, hq⟩ := List.getElem_of_mem h1
    have hs := hseq i hi
    have hqd : sw.getD i (0, 0) = q := by rw [List.getD_eq_getElem?_getD, List.getElem?_eq_getElem hi, hq]; rfl
    rw [hqd] at hs
    refine lv_tableIn hx hb hdg (by rw [hxi]; omega) (by rw [hxi]; omega) (off := (q.2 : Int) - pc) (tgt := q.2) ?_ (by omega) h3
    rw [hxi, show (x - (sw.headD (0, 0)).1).toNat = i by omega]
    simp [List.getElem?_eq_getElem hi, hq]
  · refine lv_tableOut hx hb hdg ?_ (tgt := tgt) (by omega) h2
    rw [hxi]
    rcases Int.lt_or_le x (sw.headD (0, 0)).1 with g | g
    · exact Or.inl g
    · refine Or.inr ?_
      rcases Int.lt_or_le ((sw.headD (0, 0)).1 + (sw.length : Int) - 1) x with g2 | g2
      · exact g2
      · have hi : (x - (sw.headD (0, 0)).1).toNat < sw.length := by omega
        have hs := hseq _ hi
        have hm : sw.getD (x - (sw.headD (0, 0)).1).toNat (0, 0) ∈ sw := by
          rw [List.getD_eq_getElem?_getD, List.getElem?_eq_getElem hi]
          exact List.getElem_mem hi
        exact absurd (by rw [hs]; omega) (h1 _ hm)
theorem y_lookup {x : Int} {sw : List (Int × Nat)} {len : Nat} {cc : ByteArray} {tgt : Nat} (hx : p.tables.exec = Jvm.exec) (hb : c.code = cc) (hR : yR x) (hs : (sw.zip (sw.drop 1)).all (fun (a, next) => decide (a.1 < next.1)) = true) (hdg : decode cc pc = .ok (.lookupswitch ((tgt : Int) - pc) (sw.map fun q => (q.1, (q.2 : Int) - pc)).toArray, len)) (h : xsw sw x (yW b ac oq E p l e R s m args below meth c Q k0 n0 H locs σ tgt rs st) (fun t => yW b ac oq E p l e R s m args below meth c Q k0 n0 H locs σ t rs st)) : yW b ac oq E p l e R s m args below meth c Q k0 n0 H locs σ pc rs ((0, x) :: st) := by
  have hxi := y_i32R hR
  have hp : (((sw.map fun q => (q.1, (q.2 : Int) - pc)).toArray.toList).zip (((sw.map fun q => (q.1, (q.2 : Int) - pc)).toArray.toList).drop 1)).all (fun (a, next) => a.1 < next.1) = true := by
    rw [List.all_eq_true] at hs ⊢
    intro z hz
    simp only [List.drop_one, List.map_tail.symm, List.zip_map, List.mem_map] at hz
    obtain ⟨y, hy, rfl⟩ := hz
    have := hs y (by simpa using hy)
    simpa using this
  have key : ∀ (z : List (Int × Nat)) (P : Prop) (K : Nat → Prop), xsw z x P K → ∃ tg : Nat, Op.lookupswitch.offset (z.map fun q => (q.1, (q.2 : Int) - pc)) ((tgt : Int) - pc) x = (tg : Int) - pc ∧ ((tg = tgt ∧ P) ∨ K tg) := by
    intro z P K
    induction z with
    | nil => intro h; exact ⟨tgt, rfl, Or.inl ⟨rfl, h⟩⟩
    | cons q z ih =>
      intro h
      have h : if x = q.1 then K q.2 else xsw z x P K := h
      by_cases hx : x = q.1
      · rw [if_pos hx] at h
        refine ⟨q.2, ?_, Or.inr h⟩
        simp [Op.lookupswitch.offset, hx]
      · rw [if_neg hx] at h
        obtain ⟨tg, h1, h2⟩ := ih h
        refine ⟨tg, ?_, h2⟩
        rw [← h1]
        simp [Op.lookupswitch.offset, Ne.symm hx]
  obtain ⟨tg, h1, h2⟩ := key _ _ _ h
  refine lv_lookup hx hb hdg hp (off := (tg : Int) - pc) (tgt := tg) (by rw [hxi]; exact h1) (by omega) ?_
  rcases h2 with ⟨e, h2⟩ | h2
  · rw [e]; exact h2
  · exact h2
end YSTEP

/-! WHAT THE MACHINE'S HEAP IS, by the interpreter's state: b the first address of ours, ac the constants' addresses, oq a value that is only carried, D class numbers and slots, cA the arrays' class numbers -/
def yad (b : Nat) (ac : Nat → Nat) (x : Nat) : Nat := if x < xNC then ac x else b + (x - xNC)
def yrf (b : Nat) (ac : Nat → Nat) (v : Int) : Option Nat := if v ≤ 0 then none else some (yad b ac v.toNat)
def ycv (b : Nat) (ac : Nat → Nat) (oq : Value) (w : xAV) : Value := match w.1 with
  | 0 => .int (Int32.ofInt w.2)
  | 1 => .long (Int64.ofInt w.2)
  | 2 => va_rf (yrf b ac w.2)
  | _ => oq
def ycon (E : xE) (σ : xS) (a k : Nat) : Int := match xct E a k with
  | some v => v
  | none => xg σ a k
def yfk (F : List (List Nat)) (c k : Nat) : Nat := match xnth F c with
  | some l => (match xnth l k with
    | some t => t
    | none => 0)
  | none => 0
def yar (b : Nat) (ac : Nat → Nat) (t : Nat) (f : Nat → Int) : (Nat → Int32) ⊕ (Nat → Int64) ⊕ (Nat → UInt32) ⊕ (Nat → UInt64) ⊕ (Nat → Option Nat) := match t with
  | 0 => .inl fun k => Int32.ofInt (f k)
  | 1 => .inr (.inl fun k => Int64.ofInt (f k))
  | 2 => .inl fun k => Int32.ofInt (xna 2 (f k))
  | 3 => .inl fun k => Int32.ofInt (xna 3 (f k))
  | 4 => .inl fun k => Int32.ofInt (xna 4 (f k))
  | _ => .inr (.inr (.inr (.inr fun k => yrf b ac (f k))))
def yfs (b : Nat) (ac : Nat → Nat) (E : xE) (F : List (List Nat)) (σ : xS) (a c n : Nat) : List Value := (List.range n).map fun k => ycv b ac .null (xtag (yfk F c k), xna (yfk F c k) (ycon E σ a k))
def yE (b : Nat) (ac : Nat → Nat) (cA : Nat → ClassId) (E : xE) (F : List (List Nat)) (σ : xS) (a : Nat) : va_E := match xty E σ a with
  | some q => if q.1 < 100 then .inr (q.1, yfs b ac E F σ a q.1 q.2) else .inl (cA (q.1 - 100), q.2, yar b ac (q.1 - 100) (ycon E σ a))
  | none => .inr (0, [])
def yws (b : Nat) (ac : Nat → Nat) (cA : Nat → ClassId) (E : xE) (F : List (List Nat)) (σ : xS) : va_W := (List.range (xnew E σ - xNC)).map fun i => (b + i, yE b ac cA E F σ (xNC + i))
/-- a number of a kind of slot -/
def yvk (t : Nat) (v : Int) : Prop := match t with
  | 0 => yR v
  | 1 => yRL v
  | 2 => True
  | 3 => True
  | 4 => True
  | _ => 0 ≤ v
def yvv (w : xAV) : Prop := match w.1 with
  | 0 => yR w.2
  | 1 => yRL w.2
  | 2 => 0 ≤ w.2
  | _ => True
/-- the kind of a slot of a cell of kind c -/
def ysk (F : List (List Nat)) (c k : Nat) : Nat := if c < 100 then yfk F c k else c - 100
/-- the cells' kinds are such, what they hold is of their slots' kinds -/
def yT (E : xE) (F : List (List Nat)) (σ : xS) : Prop := ∀ a, xNC ≤ a → a < xnew E σ → ∃ c n, xty E σ a = some (c, n) ∧ ((c < vwCl.length ∧ ∃ l, xnth F c = some l ∧ l.length = n) ∨ (100 ≤ c ∧ c < 108 ∧ n < 2147483648)) ∧ ∀ k, k < n → yvk (ysk F c k) (ycon E σ a k)
def yTy : List FieldType := [.int, .long, .byte, .char, .boolean, .object "LinenPool$Kind", .object "LinenPool$Terms", .array .int]
def yTys (cA : Nat → ClassId) : List (ClassId × FieldType) := (List.range 8).map fun t => (cA t, yTy.getD t .int)
/-- classes' and fields' names -/
def yCn (c : Nat) : String := if c = 50 then "LinenPool$Kind" else match vwCl[c]? with
  | some q => q.1
  | none => ""
def yFd (c k : Nat) : String × String × String := if c = 50 then (match k with
    | 0 => ("java/lang/Enum", "ordinal", "I")
    | 1 => ("LinenPool$Kind", "word", "Ljava/lang/String;")
    | _ => ("LinenPool$Kind", "slot", "I"))
  else match vwCl[c]? with
  | some q => ((q.2.1 k).1, (q.2.1 k).2.1, (q.2.1 k).2.2.1)
  | none => ("", "", "")
/-- the kinds of the constants' fields -/
def yck (c k : Nat) : Nat := if c = 50 then (match k with
    | 1 => 5
    | _ => 0)
  else match k with
  | 0 => 5
  | 1 => 2
  | 2 => 0
  | _ => 4
/-- statics that are read: class, name, type, value -/
def ySt : List (String × String × String × xAV) := (["LET", "PRICE", "LOSS", "RETIRE", "FEAST", "MIX", "HEAT", "HOUSE", "WORKS", "POOL", "TO", "BY", "WITH", "FOR", "IF", "THEN", "ELSE", "MIN", "MAX", "OR", "AND", "NOT", "WASHES", "AGE", "LIFE", "WORTH", "GRAMS", "SORT", "CLASS", "DAYS", "MISSES", "DAY", "NUMBER", "NAME", "SUM", "PROD", "MINUS", "COMPARE"].zip (List.range 38)).map (fun q => ("LinenPool$Kind", q.1, "LLinenPool$Kind;", (2, ((q.2 + 2 : Nat) : Int)))) ++
  [("LinenPool", "KINDS", "[LLinenPool$Kind;", (2, 40)), ("LinenPool$1", "$SwitchMap$LinenPool$Kind", "[I", (2, 41)), ("java/lang/Integer", "DigitOnes", "[B", (2, 140)), ("java/lang/Integer", "DigitTens", "[B", (2, 141)), ("java/lang/String", "COMPACT_STRINGS", "Z", (0, 1)), ("jdk/internal/util/Preconditions", "SIOOBE_FORMATTER", "Ljava/util/function/BiFunction;", (3, 0))]
/-- texts that are read: class, place, text, cell -/
def yStr : List (String × Nat × String × Nat) := [("LinenPool$Node", 15, "", 108), ("LinenPool$Reader", 116, "=;+-*/%(),[]<>", 110)]
/-- nest mates' methods that are called, their statics that are read: class, place, what, host (the static by its number in ySt) -/
def yNm : List (String × Nat × MethodName × String) := [("LinenPool", 9, "LinenPool$Sorts", "<init>", "()V"), ("LinenPool", 18, "LinenPool$Houses", "<init>", "()V"), ("LinenPool", 25, "LinenPool$Book", "<init>", "()V"), ("LinenPool", 59, "LinenPool$Supply", "<init>", "()V"), ("LinenPool", 66, "LinenPool$Reader", "<init>", "()V"), ("LinenPool$Sorts", 37, "LinenPool", "within", "(III)Z"), ("LinenPool$Book", 52, "LinenPool", "within", "(III)Z"), ("LinenPool$Houses", 34, "LinenPool", "within", "(III)Z"), ("LinenPool$Book", 80, "LinenPool", "asNumber", "(Z)I"), ("LinenPool$Evidence", 89, "LinenPool", "asNumber", "(Z)I"), ("LinenPool$Reader", 94, "LinenPool", "asNumber", "(Z)I"), ("LinenPool$Terms", 59, "LinenPool", "within", "(III)Z"), ("LinenPool$Ledger", 240, "LinenPool", "within", "(III)Z"), ("LinenPool$Houses", 64, "LinenPool", "asNumber", "(Z)I")].map fun q => (q.1, q.2.1, ⟨q.2.2.1, q.2.2.2.1, q.2.2.2.2⟩, "LinenPool")
def yNf : List (String × Nat × String × Nat) := [("LinenPool$Reader", 124, "LinenPool", 38)]
def ySq (i : Nat) : String × String × String × xAV := ySt.getD i ("", "", "", (0, 0))
theorem cast_moved {A A2 : Array Value} {u U : State} {x y : String} (hal : u.vm.Alike U.vm) (h : (Cond.castable x y).before A u = true) : (Cond.castable x y).before A2 U = true := by
  obtain ⟨c, d, h1, h2, h3⟩ := Cond.castable_spec (show (Cond.castable x y).holds A u none u [] = true from h)
  have e1 : U.vm.findClass x = some c := by first | (rw [← hal.findClass]; exact h1) | (rw [hal.findClass]; exact h1)
  have e2 : U.vm.findClass y = some d := by first | (rw [← hal.findClass]; exact h2) | (rw [hal.findClass]; exact h2)
  have e3 : U.vm.assignable c d = true := by first | (rw [← hal.assignable]; exact h3) | (rw [hal.assignable]; exact h3)
  simp [Cond.before, Cond.holds, Cond.value, e1, e2, e3]
def yNs (U : State) : Prop := (∀ q ∈ yNm, va_Nw (.methodLinkNest q.1 q.2.1 q.2.2.1 q.2.2.2) U) ∧ (∀ q ∈ yNf, va_Nw (.fieldLinkNest q.1 q.2.1 (ySq q.2.2.2).1 (ySq q.2.2.2).2.1 (ySq q.2.2.2).2.2.1 q.2.2.1) U) ∧ va_AO "LinenPool$Kind" U ∧ va_AO "LinenPool$Terms" U ∧ (Cond.arrayOver (.array .int)).before #[] U = true ∧ (Cond.castable "[B" "java/lang/Cloneable").before #[] U = true
/-- what stands from the start and is never written -/
def yC (b : Nat) (ac : Nat → Nat) (oq : Value) (E : xE) (L : Nat) (Xs : Nat → Int) (U : State) (H : Heap) : Prop :=
  (∀ a c n, a < xNC → a ≠ 1 → xnth E.2.1 a = some (c, n) → c < 100 → va_O (yCn c) (ac a) (fun q => b ≤ q) U H ∧ ∀ k v, xct E a k = some v → va_OF (yFd c k).1 (yFd c k).2.1 (yFd c k).2.2 (ycv b ac .null (xtag (yck c k), v)) (ac a) (fun q => b ≤ q) U H ∧ yvk (yck c k) v ∧ xna (yck c k) v = v) ∧
  (∀ a c n, a < xNC → a ≠ 1 → xnth E.2.1 a = some (c, n) → 100 ≤ c → c < 108 → va_T (yTy.getD (c - 100) .int) (ac a) n (fun j => ycv b ac .null (xtag (c - 100), xna (c - 100) ((xct E a j).getD 0))) (fun q => b ≤ q) U H ∧ n < 2147483648 ∧ ∀ k, k < n → ∃ v, xct E a k = some v ∧ yvk (c - 100) v) ∧
  (va_T .int (ac 1) L (fun j => .int (Int32.ofInt (Xs j))) (fun q => b ≤ q) U H ∧ L < 2147483648 ∧ ∀ j, yR (Xs j)) ∧
  (∀ q ∈ ySt, va_Z q.1 q.2.1 q.2.2.1 (ycv b ac oq q.2.2.2) (fun q => b ≤ q) U H) ∧
  ((∀ q ∈ yStr, vk_R q.1 q.2.1 q.2.2.1 (ac q.2.2.2) U) ∧ yNs U) ∧
  (oq = .null ∨ ∃ t, oq = .ref t) ∧
  ∀ x y, (x = 0 ∨ (2 ≤ x ∧ x < 40) ∨ xNC ≤ x) → (y = 0 ∨ (2 ≤ y ∧ y < 40) ∨ xNC ≤ y) → (yrf b ac ((x : Nat) : Int) = yrf b ac ((y : Nat) : Int) ↔ x = y)
/-- the interpreter's state is the machine's -/
def yRel (b : Nat) (ac : Nat → Nat) (oq : Value) (D : va_G) (cA : Nat → ClassId) (E : xE) (F : List (List Nat)) (L : Nat) (Xs : Nat → Int) (σ : xS) (U : State) : Prop :=
  va_P D vwCl (yws b ac cA E F σ) U.heap ∧ U.heap.size = b + (xnew E σ - xNC) ∧ yT E F σ ∧ xL σ = L ∧ xX σ = Xs ∧ va_K D vwCl (yTys cA) U ∧ yC b ac oq E L Xs U U.heap
section YREL
variable {b : Nat} {ac : Nat → Nat} {oq : Value} {D : va_G} {cA : Nat → ClassId} {E : xE} {F : List (List Nat)} {L : Nat} {Xs : Nat → Int} {σ : xS}
theorem yC.kept {U : State} {H H1 : Heap} (h : yC b ac oq E L Xs U H) (hq : ∀ a : Nat, a < H.size → ¬ b ≤ a → H1[a]? = H[a]?) : yC b ac oq E L Xs U H1 :=
  ⟨fun a c n h1 h2 h3 h4 => ⟨(h.1 a c n h1 h2 h3 h4).1.kept hq, fun k v hv => ⟨((h.1 a c n h1 h2 h3 h4).2 k v hv).1.kept hq, ((h.1 a c n h1 h2 h3 h4).2 k v hv).2⟩⟩,
    fun a c n h1 h2 h3 h4 h5 => ⟨(h.2.1 a c n h1 h2 h3 h4 h5).1.kept hq, (h.2.1 a c n h1 h2 h3 h4 h5).2⟩, ⟨h.2.2.1.1.kept hq, h.2.2.1.2⟩, fun q hm => (h.2.2.2.1 q hm).kept hq, h.2.2.2.2⟩
theorem yC.warm {s U : State} {H : Heap} (hW : s.WarmedH U.vm) (h : yC b ac oq E L Xs s H) : yC b ac oq E L Xs U H :=
  ⟨fun a c n h1 h2 h3 h4 => ⟨va_O.moved hW.alike (h.1 a c n h1 h2 h3 h4).1, fun k v hv => ⟨va_OF.moved hW.alike ((h.1 a c n h1 h2 h3 h4).2 k v hv).1, ((h.1 a c n h1 h2 h3 h4).2 k v hv).2⟩⟩,
    fun a c n h1 h2 h3 h4 h5 => ⟨va_T.moved hW.alike (h.2.1 a c n h1 h2 h3 h4 h5).1, (h.2.1 a c n h1 h2 h3 h4 h5).2⟩, ⟨va_T.moved hW.alike h.2.2.1.1, h.2.2.1.2⟩, fun q hm => va_Z.moved hW.alike (h.2.2.2.1 q hm), ⟨fun q hm => vk_R.warm hW (h.2.2.2.2.1.1 q hm), fun q hm => va_Nw.warmM hW (h.2.2.2.2.1.2.1 q hm), fun q hm => va_Nw.warmF hW (h.2.2.2.2.1.2.2.1 q hm), va_AO.moved hW.alike h.2.2.2.2.1.2.2.2.1, va_AO.moved hW.alike h.2.2.2.2.1.2.2.2.2.1, over_moved hW.alike h.2.2.2.2.1.2.2.2.2.2.1, cast_moved hW.alike h.2.2.2.2.1.2.2.2.2.2.2⟩, h.2.2.2.2.2⟩
theorem yC.same {s U : State} {H : Heap} (hv : U.vm = s.vm) (h : yC b ac oq E L Xs s H) : yC b ac oq E L Xs U H := by
  have hA : s.vm.Alike U.vm := by rw [hv]; exact Vm.Alike.refl _
  exact ⟨fun a c n h1 h2 h3 h4 => ⟨va_O.moved hA (h.1 a c n h1 h2 h3 h4).1, fun k v hv => ⟨va_OF.moved hA ((h.1 a c n h1 h2 h3 h4).2 k v hv).1, ((h.1 a c n h1 h2 h3 h4).2 k v hv).2⟩⟩,
    fun a c n h1 h2 h3 h4 h5 => ⟨va_T.moved hA (h.2.1 a c n h1 h2 h3 h4 h5).1, (h.2.1 a c n h1 h2 h3 h4 h5).2⟩, ⟨va_T.moved hA h.2.2.1.1, h.2.2.1.2⟩, fun q hm => va_Z.moved hA (h.2.2.2.1 q hm), ⟨fun q hm => vk_R.same hv (h.2.2.2.2.1.1 q hm), fun q hm => va_Nw.same rfl hv.symm (h.2.2.2.2.1.2.1 q hm), fun q hm => va_Nw.same rfl hv.symm (h.2.2.2.2.1.2.2.1 q hm), va_AO.moved hA h.2.2.2.2.1.2.2.2.1, va_AO.moved hA h.2.2.2.2.1.2.2.2.2.1, over_moved hA h.2.2.2.2.1.2.2.2.2.2.1, cast_moved hA h.2.2.2.2.1.2.2.2.2.2.2⟩, h.2.2.2.2.2⟩
theorem yws_len : (yws b ac cA E F σ).length = xnew E σ - xNC := by simp [yws]
theorem yws_at {a : Nat} (h1 : xNC ≤ a) (h2 : a < xnew E σ) : (yws b ac cA E F σ)[a - xNC]? = some (yad b ac a, yE b ac cA E F σ a) := by
  unfold yws
  rw [List.getElem?_map, List.getElem?_range (by omega)]
  simp only [Option.map_some]
  rw [show xNC + (a - xNC) = a by omega]
  unfold yad
  rw [if_neg (by omega)]
theorem yws_D : va_D (fun q => b ≤ q) (yws b ac cA E F σ) := by
  have key : ∀ (i : Nat) (p : Nat × va_E), (yws b ac cA E F σ)[i]? = some p → p.1 = b + i := by
    intro i p h
    unfold yws at h
    rw [List.getElem?_map] at h
    cases hr : (List.range (xnew E σ - xNC))[i]? with
    | none => rw [hr] at h; cases h
    | some j =>
      rw [hr] at h
      obtain ⟨hl, he⟩ := List.getElem?_eq_some_iff.mp hr
      rw [List.getElem_range] at he
      subst he
      cases h
      rfl
  exact ⟨fun i j p q hp hq h => by rw [key i p hp, key j q hq] at h; omega, fun k q hq => by rw [key k q hq]; exact Nat.le_add_right _ _⟩
theorem yws_set {a : Nat} {σ' : xS} {e : va_E} (h1 : xNC ≤ a) (h2 : a < xnew E σ) (hn : xnew E σ' = xnew E σ) (he : yE b ac cA E F σ' a = e) (ho : ∀ j, xNC ≤ j → j ≠ a → yE b ac cA E F σ' j = yE b ac cA E F σ j) : yws b ac cA E F σ' = (yws b ac cA E F σ).set (a - xNC) (yad b ac a, e) := by
  apply List.ext_getElem?
  intro i
  rw [List.getElem?_set]
  by_cases hi : i < xnew E σ - xNC
  · by_cases e1 : a - xNC = i
    · subst e1
      rw [if_pos rfl, if_pos (by rw [yws_len]; exact hi), yws_at h1 (by rw [hn]; exact h2), he]
    · rw [if_neg e1]
      have q := yws_at (b := b) (ac := ac) (cA := cA) (E := E) (F := F) (σ := σ) (a := xNC + i) (by omega) (by omega)
      have q' := yws_at (b := b) (ac := ac) (cA := cA) (E := E) (F := F) (σ := σ') (a := xNC + i) (by omega) (by omega)
      rw [show xNC + i - xNC = i by omega] at q q'
      rw [q, q', ho _ (by omega) (by omega)]
  · have z : (yws b ac cA E F σ')[i]? = none := List.getElem?_eq_none (by rw [yws_len, hn]; omega)
    have z' : (yws b ac cA E F σ)[i]? = none := List.getElem?_eq_none (by rw [yws_len]; omega)
    rw [z, z']
    split
    · rename_i e1
      subst e1
      omega
    · rfl
theorem yws_push {σ' : xS} {e : va_E} (hE : xNC ≤ E.1) (hn : xnew E σ' = xnew E σ + 1) (he : yE b ac cA E F σ' (xnew E σ) = e) (ho : ∀ j, xNC ≤ j → j < xnew E σ → yE b ac cA E F σ' j = yE b ac cA E F σ j) : yws b ac cA E F σ' = yws b ac cA E F σ ++ [(b + (xnew E σ - xNC), e)] := by
  have hx : xNC ≤ xnew E σ := Nat.le_trans hE (Nat.le_add_right _ _)
  unfold yws
  rw [hn, show xnew E σ + 1 - xNC = (xnew E σ - xNC) + 1 by omega, List.range_succ, List.map_append, List.map_singleton, show xNC + (xnew E σ - xNC) = xnew E σ by omega, he]
  refine congrArg (fun z => z ++ [(b + (xnew E σ - xNC), e)]) ?_
  apply List.map_congr_left
  intro i hi
  have hi := List.mem_range.mp hi
  rw [ho _ (by omega) (by omega)]
end YREL

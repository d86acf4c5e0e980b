/-! what is checked of every entry, once, by program -/
/-- the word of a call: variant, place, its receiver's kind, the callee -/
def ywc (own : String) (u idx v : Nat) (y : MethodName) : List Cond := match u with
  | 0 => [.methodLink own idx y, .instanceMethod y, .selects y.cls y y, .initialized y.cls]
  | 1 => [.methodLink own idx y, .static y, .initialized y.cls]
  | 2 => [.methodLink own idx y, .instanceMethod y, .initialized y.cls]
  | 6 => [.static y, .initialized y.cls]
  | 7 => [.instanceMethod y, .initialized y.cls]
  | 3 => [.methodLink own idx ⟨if v = 50 then "LinenPool$Kind" else y.cls, y.name, y.desc⟩, .sameMethod (if v = 50 then "LinenPool$Kind" else y.cls) y.cls y.name y.desc, .selects (yCn v) ⟨if v = 50 then "LinenPool$Kind" else y.cls, y.name, y.desc⟩ y, .instanceMethod y, .initialized y.cls]
  | 4 => [.methodLink own idx ⟨"java/lang/AbstractStringBuilder", y.name, y.desc⟩, .sameMethod "java/lang/AbstractStringBuilder" "java/lang/AbstractStringBuilder" y.name y.desc, .instanceMethod ⟨"java/lang/AbstractStringBuilder", y.name, y.desc⟩, .selects (yCn v) ⟨"java/lang/AbstractStringBuilder", y.name, y.desc⟩ y, .instanceMethod y, .initialized y.cls]
  | _ => [.methodLink own idx y, .sameMethod y.cls y.cls y.name y.desc, .superclass own y.cls, .instanceMethod y, .initialized y.cls]
/-- the methods of Math that are run by the machine's own entries -/
def ymm (a b : Nat) : MethodName × ByteArray × Nat × Option FieldType := match b, a with
  | 0, 0 => (Lib.Math.max.name, Lib.Math.max.code, 2, some .int)
  | 0, _ => (Lib.Math.min.name, Lib.Math.min.code, 2, some .int)
  | _, 0 => (Lib.MathLoose.max_long.x, Lib.MathLoose.max_long.code, 4, some .long)
  | _, _ => (Lib.MathLoose.min_long.x, Lib.MathLoose.min_long.code, 4, some .long)
def yma (b : Nat) : MethodName × ByteArray × Nat × Option FieldType := match b with
  | 0 => (Lib.Math.abs.name, Lib.Math.abs.code, 1, some .int)
  | _ => (Lib.MathLoose.abs_long.x, Lib.MathLoose.abs_long.code, 2, some .long)
def ymw (own : String) (idx : Nat) (y : MethodName × ByteArray × Nat × Option FieldType) : List Cond := [.methodLink own idx y.1, .static y.1, .initialized "java/lang/Math", .code y.1 y.2.1 y.2.2.1 y.2.2.2]
abbrev yMt : Type := MethodName × ByteArray × Nat × Option FieldType × Nat
/-- words that an entry needs -/
def yw (F : List (List Nat)) (M : Nat → yMt) (own : String) (r : xR) (u : Nat × Nat × Nat) : List Cond := match r with
  | (o, a, b, c, v, nx, sw) => match o with
  | 0 => (match u.1 with
    | 3 => [.constant own u.2.1 (Int32.ofInt v)]
    | 5 => [.constant own u.2.1 (Int32.ofInt v)]
    | 4 => (match ySt[u.2.2]? with
      | some q => [.fieldLink own u.2.1 q.1 q.2.1 q.2.2.1]
      | none => [])
    | _ => [])
  | 1 => (match u.1 with
    | 0 => []
    | _ => [.constantLong own u.2.1 (Int64.ofInt v)])
  | 2 => (match u.1 with
    | 1 => (match ySt[u.2.2]? with
      | some q => [.fieldLink own u.2.1 q.1 q.2.1 q.2.2.1]
      | none => [])
    | _ => [])
  | 37 => (match ySt[u.2.2]? with
      | some q => [.fieldLink own u.2.1 q.1 q.2.1 q.2.2.1]
      | none => [])
  | 24 => [.fieldLink own u.2.1 (yFd a b).1 (yFd a b).2.1 (yFd a b).2.2]
  | 25 => [.fieldLink own u.2.1 (yFd a b).1 (yFd a b).2.1 (yFd a b).2.2]
  | 29 => [.classLink own u.2.1 (yCn a), .instantiable (yCn a) (F.getD a []).length, .initialized (yCn a)]
  | 30 => (match u.1 with
    | 0 => [.arrayClass (yTy.getD a .int)]
    | _ => (match a with
      | 5 => [.classLink own u.2.1 "LinenPool$Kind"]
      | _ => [.classLink own u.2.1 "LinenPool$Terms"]))
  | 31 => [.classLink own u.2.1 ("[" ++ (FieldType.array .int).toString), .arrayClass .int]
  | 32 => .code (M a).1 (M a).2.1 (M a).2.2.1 (M a).2.2.2.1 :: ywc own u.1 u.2.1 v.toNat (M a).1
  | 34 => [.methodLink own u.2.1 objectInit, .instanceMethod objectInit, .code objectInit ⟨#[0xb1]⟩ 1 none]
  | 38 => ymw own u.2.1 (ymm a b)
  | 39 => ymw own u.2.1 (yma b)
  | 35 => [.methodLink own u.2.1 arraycopyName, .native arraycopyName, .static arraycopyName, .initialized "java/lang/System"]
  | 40 => [.methodLink own u.2.1 ycln, .sameMethod "[B" "java/lang/Object" "clone" "()Ljava/lang/Object;", .native yclo, .instanceMethod yclo, .selects "[B" ycln yclo, .classLink own u.2.2 "[B"]
  | _ => []
def yMH (s : String) : Bool := s != "java/lang/invoke/MethodHandle" && s != "java/lang/invoke/VarHandle"
/-- the kind of a method's answer -/
def yrk : Option FieldType → Nat
  | some .int => 0
  | some .long => 1
  | some .byte => 2
  | some .char => 3
  | some .boolean => 4
  | some (.object _) => 5
  | some (.array _) => 5
  | none => 9
  | _ => 10
def ysta (u : Nat) : Bool := u == 1 || u == 6
/-- a nest mate's method -/
def yokn (M : Nat → yMt) (mi a : Nat) (u : Nat × Nat × Nat) : Bool := match yNm[u.2.2]? with
  | some q => q.1 == (M mi).1.cls && q.2.1 == u.2.1 && decide (q.2.2.1 = (M a).1)
  | none => false
def yok (F : List (List Nat)) (M : Nat → yMt) (mi pc : Nat) (r : xR) (u : Nat × Nat × Nat) : Bool := match r with
  | (o, a, b, c, v, nx, sw) => match o with
  | 0 => nx == pc + (yi pc r u).2 && (decide (-2147483648 ≤ v) && decide (v < 2147483648)) && (match u.1 with
    | 0 => true
    | 1 => (Int8.ofInt v).toInt32 == Int32.ofInt v
    | 2 => (Int16.ofInt v).toInt32 == Int32.ofInt v
    | 3 => true
    | 4 => (match ySt[u.2.2]? with
      | some q => q.2.2.2 == (0, v)
      | none => false)
    | 5 => true
    | _ => false)
  | 1 => nx == pc + (yi pc r u).2 && (decide (-9223372036854775808 ≤ v) && decide (v < 9223372036854775808)) && (match u.1 with
    | 0 => v == 0 || v == 1
    | _ => true)
  | 2 => nx == pc + (yi pc r u).2 && decide (0 ≤ v) && (match u.1 with
    | 0 => v == 0
    | 1 => (match ySt[u.2.2]? with
      | some q => q.2.2.2 == (2, v)
      | none => false)
    | 2 => (match yStr[u.2.2]? with
      | some q => q.1 == (M mi).1.cls && q.2.1 == u.2.1 && ((q.2.2.2 : Int) == v) && Nat.blt 0 q.2.2.2 && Nat.blt q.2.2.2 xNC
      | none => false)
    | 3 => (match yNf[u.2.2]? with
      | some q => q.1 == (M mi).1.cls && q.2.1 == u.2.1 && Nat.blt q.2.2.2 44 && (ySq q.2.2.2).2.2.2 == (2, v)
      | none => false)
    | _ => false)
  | 37 => nx == pc + 3 && (match ySt[u.2.2]? with
      | some q => q.2.2.2 == (3, 0)
      | none => false)
  | 3 => nx == pc + (if u.1 = 0 then 1 else 2) && Nat.blt b 3 && (u.1 != 0 || Nat.blt a 4)
  | 4 => nx == pc + (if u.1 = 0 then 1 else 2) && Nat.blt b 3 && (u.1 != 0 || Nat.blt a 4)
  | 17 => nx == pc + 3
  | 18 => nx == pc + 3
  | 19 => nx == pc + 3 && Nat.blt b 2
  | 20 => nx == pc + 3 && Nat.blt b 2
  | 21 => true
  | 22 => nx == pc + 4 && decide (decode (M mi).2.1 (pc + 1) = .ok (yj0 b ((c : Int) - ((pc + 1 : Nat) : Int)), 3))
  | 23 => (match u.1 with
    | 0 => (List.range sw.length).all (fun i => ((sw.getD i (0, 0)).1 == (sw.headD (0, 0)).1 + (i : Int)))
    | _ => (sw.zip (sw.drop 1)).all (fun (a, next) => decide (a.1 < next.1))) && sw.length != 0
  | 24 => nx == pc + 3 && Nat.blt a 100 && (match vwCl[a]? with
    | some q => Nat.blt b q.2.2 && yfk F a b == c
    | none => true) && (yck a b == c || (a != 0 && a != 50))
  | 25 => nx == pc + 3 && Nat.blt a 100 && c != 9 && (match vwCl[a]? with
    | some q => Nat.blt b q.2.2 && yfk F a b == c && (!(q.2.1 b).2.2.2 || ((M mi).1.name == "<init>" && (q.2.1 b).1 == (M mi).1.cls))
    | none => true)
  | 26 => nx == pc + 1 && Nat.blt a 8
  | 27 => nx == pc + 1 && Nat.blt a 7 && (a != 5 || c == 50) && (a != 6 || c == 11)
  | 29 => nx == pc + 3 && Nat.blt a 14 && (match xnth F a with
    | some f => (List.range f.length).all (fun k => Nat.blt (yfk F a k) 6) && (F.getD a []).length == f.length
    | none => false)
  | 30 => (match u.1 with
    | 0 => nx == pc + 2 && Nat.blt a 5
    | _ => nx == pc + 3 && (a == 5 || a == 6))
  | 31 => nx == pc + 4 && a == 0 && b == 7
  | 32 => nx == pc + 3 && (yMH (M a).1.cls && (parseMethodDescriptor (M a).1.desc).map (fun d => d.parameters.length) == some (if ysta u.1 = true then b else b - 1)) && Nat.ble ((M a).2.2.1 + 19) 60 && (if c / 2 % 2 = 0 then Nat.blt (M a).2.2.2.2 (M mi).2.2.2.2 else Nat.ble (M a).2.2.2.2 (M mi).2.2.2.2) && (if c % 2 = 0 then (M a).2.2.2.1 == none else (M a).2.2.2.1 != none) && (match u.1 with
    | 0 => c / 4 % 2 == 1 && Nat.blt 0 b && yCn v.toNat == (M a).1.cls && (v == 50 || Nat.blt v.toNat 14)
    | 1 => c / 4 % 2 == 0
    | 2 => c / 4 % 2 == 1 && Nat.blt 0 b && (M a).1.name == "<init>" && (M a).2.2.2.1 == none && Nat.blt v.toNat 14
    | 3 => c / 4 % 2 == 1 && Nat.blt 0 b && (v == 50 || Nat.blt v.toNat 14)
    | 4 => c / 4 % 2 == 1 && Nat.blt 0 b && Nat.blt v.toNat 14
    | 5 => c / 4 % 2 == 1 && Nat.blt 0 b && (M a).1.name != "<init>" && Nat.blt v.toNat 14
    | 6 => c / 4 % 2 == 0 && yokn M mi a u
    | 7 => c / 4 % 2 == 1 && Nat.blt 0 b && (M a).1.name == "<init>" && (M a).2.2.2.1 == none && Nat.blt v.toNat 14 && yokn M mi a u
    | _ => false)
  | 33 => b == yrk (M mi).2.2.2.1
  | 34 => nx == pc + 3
  | 35 => nx == pc + 3 && (a == 0 || a == 2)
  | 36 => false
  | 38 => nx == pc + 3 && Nat.blt b 2
  | 39 => nx == pc + 3 && Nat.blt b 2
  | 40 => nx == pc + 6 && a == 2 && decide (decode (M mi).2.1 (pc + 3) = .ok (.checkcast u.2.2, 3))
  | _ => nx == pc + (yi pc r u).2

/-! AN INTERPRETER OF ITS OWN: the methods' bytecode, resolved, over a heap of numbers. Values: (kind, number): 0 int, 1 long, 2 reference (0 is null, n the n-th logical cell). What is proved of it: part 03 on (it tells what the machine does). -/
def xnth {α : Type} : List α → Nat → Option α
  | [], _ => none
  | a :: _, 0 => some a
  | _ :: l, n + 1 => xnth l n
def xput {α : Type} : List α → Nat → α → List α
  | [], _, _ => []
  | _ :: l, 0, v => v :: l
  | a :: l, n + 1, v => a :: xput l n v
def xmem : List Nat → Nat → Bool
  | [], _ => false
  | a :: l, n => cond (Nat.beq a n) true (xmem l n)
def xob {α X : Type} (o : Option α) (bad : X) (f : α → X) : X := match o with
  | some v => f v
  | none => bad
def xg (σ : xS) (a k : Nat) : Int := σ.1 a k
def xs (σ : xS) (a k : Nat) (v : Int) : xS := (fun b j => cond (Nat.beq b a && Nat.beq j k) v (σ.1 b j), σ.2)
def xdp (σ : xS) : Nat := σ.2.2.2.1
def xsetdp (σ : xS) (d : Nat) : xS := (σ.1, σ.2.1, σ.2.2.1, d, σ.2.2.2.2)
def xsl (σ : xS) : Nat := σ.2.2.1
def xtys (σ : xS) : List (Nat × Nat) := σ.2.1
def xL (σ : xS) : Nat := σ.2.2.2.2.1
def xX (σ : xS) : Nat → Int := σ.2.2.2.2.2
/-- the next cell's number -/
def xnew (E : xE) (σ : xS) : Nat := E.1 + σ.2.1.length
/-- a new cell of a kind -/
def xal (E : xE) (σ : xS) (c n : Nat) : xS := (fun b j => cond (Nat.beq b (xnew E σ)) 0 (σ.1 b j), σ.2.1 ++ [(c, n)], σ.2.2.1 + n, σ.2.2.2)
def xty (E : xE) (σ : xS) (a : Nat) : Option (Nat × Nat) := cond (Nat.beq a 1) (some (100, xL σ)) (cond (Nat.ble E.1 a) (xnth σ.2.1 (a - E.1)) (xnth E.2.1 a))
/-- what is fixed at a slot -/
def xct (E : xE) (a k : Nat) : Option Int := match xnth E.2.2 a with
  | some r => (match xnth r k with
    | some q => q
    | none => none)
  | none => none
def xisO (E : xE) (σ : xS) (x : Int) (c : Nat) : Bool := match xty E σ x.toNat with
  | some q => Nat.beq q.1 c
  | none => false
def xfld (E : xE) (σ : xS) (x : Int) (c k : Nat) : Option Int := cond (xisO E σ x c) (match xct E x.toNat k with
  | some v => some v
  | none => cond (Nat.ble xNC x.toNat) (some (xg σ x.toNat k)) none) none
def xwr (E : xE) (σ : xS) (x : Int) (k : Nat) (v : Int) : Option xS := match xct E x.toNat k with
  | some _ => none
  | none => cond (Nat.ble xNC x.toNat) (some (xs σ x.toNat k v)) none
/-- the length of an array of a kind -/
def xarr (E : xE) (σ : xS) (x : Int) (t : Nat) : Option Nat := match xty E σ x.toNat with
  | some q => cond (Nat.beq q.1 (100 + t)) (some q.2) none
  | none => none
def xlen (E : xE) (σ : xS) (x : Int) : Option Nat := match xty E σ x.toNat with
  | some q => cond (Nat.ble 100 q.1 && Nat.ble q.1 107) (some q.2) none
  | none => none
def xag (E : xE) (σ : xS) (x : Int) (i : Nat) : Int := cond (Nat.beq x.toNat 1) (xX σ i) (match xct E x.toNat i with
  | some v => v
  | none => xg σ x.toNat i)
abbrev xin (i : Int) (n : Nat) : Prop := 0 ≤ i ∧ i < (n : Int)
/-- wrapped to 32, to 64 bits -/
def xw (x : Int) : Int := (x + 2147483648) % 4294967296 - 2147483648
def xW (x : Int) : Int := (x + 9223372036854775808) % 18446744073709551616 - 9223372036854775808
/-- kinds of slots: 0 int, 1 long, 2 byte, 3 char, 4 boolean, 5 and on references -/
def xna (t : Nat) (x : Int) : Int := match t with
  | 2 => (x + 128) % 256 - 128
  | 3 => x % 65536
  | 4 => x % 2
  | _ => x
def xtag (t : Nat) : Nat := match t with
  | 0 => 0
  | 1 => 1
  | 2 => 0
  | 3 => 0
  | 4 => 0
  | _ => 2
def xiand (x y : Int) : Int := (Int32.ofInt x &&& Int32.ofInt y).toInt
def xior (x y : Int) : Int := (Int32.ofInt x ||| Int32.ofInt y).toInt
def xixor (x y : Int) : Int := (Int32.ofInt x ^^^ Int32.ofInt y).toInt
def xshl (x y : Int) : Int := (Int32.ofInt x <<< (Int32.ofInt y &&& 31)).toInt
def xshr (x y : Int) : Int := (Int32.ofInt x >>> (Int32.ofInt y &&& 31)).toInt
def xushr (x y : Int) : Int := ((Int32.ofInt x).toUInt32 >>> ((Int32.ofInt y).toUInt32 &&& Int32.toUInt32 31)).toInt32.toInt
def xib (b : Nat) (x y : Int) : Int := match b with
  | 0 => xw (x + y)
  | 1 => xw (x - y)
  | 2 => xw (x * y)
  | 3 => xiand x y
  | 4 => xior x y
  | 5 => xixor x y
  | 6 => xshl x y
  | 7 => xshr x y
  | _ => xushr x y
def xlb (b : Nat) (x y : Int) : Int := match b with
  | 0 => xW (x + y)
  | 1 => xW (x - y)
  | _ => xW (x * y)
def xcv (b : Nat) (x : Int) : Int := match b with
  | 0 => x
  | 1 => xw x
  | 2 => xna 2 x
  | _ => xna 3 x
/-- greatest, least; without its sign -/
def xmm (a : Nat) (x y : Int) : Int := match a with
  | 0 => if x < y then y else x
  | _ => if y < x then y else x
def xab (b : Nat) (x : Int) : Int := match b with
  | 0 => if 0 ≤ x then x else xw (-x)
  | _ => if 0 < x then x else xW (-x)
def xpop {X : Type} (t : Nat) (st : List xAV) (bad : X) (k : Int → List xAV → X) : X := match st with
  | [] => bad
  | v :: st => cond (Nat.beq v.1 t) (k v.2 st) bad
def xif {X : Type} (b : Nat) (x y : Int) (A B : X) : X := match b with
  | 0 => if x = y then A else B
  | 1 => if x = y then B else A
  | 2 => if x < y then A else B
  | 3 => if x < y then B else A
  | 4 => if y < x then A else B
  | _ => if y < x then B else A
def xsw {X : Type} : List (Int × Nat) → Int → X → (Nat → X) → X
  | [], _, d, _ => d
  | q :: l, x, d, k => if x = q.1 then k q.2 else xsw l x d k
/-- a local is kept: a long before it is broken, a long takes two -/
def xkl (w : xAV) : xAV := cond (Nat.beq w.1 1) (9, 0) w
def xkill : List xAV → Nat → List xAV
  | [], _ => []
  | w :: l, 0 => w :: l
  | w :: l, 1 => xkl w :: l
  | w :: l, a + 2 => w :: xkill l (a + 1)
def xset (ls : List xAV) (a t : Nat) (x : Int) : List xAV := cond (Nat.beq t 1) (xput (xput (xkill ls a) a (t, x)) (a + 1) (8, 0)) (xput (xkill ls a) a (t, x))
def xtake : Nat → List xAV → List xAV → Option (List xAV × List xAV)
  | 0, st, acc => some (acc, st)
  | _ + 1, [], _ => none
  | n + 1, v :: st, acc => xtake n st (v :: acc)
def xcat : List xAV → Nat
  | [] => 0
  | v :: l => cond (Nat.beq v.1 1) 2 1 + xcat l
def xlay : List xAV → List xAV
  | [] => []
  | v :: l => cond (Nat.beq v.1 1) (v :: (8, 0) :: xlay l) (v :: xlay l)
def xcopy (E : xE) (σ : xS) (src sp dst dp n : Nat) : xS := (fun b j => cond (Nat.beq b dst && (Nat.ble dp j && Nat.ble (j + 1) (dp + n))) (xag E σ src (sp + (j - dp))) (σ.1 b j), σ.2)
/-- rows of a grid -/
def xrows (E : xE) (t k o : Nat) : Nat → Nat → xS → xS
  | 0, _, σ => σ
  | m + 1, j, σ => xrows E t k o m (j + 1) (xs (xal E σ (100 + t) k) o j ((xnew E σ : Nat) : Int))
/-- references that may be compared -/
def xcm (x : Int) : Bool := Nat.beq x.toNat 0 || (Nat.ble 2 x.toNat && Nat.ble x.toNat 39) || Nat.ble xNC x.toNat
def xsub : Nat → Bool
  | 2 => true
  | 3 => true
  | 4 => true
  | _ => false
/-- what is kept or answered of a small kind is of it -/
def xck {X : Type} (c : Nat) (w : Int) (bad A : X) : X := cond (xsub c) (if xna c w = w then A else bad) A
def xstep {X : Type} (E : xE) (F : List (List Nat)) (r : xR) (ls st : List xAV) (σ : xS) (k : Nat → List xAV → List xAV → xS → X) (ret : xAV → xS → X) (call : Nat → List xAV → xS → (xAV → xS → X) → X) (bad : X) : X :=
  match r with
  | (o, a, b, c, v, nx, sw) => match o with
  | 0 => k nx ls ((0, v) :: st) σ
  | 1 => k nx ls ((1, v) :: st) σ
  | 2 => k nx ls ((2, v) :: st) σ
  | 3 => xob (xnth ls a) bad fun w => cond (Nat.beq w.1 b) (k nx ls ((b, w.2) :: st) σ) bad
  | 4 => xpop b st bad fun x st => cond (Nat.ble (a + cond (Nat.beq b 1) 2 1) ls.length) (k nx (xset ls a b x) st σ) bad
  | 5 => xob (xnth ls a) bad fun w => cond (Nat.beq w.1 0) (k nx (xput ls a (0, xw (w.2 + v))) st σ) bad
  | 6 => xpop 0 st bad fun y st => xpop 0 st bad fun x st => k nx ls ((0, xib b x y) :: st) σ
  | 7 => xpop 0 st bad fun y st => xpop 0 st bad fun x st => if y = 0 then bad else k nx ls ((0, cond (Nat.beq b 0) (xw (x.tdiv y)) (x.tmod y)) :: st) σ
  | 8 => xpop 0 st bad fun x st => k nx ls ((0, xw (-x)) :: st) σ
  | 9 => xpop 1 st bad fun y st => xpop 1 st bad fun x st => k nx ls ((1, xlb b x y) :: st) σ
  | 10 => xpop 1 st bad fun y st => xpop 1 st bad fun x st => if y = 0 then bad else k nx ls ((1, cond (Nat.beq b 0) (xW (x.tdiv y)) (x.tmod y)) :: st) σ
  | 11 => xpop 1 st bad fun x st => k nx ls ((1, xW (-x)) :: st) σ
  | 12 => xpop (cond (Nat.beq b 1) 1 0) st bad fun x st => k nx ls ((cond (Nat.beq b 0) 1 0, xcv b x) :: st) σ
  | 13 => (match st with
    | [] => bad
    | w :: st => cond (Nat.beq w.1 1) bad (k nx ls (w :: w :: st) σ))
  | 14 => (match st with
    | [] => bad
    | w :: st => cond (Nat.beq w.1 1) bad (k nx ls st σ))
  | 15 => (match st with
    | w :: u :: st => cond (Nat.beq w.1 1 || Nat.beq u.1 1) bad (k nx ls (w :: u :: w :: st) σ)
    | _ => bad)
  | 16 => (match st with
    | w :: u :: st => cond (Nat.beq w.1 1 || Nat.beq u.1 1) bad (k nx ls (w :: u :: w :: u :: st) σ)
    | _ => bad)
  | 17 => xpop 0 st bad fun x st => xif b x 0 (k c ls st σ) (k nx ls st σ)
  | 18 => xpop 0 st bad fun y st => xpop 0 st bad fun x st => xif b x y (k c ls st σ) (k nx ls st σ)
  | 19 => xpop 2 st bad fun y st => xpop 2 st bad fun x st => cond (xcm x && xcm y) (xif b x y (k c ls st σ) (k nx ls st σ)) bad
  | 20 => xpop 2 st bad fun x st => xif b x 0 (k c ls st σ) (k nx ls st σ)
  | 21 => k c ls st σ
  | 22 => xpop 1 st bad fun y st => xpop 1 st bad fun x st => xif b x y (k c ls st σ) (k nx ls st σ)
  | 23 => xpop 0 st bad fun x st => xsw sw x (k c ls st σ) (fun t => k t ls st σ)
  | 24 => xpop 2 st bad fun x st => xob (xfld E σ x a b) bad fun w => k nx ls ((xtag c, xna c w) :: st) σ
  | 25 => xpop (xtag c) st bad fun w st => xpop 2 st bad fun x st => cond (xisO E σ x a) (xck c w bad (xob (xwr E σ x b w) bad (fun σ => k nx ls st σ))) bad
  | 26 => xpop 0 st bad fun i st => xpop 2 st bad fun x st => xob (xarr E σ x a) bad fun n => if xin i n then k nx ls ((xtag a, xna a (xag E σ x i.toNat)) :: st) σ else bad
  | 27 => xpop (xtag a) st bad fun w st => xpop 0 st bad fun i st => xpop 2 st bad fun x st => xob (xarr E σ x a) bad fun n => cond (!Nat.beq (xtag a) 2 || (xisO E σ w c || decide (w = 0))) (if xin i n then xob (xwr E σ x i.toNat (xna a w)) bad (fun σ => k nx ls st σ) else bad) bad
  | 28 => xpop 2 st bad fun x st => xob (xlen E σ x) bad fun n => k nx ls ((0, (n : Int)) :: st) σ
  | 29 => xob (xnth F a) bad fun f => k nx ls ((2, ((xnew E σ : Nat) : Int)) :: st) (xal E σ a f.length)
  | 30 => xpop 0 st bad fun n st => if 0 ≤ n ∧ n ≤ 100000 then k nx ls ((2, ((xnew E σ : Nat) : Int)) :: st) (xal E σ (100 + a) n.toNat) else bad
  | 31 => xpop 0 st bad fun m st => xpop 0 st bad fun n st => if (0 ≤ n ∧ n ≤ 1000) ∧ (0 ≤ m ∧ m ≤ 1000) then k nx ls ((2, ((xnew E σ : Nat) : Int)) :: st) (xrows E a m.toNat (xnew E σ) n.toNat 0 (xal E σ (100 + b) n.toNat)) else bad
  | 32 => xob (xtake b st []) bad fun q => cond (Nat.ble (xcat q.2) 8) (cond (Nat.beq (c / 4 % 2) 0 || (match q.1 with
      | [] => false
      | w :: _ => Nat.beq w.1 2 && xisO E σ w.2 v.toNat))
      (cond (Nat.beq (c / 2 % 2) 0)
        (call a q.1 σ (fun w σ => k nx ls (cond (Nat.beq (c % 2) 0) q.2 (w :: q.2)) σ))
        (cond (Nat.beq (xdp σ) 0) bad (call a q.1 (xsetdp σ (xdp σ - 1)) (fun w σ' => k nx ls (cond (Nat.beq (c % 2) 0) q.2 (w :: q.2)) (xsetdp σ' (xdp σ)))))) bad) bad
  | 33 => (match st with
    | [] => cond (Nat.beq b 9) (ret (9, 0) σ) bad
    | w :: st => (match st with
      | [] => cond (Nat.beq w.1 (xtag b) && Nat.ble b 8) (xck b w.2 bad (ret (w.1, w.2) σ)) bad
      | _ :: _ => bad))
  | 34 => xpop 2 st bad fun x st => cond (Nat.beq x.toNat 0) bad (cond (Nat.ble (xcat st) 8) (k nx ls st σ) bad)
  | 35 => xpop 0 st bad fun n st => xpop 0 st bad fun dp st => xpop 2 st bad fun y st => xpop 0 st bad fun sp st => xpop 2 st bad fun x st => cond (Nat.ble (xcat st) 8) (xob (xarr E σ x a) bad fun nx' => xob (xarr E σ y a) bad fun ny => if ((0 ≤ sp ∧ 0 ≤ dp) ∧ 0 ≤ n) ∧ (sp + n ≤ (nx' : Int) ∧ dp + n ≤ (ny : Int)) then cond (Nat.ble xNC y.toNat && !Nat.beq x.toNat y.toNat) (k nx ls st (xcopy E σ x.toNat sp.toNat y.toNat dp.toNat n.toNat)) bad else bad) bad
  | 36 => xpop 2 st bad fun x st => cond (xisO E σ x a) (k nx ls ((2, x) :: st) σ) bad
  | 37 => k nx ls ((3, 0) :: st) σ
  | 38 => xpop b st bad fun y st => xpop b st bad fun x st => cond (Nat.ble (xcat st) 8) (k nx ls ((b, xmm a x y) :: st) σ) bad
  | 39 => xpop b st bad fun x st => cond (Nat.ble (xcat st) 8) (k nx ls ((b, xab b x) :: st) σ) bad
  | 40 => xpop 2 st bad fun x st => cond (Nat.ble (xcat st) 8) (xob (xarr E σ x a) bad fun n => cond (Nat.ble xNC x.toNat) (k nx ls ((2, ((xnew E σ : Nat) : Int)) :: st) (xcopy E (xal E σ (100 + a) n) x.toNat 0 (xnew E σ) 0 n)) bad) bad
  | _ => bad
def xcode (P : xP) (mi pc : Nat) : Option xR := match xnth P mi with
  | some m => xnth m.1 pc
  | none => none
def xpad : Nat → List xAV → Option (List xAV)
  | 0, [] => some []
  | 0, _ :: _ => none
  | n + 1, [] => xob (xpad n []) none fun l => some ((9, 0) :: l)
  | n + 1, v :: l => xob (xpad n l) none fun l => some (v :: l)
def xent (P : xP) (mj : Nat) (as : List xAV) : Option (List xAV) := match xnth P mj with
  | some m => xpad m.2 (xlay as)
  | none => none
def xrun (E : xE) (F : List (List Nat)) (P : xP) : Nat → Nat → Nat → List xAV → List xAV → xS → Option (xAV × xS)
  | 0, _, _, _, _, _ => none
  | n + 1, mi, pc, ls, st, σ => xob (xcode P mi pc) none fun r => xstep E F r ls st σ (xrun E F P n mi) (fun v σ => some (v, σ)) (fun mj as σ kk => xob (xent P mj as) none fun ls0 => (xrun E F P n mj 0 ls0 [] σ).bind fun q => kk q.1 q.2) none

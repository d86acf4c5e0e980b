/-! which instruction an entry is: (variant, place in the pool, number in a list) -/
def yjc (b : Nat) (off : Int) : Instr := match b with
  | 0 => .if_icmp .eq off
  | 1 => .if_icmp .ne off
  | 2 => .if_icmp .lt off
  | 3 => .if_icmp .ge off
  | 4 => .if_icmp .gt off
  | _ => .if_icmp .le off
def yj0 (b : Nat) (off : Int) : Instr := match b with
  | 0 => .ifCond .eq off
  | 1 => .ifCond .ne off
  | 2 => .ifCond .lt off
  | 3 => .ifCond .ge off
  | 4 => .ifCond .gt off
  | _ => .ifCond .le off
def yib (b : Nat) : Instr := match b with
  | 0 => .iadd
  | 1 => .isub
  | 2 => .imul
  | 3 => .iand
  | 4 => .ior
  | 5 => .ixor
  | 6 => .ishl
  | 7 => .ishr
  | _ => .iushr
def yat (a : Nat) : ArrayType := match a with
  | 0 => .int
  | 1 => .long
  | 2 => .byte
  | 3 => .char
  | _ => .boolean
/-- loads, stores -/
def yld (b a u : Nat) : Instr × Nat := match b, u with
  | 0, 0 => (.iload_n (Fin.ofNat 4 a), 1)
  | 0, _ => (.iload a, 2)
  | 1, 0 => (.lload_n (Fin.ofNat 4 a), 1)
  | 1, _ => (.lload a, 2)
  | _, 0 => (.aload_n (Fin.ofNat 4 a), 1)
  | _, _ => (.aload a, 2)
def yst (b a u : Nat) : Instr × Nat := match b, u with
  | 0, 0 => (.istore_n (Fin.ofNat 4 a), 1)
  | 0, _ => (.istore a, 2)
  | 1, 0 => (.lstore_n (Fin.ofNat 4 a), 1)
  | 1, _ => (.lstore a, 2)
  | _, 0 => (.astore_n (Fin.ofNat 4 a), 1)
  | _, _ => (.astore a, 2)
/-- array elements -/
def yal (a : Nat) : Instr × Nat := match a with
  | 0 => (.iaload, 1)
  | 1 => (.laload, 1)
  | 2 => (.baload, 1)
  | 3 => (.caload, 1)
  | 4 => (.baload, 1)
  | _ => (.aaload, 1)
def yas (a : Nat) : Instr × Nat := match a with
  | 0 => (.iastore, 1)
  | 1 => (.lastore, 1)
  | 2 => (.bastore, 1)
  | 3 => (.castore, 1)
  | 4 => (.bastore, 1)
  | _ => (.aastore, 1)
/-- invocations -/
def yinv (u i : Nat) : Instr × Nat := match u with
  | 0 => (.invokevirtual i, 3)
  | 1 => (.invokestatic i, 3)
  | 2 => (.invokespecial i, 3)
  | 5 => (.invokespecial i, 3)
  | 6 => (.invokestatic i, 3)
  | 7 => (.invokespecial i, 3)
  | _ => (.invokevirtual i, 3)
/-- returns -/
def yrt (b : Nat) : Instr × Nat := match b with
  | 1 => (.lreturn, 1)
  | 5 => (.areturn, 1)
  | 9 => (.return_, 1)
  | _ => (.ireturn, 1)
/-- the instruction and its length -/
def yi (pc : Nat) (r : xR) (u : Nat × Nat × Nat) : Instr × Nat := match r with
  | (o, a, b, c, v, nx, sw) => match o with
  | 0 => (match u.1 with
    | 0 => (.iconst v, 1)
    | 1 => (.bipush v, 2)
    | 2 => (.sipush v, 3)
    | 3 => (.ldc u.2.1, 2)
    | 5 => (.ldc_w u.2.1, 3)
    | _ => (.getstatic u.2.1, 3))
  | 1 => (match u.1 with
    | 0 => (.lconst (Fin.ofNat 2 v.toNat), 1)
    | _ => (.ldc2_w u.2.1, 3))
  | 2 => (match u.1 with
    | 0 => (.aconst_null, 1)
    | 1 => (.getstatic u.2.1, 3)
    | 3 => (.getstatic u.2.1, 3)
    | _ => (.ldc u.2.1, 2))
  | 3 => yld b a u.1
  | 4 => yst b a u.1
  | 5 => (.iinc a v, 3)
  | 6 => (yib b, 1)
  | 7 => (match b with
    | 0 => (.idiv, 1)
    | _ => (.irem, 1))
  | 8 => (.ineg, 1)
  | 9 => (match b with
    | 0 => (.ladd, 1)
    | 1 => (.lsub, 1)
    | _ => (.lmul, 1))
  | 10 => (match b with
    | 0 => (.ldiv, 1)
    | _ => (.lrem, 1))
  | 11 => (.lneg, 1)
  | 12 => (match b with
    | 0 => (.i2l, 1)
    | 1 => (.l2i, 1)
    | 2 => (.i2b, 1)
    | _ => (.i2c, 1))
  | 13 => (.dup, 1)
  | 14 => (.pop, 1)
  | 15 => (.dup_x1, 1)
  | 16 => (.dup2, 1)
  | 17 => (yj0 b ((c : Int) - pc), 3)
  | 18 => (yjc b ((c : Int) - pc), 3)
  | 19 => (match b with
    | 0 => (.if_acmp .eq ((c : Int) - pc), 3)
    | _ => (.if_acmp .ne ((c : Int) - pc), 3))
  | 20 => (match b with
    | 0 => (.ifnull ((c : Int) - pc), 3)
    | _ => (.ifnonnull ((c : Int) - pc), 3))
  | 21 => (.goto ((c : Int) - pc), 3)
  | 22 => (.lcmp, 1)
  | 23 => (match u.1 with
    | 0 => (.tableswitch ((c : Int) - pc) (sw.headD (0, 0)).1 ((sw.headD (0, 0)).1 + (sw.length : Int) - 1) (sw.map fun q => (q.2 : Int) - pc).toArray, u.2.1)
    | _ => (.lookupswitch ((c : Int) - pc) (sw.map fun q => (q.1, (q.2 : Int) - pc)).toArray, u.2.1))
  | 24 => (.getfield u.2.1, 3)
  | 25 => (.putfield u.2.1, 3)
  | 26 => yal a
  | 27 => yas a
  | 28 => (.arraylength, 1)
  | 29 => (.new u.2.1, 3)
  | 30 => (match u.1 with
    | 0 => (.newarray (yat a), 2)
    | _ => (.anewarray u.2.1, 3))
  | 31 => (.multianewarray u.2.1 2, 4)
  | 32 => yinv u.1 u.2.1
  | 33 => yrt b
  | 34 => (.invokespecial u.2.1, 3)
  | 35 => (.invokestatic u.2.1, 3)
  | 36 => (.checkcast u.2.1, 3)
  | 37 => (.getstatic u.2.1, 3)
  | 38 => (.invokestatic u.2.1, 3)
  | 39 => (.invokestatic u.2.1, 3)
  | 40 => (.invokevirtual u.2.1, 3)
  | _ => (.nop, 1)
section YOPS
variable {p : Program} {l : Launch} {e : Env} {R : Room} {s : State} {m : MethodId} {args : Array Value} {below : List Frame} {meth : Method} {c : Code} {H : Heap} {locs : List Loc} {cells slots : Nat} {Q : State → Prop}
variable {cc : ByteArray} {pc : Nat} {rs : Array Slot} {rest : List Value}
theorem y_if0 (hx : p.tables.exec = Jvm.exec) (hb : c.code = cc) {b : Nat} {x : Int} {off : Int} {tgt : Nat} (hr : yR x) (hdg : decode cc pc = .ok (yj0 b off, 3)) (ht : (pc : Int) + off = (tgt : Int)) 
    (k : xif b x 0 (W p l e R s m args below meth c H locs cells slots Q (F0 m tgt rs rest)) (W p l e R s m args below meth c H locs cells slots Q (F0 m (pc + 3) rs rest))) : W p l e R s m args below meth c H locs cells slots Q (F0 m pc rs (.int (Int32.ofInt x) :: rest)) := by
  have e0 : Int32.ofInt x = 0 ↔ x = 0 := by rw [y_0]; exact y_eq hr yR_0
  have l0 : Int32.ofInt x < 0 ↔ x < 0 := by rw [y_0]; exact y_lt hr yR_0
  have g0 : 0 < Int32.ofInt x ↔ 0 < x := by rw [y_0]; exact y_lt yR_0 hr
  have ge : 0 ≤ Int32.ofInt x ↔ 0 ≤ x := by rw [y_0]; exact y_le yR_0 hr
  have le : Int32.ofInt x ≤ 0 ↔ x ≤ 0 := by rw [y_0]; exact y_le hr yR_0
  unfold xif at k
  unfold yj0 at hdg
  split at k
  · exact lv_if_eq hx hb hdg ht (fun h => by rwa [if_pos (e0.mp h)] at k) (fun h => by rwa [if_neg (fun q => h (e0.mpr q))] at k)
  · exact lv_if_ne hx hb hdg ht (fun h => by rwa [if_neg (fun q => h (e0.mpr q))] at k) (fun h => by rwa [if_pos (e0.mp h)] at k)
  · exact lv_if_lt hx hb hdg ht (fun h => by rwa [if_pos (l0.mp h)] at k) (fun h => by rwa [if_neg (fun q => h (l0.mpr q))] at k)
  · exact lv_if_ge hx hb hdg ht (fun h => by rwa [if_neg (by have := ge.mp h; omega)] at k) (fun h => by rwa [if_pos (l0.mp (Int32.not_le.mp h))] at k)
  · exact lv_if_gt hx hb hdg ht (fun h => by rwa [if_pos (g0.mp h)] at k) (fun h => by rwa [if_neg (fun q => h (g0.mpr q))] at k)
  · have hdg : decode cc pc = .ok (.ifCond .le off, 3) := by
      revert hdg
      split <;> first | (intro h; exact h) | (intro; simp_all)
    exact lv_if_le hx hb hdg ht (fun h => by rwa [if_neg (by have := le.mp h; omega)] at k) (fun h => by rwa [if_pos (g0.mp (Int32.not_le.mp h))] at k)
theorem y_ifc (hx : p.tables.exec = Jvm.exec) (hb : c.code = cc) {b : Nat} {x y : Int} {off : Int} {tgt : Nat} (hr : yR x) (hq : yR y) (hdg : decode cc pc = .ok (yjc b off, 3)) (ht : (pc : Int) + off = (tgt : Int)) 
    (k : xif b x y (W p l e R s m args below meth c H locs cells slots Q (F0 m tgt rs rest)) (W p l e R s m args below meth c H locs cells slots Q (F0 m (pc + 3) rs rest))) : W p l e R s m args below meth c H locs cells slots Q (F0 m pc rs (.int (Int32.ofInt y) :: .int (Int32.ofInt x) :: rest)) := by
  have e0 : Int32.ofInt x = Int32.ofInt y ↔ x = y := y_eq hr hq
  have l0 : Int32.ofInt x < Int32.ofInt y ↔ x < y := y_lt hr hq
  have g0 : Int32.ofInt y < Int32.ofInt x ↔ y < x := y_lt hq hr
  have ge : Int32.ofInt y ≤ Int32.ofInt x ↔ y ≤ x := y_le hq hr
  have le : Int32.ofInt x ≤ Int32.ofInt y ↔ x ≤ y := y_le hr hq
  unfold xif at k
  unfold yjc at hdg
  split at k
  · exact lv_icmp_eq hx hb hdg ht (fun h => by rwa [if_pos (e0.mp h)] at k) (fun h => by rwa [if_neg (fun q => h (e0.mpr q))] at k)
  · exact lv_icmp_ne hx hb hdg ht (fun h => by rwa [if_neg (fun q => h (e0.mpr q))] at k) (fun h => by rwa [if_pos (e0.mp h)] at k)
  · exact lv_icmp_lt hx hb hdg ht (fun h => by rwa [if_pos (l0.mp h)] at k) (fun h => by rwa [if_neg (fun q => h (l0.mpr q))] at k)
  · exact lv_icmp_ge hx hb hdg ht (fun h => by rwa [if_neg (by have := ge.mp h; omega)] at k) (fun h => by rwa [if_pos (l0.mp (Int32.not_le.mp h))] at k)
  · exact lv_icmp_gt hx hb hdg ht (fun h => by rwa [if_pos (g0.mp h)] at k) (fun h => by rwa [if_neg (fun q => h (g0.mpr q))] at k)
  · have hdg : decode cc pc = .ok (.if_icmp .le off, 3) := by
      revert hdg
      split <;> first | (intro h; exact h) | (intro; simp_all)
    exact lv_icmp_le hx hb hdg ht (fun h => by rwa [if_neg (by have := le.mp h; omega)] at k) (fun h => by rwa [if_pos (g0.mp (Int32.not_le.mp h))] at k)
end YOPS

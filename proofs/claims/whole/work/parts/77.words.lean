/-! the words, by place; a check of a method's entries -/
/-- a private method selects itself, also by a class below -/
theorem y_selP {y y0 x0 : MethodName} {C : String} {s : State} {args : Array Value} (hy : y.cls ≠ "java/lang/invoke/MethodHandle" ∧ y.cls ≠ "java/lang/invoke/VarHandle") (h0 : (Cond.selects C x0 y0).before args s = true) (hcl : y0.cls = y.cls) (hpriv : (Cond.privateMethod y).before args s = true) (hinst : (Cond.instanceMethod y).before args s = true) : (Cond.selects C y y).before args s = true := by
  obtain ⟨c, r, m, hc, -, hn0, -, k, hk, hni⟩ := Cond.selects_spec h0
  obtain ⟨mk, methM, hnamed, hmethM, -, -⟩ := Cond.instanceMethod_spec hinst
  have hfound : s.methodFound? y.cls y.name y.desc = some mk := State.methodFound?_of_named hnamed hy
  have hcls : mk.cls = m.cls := by
    have h1 := findClass_of_methodNamed hnamed
    have h2 := findClass_of_methodNamed hn0
    rw [hcl, h1] at h2
    exact Option.some.inj h2
  have hsel : selectMethod {} s.vm c mk = .method mk := selectMethod_private hmethM (Cond.privateMethod_at hpriv mk methM hnamed hmethM)
  simp only [Cond.before, Cond.holds, Cond.value, hc, hfound, hnamed, hsel, hcls, hk]
  simp; exact hni
def yPs : List (String × String) := [("ensureCapacityInternal", "(I)V"), ("inflate", "()V"), ("appendNull", "()Ljava/lang/AbstractStringBuilder;"), ("putStringAt", "(ILjava/lang/String;)V"), ("newCapacity", "(I)I"), ("inflateIfNeededFor", "(Ljava/lang/String;)V")]
def yPm (q : String × String) : MethodName := ⟨"java/lang/AbstractStringBuilder", q.1, q.2⟩
def ySel : List Cond := yPs.map fun q => .selects "java/lang/StringBuilder" (yPm q) (yPm q)
def yTbs : List (List Cond) := [tables_1_1, tables_1_2, tables_1_3, tables_1_4, tables_1_5, tables_1_6, tables_1_7, tables_1_8, tables_1_9, tables_1_10, tables_1_11, tables_1_12, k2_sels lw_privs_1, k2_sels lw_privs_2, k2_sels lw_privs_3, k2_sels lw_privs_4, k2_sels lw_privs_5, k2_sels lw_privs_6, k2_sels lw_privs_7, k2_sels lw_privs_8, k2_sels lw_privs_9, ySel]
/-- a word of the tables -/
def ywd (i j : Nat) : Option Cond := match xnth yTbs i with
  | some l => xnth l j
  | none => none
/-- the words that hold all along -/
def yWL : List Cond := (ySel ++ lw_tbl).filter goodWord
theorem xnth_mem {α : Type} : ∀ {l : List α} {i : Nat} {v : α}, xnth l i = some v → v ∈ l
  | [], _, _, h => by cases h
  | _ :: _, 0, _, h => by cases h; exact List.mem_cons_self
  | _ :: l, i + 1, _, h => List.mem_cons_of_mem _ (xnth_mem (l := l) (i := i) h)
theorem ywd_in {i j : Nat} {w : Cond} (h : ywd i j = some w) : w ∈ ySel ++ lw_tbl := by
  unfold ywd at h
  cases hl : xnth yTbs i with
  | none => rw [hl] at h; cases h
  | some l =>
    rw [hl] at h
    have h1 := xnth_mem h
    have h2 := xnth_mem hl
    have e1 : k2_sels lw_privs = k2_sels lw_privs_1 ++ (k2_sels lw_privs_2 ++ (k2_sels lw_privs_3 ++ (k2_sels lw_privs_4 ++ (k2_sels lw_privs_5 ++ (k2_sels lw_privs_6 ++ (k2_sels lw_privs_7 ++ (k2_sels lw_privs_8 ++ k2_sels lw_privs_9))))))) := by
      simp only [lw_privs, k2_sels, List.map_append]
    unfold lw_tbl tables_1
    rw [e1]
    clear h hl e1
    simp only [yTbs, List.mem_cons, List.not_mem_nil, or_false] at h2
    simp only [List.mem_append]
    rcases h2 with e | e | e | e | e | e | e | e | e | e | e | e | e | e | e | e | e | e | e | e | e | e <;> subst e <;> simp only [h1, true_or, or_true]
def yin : List Cond → List (Nat × Nat) → Bool
  | [], _ => true
  | _ :: _, [] => false
  | w :: ws, q :: ix => (match ywd q.1 q.2 with
    | some w' => decide (w' = w) && goodWord w'
    | none => false) && yin ws ix
theorem yin_P : ∀ {ws : List Cond} {ix : List (Nat × Nat)}, yin ws ix = true → ∀ w ∈ ws, w ∈ yWL
  | [], _, _, w, hw => absurd hw List.not_mem_nil
  | _ :: _, [], h, _, _ => by cases h
  | w0 :: ws, q :: ix, h, w, hw => by
    have h : ((match ywd q.1 q.2 with
      | some w' => decide (w' = w0) && goodWord w'
      | none => false) && yin ws ix) = true := h
    rw [Bool.and_eq_true] at h
    rcases List.mem_cons.mp hw with e | e
    · subst e
      have h1 := h.1
      cases hq : ywd q.1 q.2 with
      | none => rw [hq] at h1; cases h1
      | some w' =>
        rw [hq] at h1
        simp only [Bool.and_eq_true, decide_eq_true_eq] at h1
        obtain ⟨e1, e2⟩ := h1
        subst e1
        exact List.mem_filter.mpr ⟨ywd_in hq, e2⟩
    · exact yin_P h.2 w e
/-- an entry's words, a call's code aside -/
def yww (F : List (List Nat)) (M : Nat → yMt) (own : String) (r : xR) (u : Nat × Nat × Nat) : List Cond := match r with
  | (32, a, _, _, v, _, _) => ywc own u.1 u.2.1 v.toNat (M a).1
  | r => yw F M own r u
/-- the code of the method that a class above has under a name -/
def y4w (i j : Nat) (y : MethodName) : Bool := match ywd i j with
  | some (.code m b n r) => decide (m = ⟨"java/lang/AbstractStringBuilder", y.name, y.desc⟩) && goodWord (.code m b n r)
  | _ => false
def ychk (F : List (List Nat)) (M : Nat → yMt) (i4 j4 mi : Nat) (y : yMt) : Nat → List xR → List ((Nat × Nat × Nat) × List (Nat × Nat)) → Bool
  | _, [], _ => true
  | pc, r :: rs, vs => cond (Nat.blt r.1 41) (match vs with
    | [] => false
    | q :: vs => decide (decode y.2.1 pc = .ok (yi pc r q.1)) && yok F M mi pc r q.1 && yin (yww F M y.1.cls r q.1) q.2 && (!(Nat.beq r.1 32 && Nat.beq q.1.1 4) || y4w i4 j4 (M r.2.1).1) && ychk F M i4 j4 mi y (pc + 1) rs vs) (ychk F M i4 j4 mi y (pc + 1) rs vs)
theorem ychk_P {F : List (List Nat)} {M : Nat → yMt} {i4 j4 mi : Nat} (hcode : ∀ a, a < 423 → Cond.code (M a).1 (M a).2.1 (M a).2.2.1 (M a).2.2.2.1 ∈ yWL) : ∀ (rs : List xR) (pc0 : Nat) (vs : List ((Nat × Nat × Nat) × List (Nat × Nat))), ychk F M i4 j4 mi (M mi) pc0 rs vs = true → (∀ r ∈ rs, r.1 = 32 → r.2.1 < 423) → ∀ k r, xnth rs k = some r → r.1 < 41 → ∃ u, decode (M mi).2.1 (pc0 + k) = .ok (yi (pc0 + k) r u) ∧ yok F M mi (pc0 + k) r u = true ∧ (∀ w ∈ yw F M (M mi).1.cls r u, w ∈ yWL) ∧ (r.1 = 32 → u.1 = 4 → ∃ b0 m0 r0, Cond.code ⟨"java/lang/AbstractStringBuilder", (M r.2.1).1.name, (M r.2.1).1.desc⟩ b0 m0 r0 ∈ yWL)
  | [], _, _, _, _, k, r, hk, _ => by cases hk
  | r0 :: rs, pc0, vs, h, hr, k, r, hk, h38 => by
    unfold ychk at h
    have hr' : ∀ r ∈ rs, r.1 = 32 → r.2.1 < 423 := fun r hm => hr r (List.mem_cons_of_mem _ hm)
    match k, hk with
    | 0, hk =>
      have e : r0 = r := Option.some.inj hk
      subst e
      have hb : Nat.blt r0.1 41 = true := Nat.ble_eq_true_of_le h38
      rw [hb] at h
      cases vs with
      | nil => cases h
      | cons q vs =>
        have h : (decide (decode (M mi).2.1 pc0 = .ok (yi pc0 r0 q.1)) && yok F M mi pc0 r0 q.1 && yin (yww F M (M mi).1.cls r0 q.1) q.2 && (!(Nat.beq r0.1 32 && Nat.beq q.1.1 4) || y4w i4 j4 (M r0.2.1).1) && ychk F M i4 j4 mi (M mi) (pc0 + 1) rs vs) = true := h
        simp only [Bool.and_eq_true, decide_eq_true_eq] at h
        obtain ⟨⟨⟨⟨h1, h2⟩, h3⟩, h4⟩, -⟩ := h
        refine ⟨q.1, h1, h2, fun w hw => ?_, fun q1 q2 => ?_⟩
        · have h3 := yin_P h3
          have hr0 := hr r0 List.mem_cons_self
          obtain ⟨o, a, b, c, v, nx, sw⟩ := r0
          by_cases ho : o = 32
          · subst ho
            have hw : w ∈ Cond.code (M a).1 (M a).2.1 (M a).2.2.1 (M a).2.2.2.1 :: ywc (M mi).1.cls q.1.1 q.1.2.1 v.toNat (M a).1 := hw
            rcases List.mem_cons.mp hw with e | e
            · rw [e]; exact hcode a (hr0 rfl)
            · exact h3 w e
          · refine h3 w ?_
            have e : yww F M (M mi).1.cls (o, a, b, c, v, nx, sw) q.1 = yw F M (M mi).1.cls (o, a, b, c, v, nx, sw) q.1 := by
              unfold yww
              split
              · rename_i heq
                exact absurd (congrArg Prod.fst heq) ho
              · rfl
            rw [e]; exact hw
        · rw [q1, q2] at h4
          have h4 : y4w i4 j4 (M r0.2.1).1 = true := h4
          unfold y4w at h4
          cases hz : ywd i4 j4 with
          | none => rw [hz] at h4; cases h4
          | some w =>
            rw [hz] at h4
            cases w <;> first | (cases h4; done) | skip
            rename_i m b n rr
            simp only [Bool.and_eq_true, decide_eq_true_eq] at h4
            refine ⟨b, n, rr, ?_⟩
            rw [← h4.1]
            exact List.mem_filter.mpr ⟨ywd_in hz, h4.2⟩
    | k + 1, hk =>
      have hk : xnth rs k = some r := hk
      have e : pc0 + (k + 1) = pc0 + 1 + k := by omega
      rw [e]
      cases hb : Nat.blt r0.1 41 with
      | false =>
        rw [hb] at h
        exact ychk_P hcode rs (pc0 + 1) vs h hr' k r hk h38
      | true =>
        rw [hb] at h
        cases vs with
        | nil => cases h
        | cons q vs =>
          have h : (decide (decode (M mi).2.1 pc0 = .ok (yi pc0 r0 q.1)) && yok F M mi pc0 r0 q.1 && yin (yww F M (M mi).1.cls r0 q.1) q.2 && (!(Nat.beq r0.1 32 && Nat.beq q.1.1 4) || y4w i4 j4 (M r0.2.1).1) && ychk F M i4 j4 mi (M mi) (pc0 + 1) rs vs) = true := h
          rw [Bool.and_eq_true] at h
          exact ychk_P hcode rs (pc0 + 1) vs h.2 hr' k r hk h38

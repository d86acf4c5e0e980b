/-! calls -/
/-- a contract's start and end, in the interpreter's words -/
def yPc (b : Nat) (ac : Nat → Nat) (oq : Value) (D : va_G) (cA : Nat → ClassId) (E : xE) (F : List (List Nat)) (L : Nat) (Xs : Nat → Int) (as : List xAV) (σ : xS) : Array Value → State → Prop := fun a U => a = (as.map (ycv b ac oq)).toArray ∧ yRel b ac oq D cA E F L Xs σ U ∧ b ≤ U.heap.size
def yQc (b : Nat) (ac : Nat → Nat) (oq : Value) (D : va_G) (cA : Nat → ClassId) (E : xE) (F : List (List Nat)) (rt : Option FieldType) (v : xAV) (σ : xS) : Array Value → State → Outcome → State → Prop := fun _ st o t => o = .returned (if rt = none then none else some (ycv b ac oq v)) ∧ (rt ≠ none → yvv v ∧ v.1 ≤ 3) ∧ va_P D vwCl (yws b ac cA E F σ) t.heap ∧ t.heap.size = b + (xnew E σ - xNC) ∧ yT E F σ ∧ va_F (fun q => b ≤ q) st t
theorem xtake_P : ∀ {n : Nat} {st acc as rest : List xAV}, xtake n st acc = some (as, rest) → ∃ z, as = z.reverse ++ acc ∧ st = z ++ rest ∧ z.length = n
  | 0, st, acc, as, rest, h => by
    cases h
    exact ⟨[], rfl, rfl, rfl⟩
  | n + 1, [], acc, as, rest, h => by cases h
  | n + 1, v :: st, acc, as, rest, h => by
    obtain ⟨z, h1, h2, h3⟩ := xtake_P (n := n) (st := st) (acc := v :: acc) h
    exact ⟨v :: z, by rw [h1]; simp, by rw [h2]; rfl, by simp [h3]⟩
section YCALL
variable {p : Program} {l : Launch} {e : Env} {R : Room} {s : State} {m : MethodId} {args : Array Value} {below : List Frame} {meth : Method} {c : Code} {Q : State → Prop}
variable {b : Nat} {ac : Nat → Nat} {oq : Value} {D : va_G} {cA : Nat → ClassId} {E : xE} {F : List (List Nat)} {L : Nat} {Xs : Nat → Int}
variable {k0 n0 pc nx : Nat} {ls st : List xAV} {σ : xS} {cc : ByteArray} {H : Heap} {locs : List Loc} {rs : Array Slot}
theorem xcat_sum (ho : oq.category = 1) : ∀ (st : List xAV), ((st.map (ycv b ac oq)).map fun v => v.category).sum = xcat st
  | [] => rfl
  | w :: st => by
    rw [List.map_cons, List.map_cons, List.sum_cons, xcat_sum ho st]
    show _ = cond (Nat.beq w.1 1) 2 1 + xcat st
    cases h : Nat.beq w.1 1 with
    | true => rw [(ycv_cat ho).mpr (Nat.eq_of_beq_eq_true h)]; rfl
    | false => rw [ycv_cat1 ho (fun q => by rw [q] at h; cases h)]; rfl
theorem yPc_blind {as : List xAV} : FrameBlind (yPc b ac oq D cA E F L Xs as σ) := by
  intro a U g mk h
  obtain ⟨h1, ⟨h2, h3, h4, h5, h6, h7, h8⟩, h9⟩ := h
  exact ⟨h1, ⟨h2, h3, h4, h5, h6, va_K.moved (u := U) (U := U.calling g mk a) (Vm.Alike.refl U.vm) h7, yC.same (s := U) (U := U.calling g mk a) rfl h8⟩, h9⟩
/-- behind a call -/
theorem y_after {mc ms : Nat} {rest : List Value} {st0 : List Value} {a : Array Value} {rt : Option FieldType} {v : xAV} {σ2 : xS} (hH : yHp b ac D cA E F L Xs s σ H locs) (hL2 : xL σ2 = L ∧ xX σ2 = Xs)
    (hr : va_Run p l e R s m args below meth c H locs (xnew E σ - k0) (xsl σ - n0) mc ms (F0 m pc rs st0) rest (yQc b ac oq D cA E F rt v σ2 a) (fun q => b ≤ q)) (hb : b ≤ H.size)
    (kk : (rt ≠ none → yvv v ∧ v.1 ≤ 3) → ∀ (H1 : Heap) (locs1 : List Loc), yHp b ac D cA E F L Xs s σ2 H1 locs1 → W p l e R s m args below meth c H1 locs1 (xnew E σ - k0 + mc) (xsl σ - n0 + ms) Q (F0 m (pc + 3) rs ((if rt = none then [] else [ycv b ac oq v]) ++ rest))) : W p l e R s m args below meth c H locs (xnew E σ - k0) (xsl σ - n0) Q (F0 m pc rs st0) := by
  intro T hT X
  obtain ⟨w, st₀, t, T', LL, h0, X', hL, e1, e2, ⟨q1, q2, q3, q4, q5, q6⟩, hst⟩ := hr T hT X
  have hw : w = if rt = none then none else some (ycv b ac oq v) := Outcome.returned.inj q1
  rw [← e1] at q3 q4
  obtain ⟨t2, a1, b1⟩ := kk q2 T'.heap (locs ++ LL) ⟨q3, q4, q5, hL2, by rw [e1]; exact Nat.le_trans (by rw [h0]; exact hH.2.2.2.2.1) q6.1, fun q g1 g2 => by
      rw [e1, q6.2 q (by rw [h0]; exact Nat.lt_of_lt_of_le g1 hH.2.2.2.2.1) g2, h0]
      exact hH.2.2.2.2.2.1 q g1 g2, fun q hq => by
      rcases List.mem_append.mp hq with h | h
      · exact hH.2.2.2.2.2.2 q h
      · exact hL q h⟩ T' rfl X'
  refine ⟨t2, hst t2 ?_, b1⟩
  have e3 : w.toList = if rt = none then [] else [ycv b ac oq v] := by
    rw [hw]
    by_cases h : rt = none
    · rw [if_pos h, if_pos h]; rfl
    · rw [if_neg h, if_neg h]; rfl
  show Steps p.tables e below (T'.setTop { F0 m pc rs st0 with pc := pc + 3, stack := w.toList ++ rest }) t2
  rw [e3]
  exact a1
/-- a call's receiver -/
theorem y_recv {x : Int} {v : Nat} (hE : xNC ≤ E.1) (h0 : xnth E.2.1 0 = some (999, 0)) (hK : va_K D vwCl (yTys cA) s) (hC : yC b ac oq E L Xs s s.heap) (hH : yHp b ac D cA E F L Xs s σ H locs) (ho : xisO E σ x v = true) (hv : v < 100) : ∃ (a : Nat) (cell : Cell), yrf b ac x = some a ∧ H[a]? = some cell ∧ cell.vm.isStatics = false ∧ s.vm.findClass (yCn v) = some cell.cls := by
  obtain ⟨n, hty⟩ := xisO_P ho
  have hpos : 0 < x := by
    by_cases h : 0 < x
    · exact h
    · have hz : x.toNat = 0 := Int.toNat_of_nonpos (by omega)
      rw [hz] at hty
      have := congrArg Prod.fst (xty_0 hE h0 hty)
      simp only at this
      omega
  refine ⟨yad b ac x.toNat, ?_⟩
  by_cases hz : x.toNat < xNC
  · have h1 : x.toNat ≠ 1 := by
      intro h1
      rw [h1, xty_one] at hty
      have := congrArg Prod.fst (Option.some.inj hty)
      simp only at this
      omega
    rw [xty_con hE hz h1] at hty
    obtain ⟨hO, -⟩ := hC.1 _ _ _ hz h1 hty hv
    obtain ⟨cell, q1, q2, q3, -⟩ := hO.kept hH.2.2.2.2.2.1
    exact ⟨cell, yrf_pos hpos, by unfold yad; rw [if_pos hz]; exact q1, q2, q3⟩
  · have hz : xNC ≤ x.toNat := by omega
    obtain ⟨hlt, hcl, -⟩ := yT_at hH.2.2.1 hE hz hty
    have hac : v < vwCl.length := by
      rcases hcl with h | h
      · exact h.1
      · omega
    obtain ⟨q, hq⟩ : ∃ q, vwCl[v]? = some q := ⟨_, List.getElem?_eq_getElem hac⟩
    have he := yws_at (b := b) (ac := ac) (cA := cA) (E := E) (F := F) (σ := σ) hz hlt
    have hE2 : yE b ac cA E F σ x.toNat = .inr (v, yfs b ac E F σ x.toNat v n) := by
      unfold yE; rw [hty]; simp only; rw [if_pos hv]
    rw [hE2] at he
    obtain ⟨cell, g1, g2, g3⟩ := va_recv hK hH.1 hq he
    refine ⟨cell, yrf_pos hpos, g1, g2, ?_⟩
    have h14 : vwCl.length = 14 := rfl
    unfold yCn
    rw [if_neg (by omega), hq]
    exact g3
/-- the callee's start holds at the call -/
theorem y_pre {as : List xAV} (hK : va_K D vwCl (yTys cA) s) (hC : yC b ac oq E L Xs s s.heap) (hH : yHp b ac D cA E F L Xs s σ H locs) (hb : b ≤ s.heap.size) {U : State} (hU : U.heap = H) (hW : s.WarmedH U.vm) {σ' : xS} (hs : yws b ac cA E F σ' = yws b ac cA E F σ ∧ xnew E σ' = xnew E σ ∧ yT E F σ' ∧ xL σ' = xL σ ∧ xX σ' = xX σ) : yPc b ac oq D cA E F L Xs as σ' (as.map (ycv b ac oq)).toArray U := by
  obtain ⟨s1, s2, s3, s4, s5⟩ := hs
  refine ⟨rfl, ⟨by rw [hU, s1]; exact hH.1, by rw [hU, s2]; exact hH.2.1, s3, by rw [s4]; exact hH.2.2.2.1.1, by rw [s5]; exact hH.2.2.2.1.2, va_K.moved hW.alike hK, ?_⟩, by rw [hU]; exact Nat.le_trans hb hH.2.2.2.2.1⟩
  rw [hU]
  exact (hC.kept hH.2.2.2.2.2.1).warm hW
theorem y_dp {d : Nat} (hT : yT E F σ) : yws b ac cA E F (xsetdp σ d) = yws b ac cA E F σ ∧ xnew E (xsetdp σ d) = xnew E σ ∧ yT E F (xsetdp σ d) ∧ xL (xsetdp σ d) = xL σ ∧ xX (xsetdp σ d) = xX σ := ⟨rfl, rfl, hT, rfl, rfl⟩
end YCALL

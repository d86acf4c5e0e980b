/-! the lorry's round: every order is weighed -/
theorem setdp_1 (σ : xS) (d : Nat) : (xsetdp σ d).1 = σ.1 := rfl
theorem setdp_dp (σ : xS) (d : Nat) : xdp (xsetdp σ d) = d := rfl
theorem setdp_back {σ τ : xS} {d : Nat} (h : τ.2 = (xsetdp σ d).2) : (xsetdp τ (xdp σ)).2 = σ.2 := by
  have h1 : τ.2.1 = σ.2.1 := by rw [h]; rfl
  have h2 : τ.2.2.1 = σ.2.2.1 := by rw [h]; rfl
  have h3 : τ.2.2.2.2 = σ.2.2.2.2 := by rw [h]; rfl
  show (τ.2.1, τ.2.2.1, xdp σ, τ.2.2.2.2) = σ.2
  rw [h1, h2, h3]
  rfl
theorem nbeq0 {n : Nat} (h : 0 < n) : Nat.beq n 0 = false := beq_ff (by omega)
section ROUNDV
variable {σ : xS}
theorem H_next (hH : ho_J σ.1) {t0 : Int} (ht0 : 0 ≤ t0 ∧ t0 ≤ 1440) {p : List Nat} {h : Nat} (hp : ∀ x ∈ p, (x : Int) < σ.1 305 11) (hh : (h : Int) < σ.1 305 11) (h8 : p.length < 8) {v : Int} {τ τ2 : xS} (hτ : hf σ τ) (ho : oh τ (p ++ [h])) (hdp : 0 < xdp τ) (hc : X iHouses_visitRest 0 [(2, 209), (0, ((p ++ [h]).length : Int)), (0, xiand v (xixor (xshl 1 (h : Int)) (-1))), (0, t0), (0, (ro_p σ.1 t0 (p ++ [h])).1.1), (0, (ro_p σ.1 t0 (p ++ [h])).1.2), (9, 0)] [] (xsetdp τ (xdp τ - 1)) = some ((9, 0), τ2)) :
    X iHouses_visitNext 0 [(2, 209), (0, (p.length : Int)), (0, v), (0, t0), (0, (ro_p σ.1 t0 p).1.1), (0, (ro_p σ.1 t0 p).1.2), (9, 0), (9, 0), (9, 0)] [] τ = some ((9, 0), xsetdp τ2 (xdp τ)) := by
  have h11 := hH.2.1
  obtain ⟨i1, i2, i3, i4⟩ := ro_le hH (t0 := t0) hp
  have hl : (p ++ [h]).length = p.length + 1 := by rw [List.length_append]; rfl
  have hxk : xin (p.length : Int) 8 := ⟨by omega, by omega⟩
  have hxh : xin (h : Int) 8 := ⟨by omega, by omega⟩
  have hr := hH.2.2 h (by omega)
  have o1 : τ.1 214 p.length = (h : Int) := by
    rw [ho p.length (by omega), getD_app, if_neg (by omega), Nat.sub_self]
    rfl
  have bx : hcx σ.1 (h : Int) = σ.1 312 h := if_neg (by omega)
  have by_ : hcy σ.1 (h : Int) = σ.1 313 h := if_neg (by omega)
  have a1 := ab_le (x := (ro_p σ.1 t0 p).2.1 - σ.1 312 h) (n := 99) (by omega)
  have a2 := ab_le (x := (ro_p σ.1 t0 p).2.2 - σ.1 313 h) (n := 99) (by omega)
  have key : X iHouses_visitNext 0 [(2, 209), (0, (p.length : Int)), (0, v), (0, t0), (0, (ro_p σ.1 t0 p).1.1), (0, (ro_p σ.1 t0 p).1.2), (9, 0), (9, 0), (9, 0)] [] τ = X iHouses_visitNext 32 [(2, 209), (0, (p.length : Int)), (0, v), (0, t0), (0, (ro_p σ.1 t0 p).1.1), (0, (ro_p σ.1 t0 p).1.2), (0, (h : Int)), (9, 0), (9, 0)] [(0, ab ((ro_p σ.1 t0 p).2.1 - σ.1 312 h) + ab ((ro_p σ.1 t0 p).2.2 - σ.1 313 h)), (0, (ro_p σ.1 t0 p).1.1)] τ := by
    rw [qHouses_visitNext_0, if_pos hxk, Int.toNat_natCast, o1]
    rcases List.eq_nil_or_concat p with hnil | ⟨q, g, hcc⟩
    · subst hnil
      rw [if_pos (show ((([] : List Nat).length : Nat) : Int) = 0 from rfl), H_apart hH hτ (Or.inl rfl) (Or.inr ⟨by omega, hh⟩), bx, by_]
      rfl
    · rw [List.concat_eq_append] at hcc
      have hlq : p.length = q.length + 1 := by rw [hcc, List.length_append]; rfl
      have hg := hp g (by rw [hcc]; exact List.mem_append_right _ List.mem_cons_self)
      have oq : τ.1 214 q.length = (g : Int) := by
        rw [ho q.length (by omega), getD_app, if_pos (by omega), hcc, getD_app, if_neg (by omega), Nat.sub_self]
        rfl
      have e2 : (ro_p σ.1 t0 p).2 = (σ.1 312 g, σ.1 313 g) := by rw [hcc]; exact ro_pos
      rw [if_neg (by omega), xw_id (x := (p.length : Int) - 1) (by omega) (by omega), if_pos (xin_of (by omega) (by omega)), show ((p.length : Int) - 1).toNat = q.length by omega, oq, H_apart hH hτ (Or.inr ⟨by omega, hg⟩) (Or.inr ⟨by omega, hh⟩), bx, by_, e2, show hcx σ.1 (g : Int) = σ.1 312 g from if_neg (by omega), show hcy σ.1 (g : Int) = σ.1 313 g from if_neg (by omega)]
      rfl
  have e213 : τ.1 213 = σ.1 314 := (hτ.1 213 (by decide) (by decide) (by decide)).trans hH.1.2.2.2.1
  have g1 : (ro_p σ.1 t0 (p ++ [h])).1.1 = (ro_p σ.1 t0 p).1.1 + (ab ((ro_p σ.1 t0 p).2.1 - σ.1 312 h) + ab ((ro_p σ.1 t0 p).2.2 - σ.1 313 h)) + 5 := by rw [ro_snoc]; rfl
  have g2 : (ro_p σ.1 t0 (p ++ [h])).1.2 = (ro_p σ.1 t0 p).1.2 + if σ.1 314 h < (ro_p σ.1 t0 p).1.1 + (ab ((ro_p σ.1 t0 p).2.1 - σ.1 312 h) + ab ((ro_p σ.1 t0 p).2.2 - σ.1 313 h)) then 1 else 0 := by rw [ro_snoc]; rfl
  rw [g1, g2, hl] at hc
  clear g1 g2 bx by_ o1 hr
  have hD : 0 ≤ ab ((ro_p σ.1 t0 p).2.1 - σ.1 312 h) + ab ((ro_p σ.1 t0 p).2.2 - σ.1 313 h) ∧ ab ((ro_p σ.1 t0 p).2.1 - σ.1 312 h) + ab ((ro_p σ.1 t0 p).2.2 - σ.1 313 h) ≤ 198 := by omega
  clear a1 a2
  generalize ab ((ro_p σ.1 t0 p).2.1 - σ.1 312 h) + ab ((ro_p σ.1 t0 p).2.2 - σ.1 313 h) = D at *
  rw [show ((p.length + 1 : Nat) : Int) = (p.length : Int) + 1 from rfl] at hc
  rw [key, qHouses_visitNext_32, if_pos hxh, Int.toNat_natCast, e213, xw_id (x := (ro_p σ.1 t0 p).1.1 + D) (by omega) (by omega), xw_id (x := (ro_p σ.1 t0 p).1.1 + D + 5) (by omega) (by omega), xw_s (by omega), nbeq0 hdp]
  by_cases c : σ.1 314 h < (ro_p σ.1 t0 p).1.1 + D
  · rw [if_pos c] at hc
    rw [if_pos c, xw_id (x := (ro_p σ.1 t0 p).1.2 + 1) (by omega) (by omega), cond_false, hc]
    simp only [Option.bind_some, qHouses_visitNext_82]
  · rw [if_neg c] at hc
    rw [if_neg c, xw_id (x := (ro_p σ.1 t0 p).1.2 + 0) (by omega) (by omega), cond_false, hc]
    simp only [Option.bind_some, qHouses_visitNext_82]
theorem hf_setdp {τ : xS} {d : Nat} (h : hf σ τ) : hf σ (xsetdp τ d) := h
theorem hf_214 {τ : xS} {k : Nat} {v : Int} (h : hf σ τ) : hf σ (xs τ 214 k v) := ⟨fun a h1 h2 h3 => by rw [xs_ne h1]; exact h.1 a h1 h2 h3, fun k h1 h2 => by rw [xs_ne (by decide)]; exact h.2 k h1 h2⟩
theorem oh_214 {τ : xS} {p : List Nat} {h : Nat} (ho : oh τ p) : oh (xs τ 214 p.length (h : Int)) (p ++ [h]) := by
  intro i hi
  rw [List.length_append] at hi
  have hi : i < p.length + 1 := hi
  rw [xs_at, xup_at, getD_app]
  by_cases e : i = p.length
  · rw [if_pos e, if_neg (by omega), e, Nat.sub_self]
    rfl
  · rw [if_neg e, if_pos (by omega)]
    exact ho i (by omega)
theorem oh_pre {τ : xS} {p q : List Nat} (ho : oh τ (p ++ q)) : oh τ p := by
  intro i hi
  rw [ho i (by rw [List.length_append]; omega), getD_app, if_pos hi]
theorem hb_214 {τ : xS} {k : Nat} {v : Int} {b : (Int × Int) × List Nat} (h : hb τ b) : hb (xs τ 214 k v) b :=
  ⟨by rw [xs_ne (by decide)]; exact h.1, by rw [xs_ne (by decide)]; exact h.2.1, h.2.2.1, fun i hi => by rw [xs_ne (by decide)]; exact h.2.2.2 i hi⟩
theorem map_one {p : List Nat} {h : Nat} {L : List (List Nat)} : (L.map (h :: ·)).map (p ++ ·) = L.map ((p ++ [h]) ++ ·) := by
  rw [List.map_map]
  congr 1
  funext q
  show p ++ h :: q = (p ++ [h]) ++ q
  rw [List.append_assoc]
  rfl
theorem H_visit (hH : ho_J σ.1) {t0 : Int} (ht0 : 0 ≤ t0 ∧ t0 ≤ 1440) : ∀ (r : Nat) (rest p : List Nat) (v : Int) (τ : xS) (b : (Int × Int) × List Nat), rest.length = r → asc rest → (∀ x ∈ p ++ rest, (x : Int) < σ.1 305 11) → p.length + r ≤ 8 → bok v rest → hf σ τ → oh τ p → hb τ b → 2 * r ≤ xdp τ →
    ∃ τ', X iHouses_visitRest 0 [(2, 209), (0, (p.length : Int)), (0, v), (0, t0), (0, (ro_p σ.1 t0 p).1.1), (0, (ro_p σ.1 t0 p).1.2), (9, 0)] [] τ = some ((9, 0), τ') ∧ τ'.2 = τ.2 ∧ hf σ τ' ∧ oh τ' p ∧ hb τ' (bst (ro_f σ.1 t0) b ((ps r rest).map (p ++ ·))) := by
  have h11 := hH.2.1
  intro r
  induction r with
  | zero =>
    intro rest p v τ b hr ha hN h8 hv hτ ho hbt _
    have hrest : rest = [] := List.length_eq_zero_iff.mp hr
    subst hrest
    rw [List.append_nil] at hN
    obtain ⟨i1, i2, i3, i4⟩ := ro_le hH (t0 := t0) hN
    have hv0 : v = 0 := (bok_nil hv fun x h => absurd h List.not_mem_nil).mpr rfl
    have e0 : bst (ro_f σ.1 t0) b ((ps 0 []).map (p ++ ·)) = if btr (ro_f σ.1 t0 p) b.1 then (ro_f σ.1 t0 p, p) else b := by
      show bst (ro_f σ.1 t0) b [p ++ []] = _
      rw [List.append_nil]
      rfl
    rw [e0]
    have cut := ro_cut hH (t0 := t0) (p := p) (r := []) (by rw [List.append_nil]; exact hN)
    rw [List.append_nil] at cut
    obtain ⟨τ', g1, g2, g3, g4, g5⟩ := H_goBack hH ht0 hN (by omega) hτ ho hbt
    rw [qHouses_visitRest_0, hbt.1, hbt.2.1, xw_id (by omega) (by omega), if_pos hv0, g1]
    simp only [Option.bind_some, qHouses_visitRest_28]
    by_cases c1 : (ro_p σ.1 t0 p).1.2 < b.1.1
    · rw [if_pos c1]
      exact ⟨τ', rfl, g2, g3, g4, g5⟩
    · rw [if_neg c1]
      by_cases c2 : (ro_p σ.1 t0 p).1.2 = b.1.1 ∧ (ro_p σ.1 t0 p).1.1 - t0 < b.1.2
      · rw [if_pos c2.1, if_pos c2.2]
        exact ⟨τ', rfl, g2, g3, g4, g5⟩
      · have hn : ¬ btr (ro_f σ.1 t0 p) b.1 := btr_tr cut fun q => q.elim c1 c2
        rw [if_neg hn]
        refine ⟨τ, ?_, rfl, hτ, ho, hbt⟩
        refine xite (fun h1 => xite (fun h2 => absurd ⟨h1, h2⟩ c2) fun _ => rfl) fun _ => rfl
  | succ n ih =>
    intro rest p v τ b hr ha hN h8 hv hτ ho hbt hdp
    have hpN : ∀ x ∈ p, (x : Int) < σ.1 305 11 := fun x hx => hN x (List.mem_append_left _ hx)
    have hrN : ∀ x ∈ rest, (x : Int) < σ.1 305 11 := fun x hx => hN x (List.mem_append_right _ hx)
    obtain ⟨i1, i2, i3, i4⟩ := ro_le hH (t0 := t0) hpN
    have hv0 : ¬ v = 0 := fun q => by
      have := (bok_nil hv fun x hx => by have := hrN x hx; omega).mp q
      rw [this] at hr
      cases hr
    -- the houses in turn
    have loop : ∀ (u h : Nat) (A B : List Nat) (τ1 : xS), (h : Int) + u = σ.1 305 11 → rest = A ++ B → (∀ a ∈ A, a < h) → (∀ x ∈ B, h ≤ x) → τ1.2 = τ.2 → hf σ τ1 → oh τ1 p → hb τ1 (bst (ro_f σ.1 t0) b ((A.flatMap fun x => (ps n (rest.erase x)).map (x :: ·)).map (p ++ ·))) →
        ∃ τ', X iHouses_visitRest 32 [(2, 209), (0, (p.length : Int)), (0, v), (0, t0), (0, (ro_p σ.1 t0 p).1.1), (0, (ro_p σ.1 t0 p).1.2), (0, (h : Int))] [] τ1 = some ((9, 0), τ') ∧ τ'.2 = τ.2 ∧ hf σ τ' ∧ oh τ' p ∧ hb τ' (bst (ro_f σ.1 t0) b ((ps (n + 1) rest).map (p ++ ·))) := by
      intro u
      induction u with
      | zero =>
        intro h A B τ1 hh hAB hA hB h2 hτ1 ho1 hb1
        have hBn : B = [] := List.eq_nil_iff_forall_not_mem.mpr fun x hx => by
          have := hB x hx
          have := hrN x (by rw [hAB]; exact List.mem_append_right _ hx)
          omega
        subst hBn
        rw [List.append_nil] at hAB
        subst hAB
        rw [qHouses_visitRest_32, if_neg (by rw [hτ1.2 4 (by decide) (by decide), hH.1.2.2.2.2]; omega)]
        exact ⟨τ1, rfl, h2, hτ1, ho1, hb1⟩
      | succ u ihu =>
        intro h A B τ1 hh hAB hA hB h2 hτ1 ho1 hb1
        have hh8 : h < 8 := by omega
        rw [qHouses_visitRest_32, if_pos (by rw [hτ1.2 4 (by decide) (by decide), hH.1.2.2.2.2]; omega)]
        have skip : h ∉ rest → ∃ τ', X iHouses_visitRest 69 [(2, 209), (0, (p.length : Int)), (0, v), (0, t0), (0, (ro_p σ.1 t0 p).1.1), (0, (ro_p σ.1 t0 p).1.2), (0, (h : Int))] [] τ1 = some ((9, 0), τ') ∧ τ'.2 = τ.2 ∧ hf σ τ' ∧ oh τ' p ∧ hb τ' (bst (ro_f σ.1 t0) b ((ps (n + 1) rest).map (p ++ ·))) := by
          intro hno
          rw [qHouses_visitRest_69, xw_s (by omega)]
          refine ihu (h + 1) A B τ1 (by omega) hAB (fun a q => Nat.lt_succ_of_lt (hA a q)) (fun x q => ?_) h2 hτ1 ho1 hb1
          have h1 := hB x q
          have : x ≠ h := fun e => hno (by rw [hAB, ← e]; exact List.mem_append_right _ q)
          omega
        by_cases hin : h ∈ rest
        · have hbz : ¬ bz v h := fun q => (hv.2 h hh8).mp q hin
          have hB' : ∃ B', B = h :: B' := by
            rw [hAB] at hin
            rcases List.mem_append.mp hin with q | q
            · exact absurd (hA h q) (Nat.lt_irrefl h)
            · cases B with
              | nil => exact absurd q List.not_mem_nil
              | cons y B' =>
                refine ⟨B', ?_⟩
                rcases List.mem_cons.mp q with e | q2
                · rw [e]
                · have e1 := hB y List.mem_cons_self
                  rw [hAB] at ha
                  have e2 := (asc_app.mp ha).2.1.1 h q2
                  omega
          obtain ⟨B', rfl⟩ := hB'
          have he : rest.erase h = A ++ B' := by rw [hAB]; exact asc_erase (by rw [← hAB]; exact ha)
          have hxk : xin (p.length : Int) 8 := ⟨by omega, by omega⟩
          have hd1 : 0 < xdp (xs τ1 214 p.length (h : Int)) := by
            show 0 < τ1.2.2.2.1
            rw [h2]
            show 0 < xdp τ
            omega
          have hxd : xdp (xs τ1 214 p.length (h : Int)) = xdp τ := by
            show τ1.2.2.2.1 = τ.2.2.2.1
            rw [h2]
          have hhN := hrN h hin
          have hN2 : ∀ x ∈ (p ++ [h]) ++ (A ++ B'), (x : Int) < σ.1 305 11 := by
            intro x hx
            rcases List.mem_append.mp hx with q | q
            · rcases List.mem_append.mp q with q | q
              · exact hpN x q
              · rw [List.mem_singleton.mp q]; exact hhN
            · refine hrN x ?_
              rw [hAB]
              rcases List.mem_append.mp q with q | q
              · exact List.mem_append_left _ q
              · exact List.mem_append_right _ (List.mem_cons_of_mem _ q)
          have hlen2 : (A ++ B').length = n := by
            have := hr
            rw [hAB, List.length_append, List.length_cons] at this
            rw [List.length_append]; omega
          obtain ⟨τ2, g1, g2, g3, g4, g5⟩ := ih (A ++ B') (p ++ [h]) (xiand v (xixor (xshl 1 (h : Int)) (-1))) (xsetdp (xsetdp (xs τ1 214 p.length (h : Int)) (xdp τ - 1)) (xdp τ - 1 - 1)) _ hlen2 (asc_mid (by rw [← hAB]; exact ha)) hN2 (by rw [List.length_append]; show p.length + 1 + n ≤ 8; omega) (bok_rm (by rw [← hAB]; exact hv) (by rw [← hAB]; exact ha) hh8) (show hf σ (xs τ1 214 p.length (h : Int)) from hf_214 hτ1) (show oh (xs τ1 214 p.length (h : Int)) (p ++ [h]) from oh_214 ho1) (show hb (xs τ1 214 p.length (h : Int)) _ from hb_214 hb1) (by rw [setdp_dp]; omega)
          have nx := H_next hH ht0 hpN hhN (v := v) (by omega) (τ := xsetdp (xs τ1 214 p.length (h : Int)) (xdp τ - 1)) (show hf σ (xs τ1 214 p.length (h : Int)) from hf_214 hτ1) (show oh (xs τ1 214 p.length (h : Int)) (p ++ [h]) from oh_214 ho1) (by rw [setdp_dp]; omega) g1
          rw [if_neg hbz, if_pos hxk, Int.toNat_natCast, nbeq0 hd1, cond_false, hxd, nx]
          simp only [Option.bind_some]
          rw [qHouses_visitRest_69, xw_s (by omega)]
          refine ihu (h + 1) (A ++ [h]) B' _ (by omega) (by rw [hAB]; simp) (fun a q => ?_) (fun x q => ?_) ?_ (hf_setdp (hf_setdp g3)) (oh_pre g4) ?_
          · rcases List.mem_append.mp q with q | q
            · exact Nat.lt_succ_of_lt (hA a q)
            · rw [List.mem_singleton.mp q]; exact Nat.lt_succ_self h
          · rw [hAB] at ha
            exact (asc_app.mp ha).2.1.1 x q
          · have e1 : τ2.2.1 = τ.2.1 := by rw [g2, ← h2]; rfl
            have e2 : τ2.2.2.1 = τ.2.2.1 := by rw [g2, ← h2]; rfl
            have e3 : τ2.2.2.2.2 = τ.2.2.2.2 := by rw [g2, ← h2]; rfl
            show (τ2.2.1, τ2.2.2.1, xdp τ, τ2.2.2.2.2) = τ.2
            rw [e1, e2, e3]
            rfl
          · rw [List.flatMap_append, List.map_append, bst_app, List.flatMap_cons, List.flatMap_nil, List.append_nil, he, map_one]
            exact g5
        · have hbz : bz v h := (hv.2 h hh8).mpr hin
          rw [if_pos hbz]
          exact skip hin
    have h32 := loop (σ.1 305 11).toNat 0 [] rest τ (by omega) rfl (fun a q => absurd q List.not_mem_nil) (fun x _ => Nat.zero_le x) rfl hτ ho hbt
    have h32 : ∃ τ', X iHouses_visitRest 32 [(2, 209), (0, (p.length : Int)), (0, v), (0, t0), (0, (ro_p σ.1 t0 p).1.1), (0, (ro_p σ.1 t0 p).1.2), (0, 0)] [] τ = some ((9, 0), τ') ∧ τ'.2 = τ.2 ∧ hf σ τ' ∧ oh τ' p ∧ hb τ' (bst (ro_f σ.1 t0) b ((ps (n + 1) rest).map (p ++ ·))) := h32
    rw [qHouses_visitRest_0, hbt.1, hbt.2.1, xw_id (by omega) (by omega), if_neg hv0]
    by_cases c1 : (ro_p σ.1 t0 p).1.2 < b.1.1
    · rw [if_pos c1]
      exact h32
    · rw [if_neg c1]
      by_cases c2 : (ro_p σ.1 t0 p).1.2 = b.1.1 ∧ (ro_p σ.1 t0 p).1.1 - t0 < b.1.2
      · rw [if_pos c2.1, if_pos c2.2]
        exact h32
      · refine ⟨τ, ?_, rfl, hτ, ho, ?_⟩
        · refine xite (fun h1 => xite (fun h2 => absurd ⟨h1, h2⟩ c2) fun _ => rfl) fun _ => rfl
        · rw [bst_no fun q hq => ?_]
          · exact hbt
          · obtain ⟨y, hy, rfl⟩ := List.mem_map.mp hq
            have hm := ps_mem hr (asc_nodup ha) hy
            exact btr_tr (ro_cut hH (t0 := t0) (p := p) (r := y) fun x hx => by
              rcases List.mem_append.mp hx with q | q
              · exact hpN x q
              · exact hrN x (hm.2.1 x q)) fun q => q.elim c1 c2
end ROUNDV

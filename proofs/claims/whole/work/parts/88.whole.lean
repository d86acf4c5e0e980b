/-! THE LAW, FROM ITS ENTRY -/
set_option maxRecDepth 100000 in
theorem y_law : yM iL_law = (yL_law, code, 4, some .boolean, 15) := yM_at rfl
/-- what holds at pc 18 -/
def yk18 (L : Nat) (Xs : Nat → Int) (ls st : List xAV) (σ : xS) : Prop := ls = [(2, 1), (2, 200), (2, 305), (0, ((0 : Nat) : Int))] ∧ st = [] ∧ σ = s02 L Xs
set_option maxRecDepth 1000000 in
set_option maxHeartbeats 40000000 in
theorem y_first (L : Nat) (Xs : Nat → Int) : xgo xE0 xFk xPg 18 iL_law (yk18 L Xs) 20 0 [(2, 1), (9, 0), (9, 0), (9, 0)] [] (s00 L Xs) :=
  ⟨(9, 0), s01 L Xs, ⟨[(2, 200)], rfl, q1_C L Xs⟩, (9, 0), s02 L Xs, ⟨[(2, 305)], rfl, q1_M L Xs⟩, rfl, rfl, rfl⟩
set_option maxRecDepth 100000 in
/-- from the entry, for every script of at most 3072 ints, the law comes to its end with true -/
theorem whole_start {p : Program} {e : Env} {s : State} {m : MethodId} {below : List Frame} {meth : Method} {c : Code} (l : Launch) (hflags : l.flags = flags0) {b L : Nat} {xs : Nat → Int32} (hL : L ≤ 3072) (C0 : lw_At p s m meth c b L xs) : W p l e room_1 s m #[Value.ref b] below meth c s.heap [] 0 0 (lw_Z below #[Value.ref b] s) (entryFrame m ([Value.ref b] : List Value).toArray 4) := by
  obtain ⟨hx, hb, hr, hml, hown, hts, hX, hbl, hlocks, hgv⟩ := C0
  have hN : ∀ w ∈ nwL, w.before #[Value.ref b] s = true := flat_of_before _ hgv
  have hT := yAll_hts hts
  obtain ⟨oq, hC⟩ := yC_0 hN hT hL hX hbl
  obtain ⟨D, cA, hK⟩ := yK_0 hT
  have hoq : oq.category = 1 := yoq_cat (yC_oq hC)
  have hW : ∀ w ∈ yWL, w.before #[Value.ref b] s = true := fun w hw => hT w (List.mem_filter.mp hw).1
  have hini : (yM iL_law).1.name = "<init>" → meth.name = "<init>" := fun q => by
    rw [y_law] at q
    exact absurd (show ("law" : String) = "<init>" from q) (by decide)
  have hCx0 : yCx p s m #[Value.ref b] meth c s.heap.size (acO s b) oq D cA xE0 L (fun j => (xs j).toInt) yWL (yM iL_law) := ⟨hx, by rw [y_law]; exact hb, by rw [y_law]; exact hml, hW, by rw [y_law]; exact hown, hini, hK, hC, Nat.le_refl _⟩
  have hCx1 : yCx p s m #[Value.ref b] meth c s.heap.size (acO s b) oq D cA xE1 L (fun j => (xs j).toInt) yWL (yM iL_law) := ⟨hx, by rw [y_law]; exact hb, by rw [y_law]; exact hml, hW, by rw [y_law]; exact hown, hini, hK, yC_E1 hC, Nat.le_refl _⟩
  obtain ⟨τ, hτ, ⟨L1, hL1, hL2⟩, hsl⟩ := LAW (σ := (m0, [], 74259, 1300, L, fun j => (xs j).toInt)) (i := 0) hL (fun j => y_toR (xs j)) (Nat.le_of_ble_eq_true rfl) JJ_0 512 (by show L ≤ 0 + 6 * 512 + 5; omega) (Nat.zero_le _)
  obtain ⟨n, hrun⟩ := xEx_iff.mp hτ
  have hcells : xnew xE1 τ ≤ 392 + 307200 := by
    show 392 + τ.2.1.length ≤ _
    rw [hL1]
    show 392 + ([] ++ L1).length ≤ _
    rw [List.nil_append]
    omega
  have hslots : xsl τ ≤ 74259 + 6144000 := hsl
  have hfr : (1300 + (yM iL_law).2.2.2.2 + 1 ≤ room_1.frames ∧ (1300 + (yM iL_law).2.2.2.2 + 1) * 60 ≤ room_1.locals) := by
    rw [y_law]
    exact ⟨Nat.le_of_ble_eq_true rfl, Nat.le_of_ble_eq_true rfl⟩
  have hfr0 : ∀ d : Nat, d = 1300 → (d + (yM iL_law).2.2.2.2 + 1 ≤ room_1.frames ∧ (d + (yM iL_law).2.2.2.2 + 1) * 60 ≤ room_1.locals) := fun d hd => by rw [hd]; exact hfr
  have hRET : yRET s.heap.size (acO s b) oq D cA xE1 xFk L (fun j => (xs j).toInt) p l e room_1 s m #[Value.ref b] below meth c (lw_Z below #[Value.ref b] s) 200 0 (yM iL_law) (0, 1) τ := by
    intro pc' H locs rs hdg hvv hH
    rw [y_law] at hdg ⊢
    have e5 : ycv s.heap.size (acO s b) oq (0, 1) = .int 1 := by
      show Value.int (Int32.ofInt 1) = .int 1
      rw [show Int32.ofInt 1 = (1 : Int32) by decide]
    show W p l e room_1 s m #[Value.ref b] below meth c H locs (xnew xE1 τ - 200) (xsl τ - 0) (lw_Z below #[Value.ref b] s) (F0 m pc' rs [ycv s.heap.size (acO s b) oq (0, 1)])
    rw [e5]
    refine va_forget (fun q hq => hH.2.2.2.2.2.2 q hq) ?_
    refine W.widen (k := 600000) (n := 7302250) (by omega) (by omega) ?_
    exact lw_ret hx hb hr hlocks hdg
  have h18 : ∀ ls st σ, yk18 L (fun j => (xs j).toInt) ls st σ → yK s.heap.size (acO s b) oq D cA xE0 xFk L (fun j => (xs j).toInt) p l e room_1 s m #[Value.ref b] below meth c (lw_Z below #[Value.ref b] s) (yM iL_law).2.2.1 200 0 18 ls st σ := by
    rintro ls st σ ⟨rfl, rfl, rfl⟩
    have hn2 : xnew xE0 (s02 L fun j => (xs j).toInt) = 392 := y_swn.2
    refine ⟨⟨by rw [hn2]; exact Nat.le_of_ble_eq_true rfl, by show 74259 - 0 ≤ 7302250; exact Nat.le_of_ble_eq_true rfl⟩, fun hk hn hv H locs rs hLs hH => ?_⟩
    have key := y_frames yTb_1 yCk_ok yCm_ok n iL_law 18 _ _ _ _ _ hrun p e room_1 s m #[Value.ref b] below meth c (lw_Z below #[Value.ref b] s) 200 0 H locs rs hCx1 (hfr0 _ rfl) ⟨by show xnew xE1 τ - 200 ≤ 600000; omega, by show xsl τ - 0 ≤ 7302250; omega⟩ ⟨by show 200 ≤ 392; exact Nat.le_of_ble_eq_true rfl, Nat.zero_le _⟩ hn hv hLs (y_sw hH) hRET
    have e1 : xnew xE0 (s02 L fun j => (xs j).toInt) - 200 = xnew xE1 (m0, [], 74259, 1300, L, fun j => (xs j).toInt) - 200 := by rw [hn2]; rfl
    rw [e1]
    exact key
  have hf := y_first L (fun j => (xs j).toInt)
  have hK0 := y_go (mi := iL_law) (stop := 18) (K := yk18 L fun j => (xs j).toInt) yTb_0 yCk_ok yCm_ok (l := l) (e := e) (R := room_1) (below := below) (Q := lw_Z below #[Value.ref b] s) (k0 := 200) (n0 := 0) hCx0 h18 20 0 [(2, 1), (9, 0), (9, 0), (9, 0)] [] (s00 L fun j => (xs j).toInt) (hfr0 _ rfl) hf
  have e1 : ([(2, 1)] : List xAV).map (ycv s.heap.size (acO s b) oq) = [Value.ref b] := by
    show [ycv s.heap.size (acO s b) oq (2, 1)] = _
    rw [ycv_ac (by decide) (by decide)]
    show [Value.ref (acO s b 1)] = _
    rw [acO_ref (t := b) (a := 1) rfl]
  have he := y_entry (b := s.heap.size) (ac := acO s b) (oq := oq) (n := 4) (as := [(2, 1)]) (ls0 := [(2, 1), (9, 0), (9, 0), (9, 0)]) hoq (fun w hw => by rw [List.mem_singleton.mp hw]; exact ⟨show (0 : Int) ≤ 1 by decide, show 2 ≤ 3 by decide⟩) rfl
  rw [e1] at he
  rw [lg_entry_eq]
  have e0 : xnew xE0 (s00 L fun j => (xs j).toInt) = 200 := rfl
  have ew : yws s.heap.size (acO s b) cA xE0 xFk (s00 L fun j => (xs j).toInt) = [] := by
    unfold yws
    rw [e0]
    rfl
  have hH0 : yHp s.heap.size (acO s b) D cA xE0 xFk L (fun j => (xs j).toInt) s (s00 L fun j => (xs j).toInt) s.heap [] := by
    refine ⟨fun k q h => ?_, by rw [e0]; rfl, fun a h1 h2 => ?_, ⟨rfl, rfl⟩, va_S.rf⟩
    · rw [ew] at h
      simp at h
    · rw [e0] at h2
      exact absurd (Nat.lt_of_lt_of_le h2 h1) (Nat.lt_irrefl _)
  have hfin := hK0.2 ⟨Nat.le_refl _, Nat.le_refl _⟩ (by rw [y_law]; rfl) (fun w hw => absurd hw List.not_mem_nil) s.heap [] _ he.2 hH0
  rw [e0] at hfin
  exact hfin

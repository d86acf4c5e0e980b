/-! a StringBuilder that grows -/
section GRW
variable {σ0 σ τ υ : xS} {l : List Nat}
theorem xshl_0 {x : Int} (h : -2147483648 ≤ x ∧ x < 2147483648) : xshl x 0 = x := by
  show (Int32.ofInt x <<< (0 : Int32)).toInt = x
  rw [Int32.shiftLeft_zero, Int32.toInt_ofInt_of_le (by omega) (by omega)]
/-- new cells at the end alone, the old ones stand -/
def ext (σ0 σ : xS) : Prop := (∃ L, σ.2.1 = σ0.2.1 ++ L) ∧ ∀ x, x < nn σ0 → σ.1 x = σ0.1 x
theorem ext_rf : ext σ0 σ0 := ⟨⟨[], (List.append_nil _).symm⟩, fun _ _ => rfl⟩
theorem ext_ty (h : ext σ0 σ) {a : Nat} {p : Nat × Nat} (ha : xnth σ0.2.1 (a - 392) = some p) : xnth σ.2.1 (a - 392) = some p := by
  obtain ⟨⟨L, hL⟩, _⟩ := h
  rw [hL]
  exact xnth_apl L ha
/-- what a builder made behind σ0 holds, its letters' cell and room -/
def bsv (σ0 σ : xS) (l : List Nat) (v cap : Nat) : Prop := sbd σ.1 σ.2.1 (nn σ0) v cap l ∧ (∀ c ∈ l, c < 128) ∧ nn σ0 < v ∧ (∃ (k : Nat) (L : List (Nat × Nat)), σ.2.1 = σ0.2.1 ++ L ∧ L.length = 2 + k ∧ 16 * 2 ^ k ≤ cap) ∧ cap ≤ 2800 ∧ σ.2.2.1 ≤ σ0.2.2.1 + 4 + 2 * cap ∧ σ.2.2.2.2 = σ0.2.2.2.2 ∧ ∀ x, x < nn σ0 → σ.1 x = σ0.1 x
def bs (σ0 σ : xS) (l : List Nat) : Prop := ∃ v cap, bsv σ0 σ l v cap
theorem bsv_ext {v cap : Nat} (h : bsv σ0 σ l v cap) : ext σ0 σ := by
  obtain ⟨_, _, _, ⟨k, L, hL, _⟩, _, _, _, h8⟩ := h
  exact ⟨⟨L, hL⟩, h8⟩
theorem bs_ext (h : bs σ0 σ l) : ext σ0 σ := by
  obtain ⟨v, cap, h⟩ := h
  exact bsv_ext h
theorem bs_dp (h : bs σ0 σ l) (d : Nat) : bs σ0 (xsetdp σ d) l := h
theorem bs_lt (h : bs σ0 σ l) : ∀ c ∈ l, c < 128 := by
  obtain ⟨v, cap, h⟩ := h
  exact h.2.1
theorem bs_len (h : bs σ0 σ l) : l.length ≤ 2800 := by
  obtain ⟨v, cap, h⟩ := h
  have := h.1.2.2.2.1
  have := h.2.2.2.2.1
  omega
theorem bs_b (h : bs σ0 σ l) : xisO xE1 σ ((nn σ0 : Nat) : Int) 1 = true := by
  obtain ⟨v, cap, h⟩ := h
  exact xisO_new h.1.1.1 h.1.1.2
theorem xmm0 (x y : Int) : xmm 0 x y = if x < y then y else x := rfl
theorem xmm1 (x y : Int) : xmm 1 x y = if y < x then y else x := rfl
theorem C_copyOf {v cap k : Nat} (h6 : 392 ≤ v) (h7 : xnth σ.2.1 (v - 392) = some (102, cap)) (hk : cap < k) (hc : k ≤ 50000) : X iJR_copyOf 0 [(2, (v : Int)), (0, (k : Int)), (9, 0)] [] σ = some ((2, ((nn σ : Nat) : Int)), xcopy xE1 (xal xE1 σ 102 k) v 0 (nn σ) 0 cap) := by
  have hvn := ty_lt h6 h7
  have e3 : xmm 1 (cap : Int) (k : Int) = (cap : Int) := by rw [xmm1, if_neg (by omega)]
  have h8 : xnth (xal xE1 σ 102 k).2.1 (v - 392) = some (102, cap) := xal_to h7
  have h9 : xnth (xal xE1 σ 102 k).2.1 (nn σ - 392) = some (102, k) := xal_ty
  have gn := nn_ge (σ := σ)
  have c1 : Nat.ble xNC (nn σ) = true := Nat.ble_eq_true_of_le (Nat.le_trans (by decide) gn)
  rw [qJR_copyOf_0, xlen_new (t := 2) h6 h7 (by decide), xob_some, if_neg (by omega), if_pos (by omega), Int.toNat_natCast, xlen_new (t := 2) h6 h8 (by decide), xob_some, xarr_new (t := 2) h6 h8, xob_some, nnx, xarr_new (t := 2) gn h9, xob_some, e3, if_pos (by omega), Int.toNat_natCast, c1, Int.toNat_natCast, beq_ff (by omega)]
  rfl
/-- room for n letters -/
theorem C_room {v cap n : Nat} (h : bsv σ0 σ l v cap) (hn : n ≤ 1400) : ∃ (τ : xS) (v' cap' : Nat), X iJA_ensureCapacityInternal 0 [(2, ((nn σ0 : Nat) : Int)), (0, (n : Int)), (9, 0)] [] σ = some ((9, 0), τ) ∧ bsv σ0 τ l v' cap' ∧ n ≤ cap' ∧ xdp τ = xdp σ := by
  by_cases hc : n ≤ cap
  · exact ⟨σ, v, cap, sb_room h.1 hc, h, hc, rfl⟩
  have h' := h
  obtain ⟨⟨⟨h1, h2⟩, ⟨h3, h4, h5⟩, ⟨h6, h7⟩, ⟨h8, h9⟩, h10⟩, hb, hv, ⟨k, L, hL1, hL2, hL3⟩, hcap, hsl, hX, hold⟩ := h
  have gn := nn_ge (σ := σ)
  have hvn := ty_lt h6 h7
  have han := ty_lt h1 h2
  obtain ⟨N, hN, hN1, hN2, hN3⟩ : ∃ N : Nat, (N : Int) = (cap : Int) + xmm 0 ((n : Int) - cap) ((cap : Int) + 2) ∧ n ≤ N ∧ 2 * cap + 2 ≤ N ∧ N ≤ 2800 := by
    rw [xmm0]
    by_cases q : (n : Int) - cap < (cap : Int) + 2
    · rw [if_pos q]; exact ⟨2 * cap + 2, by omega, by omega, by omega, by omega⟩
    · rw [if_neg q]; exact ⟨n, by omega, by omega, by omega, by omega⟩
  have eL : X iJX_newLength 0 [(0, (cap : Int)), (0, (n : Int) - cap), (0, (cap : Int) + 2), (9, 0)] [] σ = some ((0, (N : Int)), σ) := by
    rw [qJX_newLength_0, ← hN, xw_id (by omega) (by omega), if_pos (by omega), if_neg (by omega)]
  have eN : X iJA_newCapacity 0 [(2, ((nn σ0 : Nat) : Int)), (0, (n : Int)), (9, 0), (9, 0), (9, 0), (9, 0)] [] σ = some ((0, (N : Int)), σ) := by
    rw [qJA_newCapacity_0, xfld_new 0 h1 h2, xob_some, h3, xlen_new (t := 2) h6 h7 (by decide), xob_some, xfld_new 1 h1 h2, xob_some, xob_some, h4, show xna 2 0 = 0 from rfl, xshl_0 (by omega), xshl_0 (by decide), xw_id (x := (n : Int) - cap) (by omega) (by omega), xw_id (x := (cap : Int) + 2) (by omega) (by omega), eL, Option.bind_some, qJA_newCapacity_32, if_neg (by omega), xfld_new 1 h1 h2, xob_some, h4, show xna 2 0 = 0 from rfl, xshr_0 (by omega)]
  have eC := C_copyOf (σ := σ) (k := N) h6 h7 (by omega) (by omega)
  generalize hυ : xcopy xE1 (xal xE1 σ 102 N) v 0 (nn σ) 0 cap = υ at eC
  have u2 : υ.2.1 = σ.2.1 ++ [(102, N)] := by rw [← hυ]; rfl
  have us : υ.2.2.1 = σ.2.2.1 + N := by rw [← hυ]; rfl
  have uX : υ.2.2.2 = σ.2.2.2 := by rw [← hυ]; rfl
  have ua : xnth υ.2.1 (nn σ0 - 392) = some (1, 4) := by rw [u2]; exact xnth_ap h2
  have un : xnth υ.2.1 (nn σ - 392) = some (102, N) := by
    rw [← hυ]
    exact xal_ty (σ := σ)
  have em : ∀ x, x ≠ nn σ → υ.1 x = σ.1 x := fun x hx => by rw [← hυ, xcp_ne hx, xal_ne hx]
  have iu : xisO xE1 υ ((nn σ0 : Nat) : Int) 1 = true := xisO_new h1 ua
  have ens : X iJA_ensureCapacityInternal 0 [(2, ((nn σ0 : Nat) : Int)), (0, (n : Int)), (9, 0)] [] σ = some ((9, 0), xs υ (nn σ0) 0 ((nn σ : Nat) : Int)) := by
    rw [qJA_ensureCapacityInternal_0, xfld_new 0 h1 h2, xob_some, h3, xlen_new (t := 2) h6 h7 (by decide), xob_some, xfld_new 1 h1 h2, xob_some, h4, show xna 2 0 = 0 from rfl, xshr_0 (by omega), xw_id (by omega) (by omega), if_pos (by omega), xob_some, xisO_new h1 h2, cnd_t, eN, Option.bind_some, qJA_ensureCapacityInternal_27, xfld_new 1 h1 h2, xob_some, h4, show xna 2 0 = 0 from rfl, xshl_0 (by omega), eC, Option.bind_some, qJA_ensureCapacityInternal_35, iu, cnd_t, xwr_new h1, xob_some]
  refine ⟨_, nn σ, N, ens, ⟨⟨⟨h1, ua⟩, ⟨?_, ?_, ?_⟩, ⟨gn, un⟩, ⟨by omega, by omega⟩, fun i hi => ?_⟩, hb, han, ⟨k + 1, L ++ [(102, N)], by show υ.2.1 = _; rw [u2, hL1, List.append_assoc], by rw [List.length_append, hL2]; rfl, by rw [Nat.pow_succ]; omega⟩, hN3, ?_, ?_, fun x hx => ?_⟩, hN1, ?_⟩
  · rw [xs_at, xup_eq]
  · rw [xs_at, xup_ne (by decide), em _ (by omega)]; exact h4
  · rw [xs_at, xup_ne (by decide), em _ (by omega)]; exact h5
  · rw [xs_ne (by omega), ← hυ, xcp_at h6, if_pos (by omega), xal_ne (by omega)]
    exact h10 i hi
  · show υ.2.2.1 ≤ _
    rw [us]; omega
  · show υ.2.2.2.2 = _
    rw [uX]; exact hX
  · rw [xs_ne (by omega), em x (by omega)]; exact hold x hx
  · show υ.2.2.2.1 = σ.2.2.2.1
    rw [uX]
theorem bsv_put {v cap c : Nat} (h : bsv σ0 σ l v cap) (hc : c < 128) (hl : l.length < cap) : bsv σ0 (xs (xs σ (nn σ0) 3 ((l.length + 1 : Nat) : Int)) v l.length (c : Int)) (l ++ [c]) v cap := by
  obtain ⟨g1, hb, hv, g4, g5, g6, g7, hold⟩ := h
  refine ⟨sb_put g1 hl, fun d hd => ?_, hv, g4, g5, g6, g7, fun x hx => by rw [xs_ne (by omega), xs_ne (by omega)]; exact hold x hx⟩
  rcases List.mem_append.mp hd with q | q
  · exact hb d q
  · rw [List.mem_singleton.mp q]; exact hc
/-- a letter more -/
theorem C_chr {c : Nat} (h : bs σ0 σ l) (hc : c < 128) (hl : l.length < 1400) : ∃ τ, X iJB_append1 0 [(2, ((nn σ0 : Nat) : Int)), (0, (c : Int))] [] σ = some ((2, ((nn σ0 : Nat) : Int)), τ) ∧ bs σ0 τ (l ++ [c]) ∧ xdp τ = xdp σ := by
  obtain ⟨v, cap, h⟩ := h
  obtain ⟨τ, v', cap', r1, r2, r3, r4⟩ := C_room (n := l.length + 1) h (by omega)
  refine ⟨_, ?_, ⟨v', cap', bsv_put r2 hc r3⟩, r4⟩
  obtain ⟨⟨⟨h1, h2⟩, ⟨h3, h4, h5⟩, _, _⟩, _⟩ := h
  obtain ⟨⟨⟨k1, k2⟩, ⟨k3, k4, k5⟩, ⟨k6, k7⟩, ⟨k8, k9⟩, k10⟩, _⟩ := r2
  have i1 := xisO_new h1 h2
  have i2 := xisO_new k1 k2
  rw [qJB_append1_0, i1, cnd_t, qJA_append1_0, xfld_new 3 h1 h2, xob_some, i1, cnd_t, h5, xw_T (by omega), r1, Option.bind_some, qJA_append1_10, i2, cnd_t, xfld_new 1 k1 k2, xob_some, k4, if_pos (show xna 2 0 = 0 from rfl), if_neg (by omega), xfld_new 0 k1 k2, xob_some, xfld_new 3 k1 k2, xob_some, cnd_t, k5, xw_T (by omega), xwr_new k1, xob_some, k3, xarr_new (t := 2) k6 (σ := xs τ (nn σ0) 3 ((l.length + 1 : Nat) : Int)) k7, xob_some, if_pos (xin_of (by omega) (by omega)), xwr_new k6, xob_some, Option.bind_some, qJB_append1_5, xna2_c c hc, xna2_c c hc, Int.toNat_natCast]
/-- a text that stands in σ0 -/
def strx (σ0 : xS) (x : Int) (w : List Nat) : Prop := x ≠ 0 ∧ w.length ≤ 8 ∧ (∀ c ∈ w, c < 128) ∧ ∀ υ : xS, ext σ0 υ → ∃ v : Int, v.toNat < nn σ0 ∧ xisO xE1 υ x 0 = true ∧ xfld xE1 υ x 0 0 = some v ∧ xlen xE1 υ v = some w.length ∧ xarr xE1 υ v 2 = some w.length ∧ xfld xE1 υ x 0 1 = some 0 ∧ ∀ i, i < w.length → xag xE1 υ v i = ((w.getD i 0 : Nat) : Int)
theorem strx_sto {c : Nat} {w : List Nat} (h : sto σ0.1 σ0.2.1 c w) (hw : wlt w) : strx σ0 (c : Int) w := by
  obtain ⟨h1, h2, h3, v, h4, h5, h6, h7⟩ := h
  have hcn := ty_lt h1 h2
  have hvn := ty_lt h5 h6
  refine ⟨by omega, hw.1.2, fun d hd => by have := hw.2 d hd; omega, fun υ e => ?_⟩
  have e1 := ext_ty e h2
  have e2 := ext_ty e h6
  refine ⟨(v : Int), by rw [Int.toNat_natCast]; exact hvn, xisO_new h1 e1, ?_, xlen_new (t := 2) h5 e2 (by decide), xarr_new (t := 2) h5 e2, ?_, fun i hi => ?_⟩
  · rw [xfld_new 0 h1 e1, e.2 c hcn, h4]
  · rw [xfld_new 1 h1 e1, e.2 c hcn, h3]
  · rw [xag_new h5, e.2 v hvn]; exact h7 i hi
theorem kwx_0 : strx σ0 44 (kwl 0) := ⟨by decide, by decide, by decide, fun υ _ => ⟨45, Nat.lt_of_lt_of_le (by decide) (nn_ge (σ := σ0)), rfl, rfl, rfl, rfl, rfl, fun i hi => match i, hi with | 0, _ => rfl | 1, _ => rfl | 2, _ => rfl | i + 3, hi => absurd hi (by show ¬ i + 3 < 3; omega)⟩⟩
theorem kwx_1 : strx σ0 46 (kwl 1) := ⟨by decide, by decide, by decide, fun υ _ => ⟨47, Nat.lt_of_lt_of_le (by decide) (nn_ge (σ := σ0)), rfl, rfl, rfl, rfl, rfl, fun i hi => match i, hi with | 0, _ => rfl | 1, _ => rfl | 2, _ => rfl | 3, _ => rfl | 4, _ => rfl | i + 5, hi => absurd hi (by show ¬ i + 5 < 5; omega)⟩⟩
theorem kwx_2 : strx σ0 48 (kwl 2) := ⟨by decide, by decide, by decide, fun υ _ => ⟨49, Nat.lt_of_lt_of_le (by decide) (nn_ge (σ := σ0)), rfl, rfl, rfl, rfl, rfl, fun i hi => match i, hi with | 0, _ => rfl | 1, _ => rfl | 2, _ => rfl | 3, _ => rfl | i + 4, hi => absurd hi (by show ¬ i + 4 < 4; omega)⟩⟩
theorem kwx_3 : strx σ0 50 (kwl 3) := ⟨by decide, by decide, by decide, fun υ _ => ⟨51, Nat.lt_of_lt_of_le (by decide) (nn_ge (σ := σ0)), rfl, rfl, rfl, rfl, rfl, fun i hi => match i, hi with | 0, _ => rfl | 1, _ => rfl | 2, _ => rfl | 3, _ => rfl | 4, _ => rfl | 5, _ => rfl | i + 6, hi => absurd hi (by show ¬ i + 6 < 6; omega)⟩⟩
theorem kwx_4 : strx σ0 52 (kwl 4) := ⟨by decide, by decide, by decide, fun υ _ => ⟨53, Nat.lt_of_lt_of_le (by decide) (nn_ge (σ := σ0)), rfl, rfl, rfl, rfl, rfl, fun i hi => match i, hi with | 0, _ => rfl | 1, _ => rfl | 2, _ => rfl | 3, _ => rfl | 4, _ => rfl | i + 5, hi => absurd hi (by show ¬ i + 5 < 5; omega)⟩⟩
theorem kwx_5 : strx σ0 54 (kwl 5) := ⟨by decide, by decide, by decide, fun υ _ => ⟨55, Nat.lt_of_lt_of_le (by decide) (nn_ge (σ := σ0)), rfl, rfl, rfl, rfl, rfl, fun i hi => match i, hi with | 0, _ => rfl | 1, _ => rfl | 2, _ => rfl | i + 3, hi => absurd hi (by show ¬ i + 3 < 3; omega)⟩⟩
theorem kwx_6 : strx σ0 56 (kwl 6) := ⟨by decide, by decide, by decide, fun υ _ => ⟨57, Nat.lt_of_lt_of_le (by decide) (nn_ge (σ := σ0)), rfl, rfl, rfl, rfl, rfl, fun i hi => match i, hi with | 0, _ => rfl | 1, _ => rfl | 2, _ => rfl | 3, _ => rfl | i + 4, hi => absurd hi (by show ¬ i + 4 < 4; omega)⟩⟩
theorem kwx_7 : strx σ0 58 (kwl 7) := ⟨by decide, by decide, by decide, fun υ _ => ⟨59, Nat.lt_of_lt_of_le (by decide) (nn_ge (σ := σ0)), rfl, rfl, rfl, rfl, rfl, fun i hi => match i, hi with | 0, _ => rfl | 1, _ => rfl | 2, _ => rfl | 3, _ => rfl | 4, _ => rfl | i + 5, hi => absurd hi (by show ¬ i + 5 < 5; omega)⟩⟩
theorem kwx_8 : strx σ0 60 (kwl 8) := ⟨by decide, by decide, by decide, fun υ _ => ⟨61, Nat.lt_of_lt_of_le (by decide) (nn_ge (σ := σ0)), rfl, rfl, rfl, rfl, rfl, fun i hi => match i, hi with | 0, _ => rfl | 1, _ => rfl | 2, _ => rfl | 3, _ => rfl | 4, _ => rfl | i + 5, hi => absurd hi (by show ¬ i + 5 < 5; omega)⟩⟩
theorem kwx_9 : strx σ0 62 (kwl 9) := ⟨by decide, by decide, by decide, fun υ _ => ⟨63, Nat.lt_of_lt_of_le (by decide) (nn_ge (σ := σ0)), rfl, rfl, rfl, rfl, rfl, fun i hi => match i, hi with | 0, _ => rfl | 1, _ => rfl | 2, _ => rfl | 3, _ => rfl | i + 4, hi => absurd hi (by show ¬ i + 4 < 4; omega)⟩⟩
theorem kwx_10 : strx σ0 64 (kwl 10) := ⟨by decide, by decide, by decide, fun υ _ => ⟨65, Nat.lt_of_lt_of_le (by decide) (nn_ge (σ := σ0)), rfl, rfl, rfl, rfl, rfl, fun i hi => match i, hi with | 0, _ => rfl | 1, _ => rfl | i + 2, hi => absurd hi (by show ¬ i + 2 < 2; omega)⟩⟩
theorem kwx_11 : strx σ0 66 (kwl 11) := ⟨by decide, by decide, by decide, fun υ _ => ⟨67, Nat.lt_of_lt_of_le (by decide) (nn_ge (σ := σ0)), rfl, rfl, rfl, rfl, rfl, fun i hi => match i, hi with | 0, _ => rfl | 1, _ => rfl | i + 2, hi => absurd hi (by show ¬ i + 2 < 2; omega)⟩⟩
theorem kwx_12 : strx σ0 68 (kwl 12) := ⟨by decide, by decide, by decide, fun υ _ => ⟨69, Nat.lt_of_lt_of_le (by decide) (nn_ge (σ := σ0)), rfl, rfl, rfl, rfl, rfl, fun i hi => match i, hi with | 0, _ => rfl | 1, _ => rfl | 2, _ => rfl | 3, _ => rfl | i + 4, hi => absurd hi (by show ¬ i + 4 < 4; omega)⟩⟩
theorem kwx_13 : strx σ0 70 (kwl 13) := ⟨by decide, by decide, by decide, fun υ _ => ⟨71, Nat.lt_of_lt_of_le (by decide) (nn_ge (σ := σ0)), rfl, rfl, rfl, rfl, rfl, fun i hi => match i, hi with | 0, _ => rfl | 1, _ => rfl | 2, _ => rfl | i + 3, hi => absurd hi (by show ¬ i + 3 < 3; omega)⟩⟩
theorem kwx_14 : strx σ0 72 (kwl 14) := ⟨by decide, by decide, by decide, fun υ _ => ⟨73, Nat.lt_of_lt_of_le (by decide) (nn_ge (σ := σ0)), rfl, rfl, rfl, rfl, rfl, fun i hi => match i, hi with | 0, _ => rfl | 1, _ => rfl | i + 2, hi => absurd hi (by show ¬ i + 2 < 2; omega)⟩⟩
theorem kwx_15 : strx σ0 74 (kwl 15) := ⟨by decide, by decide, by decide, fun υ _ => ⟨75, Nat.lt_of_lt_of_le (by decide) (nn_ge (σ := σ0)), rfl, rfl, rfl, rfl, rfl, fun i hi => match i, hi with | 0, _ => rfl | 1, _ => rfl | 2, _ => rfl | 3, _ => rfl | i + 4, hi => absurd hi (by show ¬ i + 4 < 4; omega)⟩⟩
theorem kwx_16 : strx σ0 76 (kwl 16) := ⟨by decide, by decide, by decide, fun υ _ => ⟨77, Nat.lt_of_lt_of_le (by decide) (nn_ge (σ := σ0)), rfl, rfl, rfl, rfl, rfl, fun i hi => match i, hi with | 0, _ => rfl | 1, _ => rfl | 2, _ => rfl | 3, _ => rfl | i + 4, hi => absurd hi (by show ¬ i + 4 < 4; omega)⟩⟩
theorem kwx_17 : strx σ0 78 (kwl 17) := ⟨by decide, by decide, by decide, fun υ _ => ⟨79, Nat.lt_of_lt_of_le (by decide) (nn_ge (σ := σ0)), rfl, rfl, rfl, rfl, rfl, fun i hi => match i, hi with | 0, _ => rfl | 1, _ => rfl | 2, _ => rfl | i + 3, hi => absurd hi (by show ¬ i + 3 < 3; omega)⟩⟩
theorem kwx_18 : strx σ0 80 (kwl 18) := ⟨by decide, by decide, by decide, fun υ _ => ⟨81, Nat.lt_of_lt_of_le (by decide) (nn_ge (σ := σ0)), rfl, rfl, rfl, rfl, rfl, fun i hi => match i, hi with | 0, _ => rfl | 1, _ => rfl | 2, _ => rfl | i + 3, hi => absurd hi (by show ¬ i + 3 < 3; omega)⟩⟩
theorem kwx_19 : strx σ0 82 (kwl 19) := ⟨by decide, by decide, by decide, fun υ _ => ⟨83, Nat.lt_of_lt_of_le (by decide) (nn_ge (σ := σ0)), rfl, rfl, rfl, rfl, rfl, fun i hi => match i, hi with | 0, _ => rfl | 1, _ => rfl | i + 2, hi => absurd hi (by show ¬ i + 2 < 2; omega)⟩⟩
theorem kwx_20 : strx σ0 84 (kwl 20) := ⟨by decide, by decide, by decide, fun υ _ => ⟨85, Nat.lt_of_lt_of_le (by decide) (nn_ge (σ := σ0)), rfl, rfl, rfl, rfl, rfl, fun i hi => match i, hi with | 0, _ => rfl | 1, _ => rfl | 2, _ => rfl | i + 3, hi => absurd hi (by show ¬ i + 3 < 3; omega)⟩⟩
theorem kwx_21 : strx σ0 86 (kwl 21) := ⟨by decide, by decide, by decide, fun υ _ => ⟨87, Nat.lt_of_lt_of_le (by decide) (nn_ge (σ := σ0)), rfl, rfl, rfl, rfl, rfl, fun i hi => match i, hi with | 0, _ => rfl | 1, _ => rfl | 2, _ => rfl | i + 3, hi => absurd hi (by show ¬ i + 3 < 3; omega)⟩⟩
theorem kwx_22 : strx σ0 88 (kwl 22) := ⟨by decide, by decide, by decide, fun υ _ => ⟨89, Nat.lt_of_lt_of_le (by decide) (nn_ge (σ := σ0)), rfl, rfl, rfl, rfl, rfl, fun i hi => match i, hi with | 0, _ => rfl | 1, _ => rfl | 2, _ => rfl | 3, _ => rfl | 4, _ => rfl | 5, _ => rfl | i + 6, hi => absurd hi (by show ¬ i + 6 < 6; omega)⟩⟩
theorem kwx_23 : strx σ0 90 (kwl 23) := ⟨by decide, by decide, by decide, fun υ _ => ⟨91, Nat.lt_of_lt_of_le (by decide) (nn_ge (σ := σ0)), rfl, rfl, rfl, rfl, rfl, fun i hi => match i, hi with | 0, _ => rfl | 1, _ => rfl | 2, _ => rfl | i + 3, hi => absurd hi (by show ¬ i + 3 < 3; omega)⟩⟩
theorem kwx_24 : strx σ0 92 (kwl 24) := ⟨by decide, by decide, by decide, fun υ _ => ⟨93, Nat.lt_of_lt_of_le (by decide) (nn_ge (σ := σ0)), rfl, rfl, rfl, rfl, rfl, fun i hi => match i, hi with | 0, _ => rfl | 1, _ => rfl | 2, _ => rfl | 3, _ => rfl | i + 4, hi => absurd hi (by show ¬ i + 4 < 4; omega)⟩⟩
theorem kwx_25 : strx σ0 94 (kwl 25) := ⟨by decide, by decide, by decide, fun υ _ => ⟨95, Nat.lt_of_lt_of_le (by decide) (nn_ge (σ := σ0)), rfl, rfl, rfl, rfl, rfl, fun i hi => match i, hi with | 0, _ => rfl | 1, _ => rfl | 2, _ => rfl | 3, _ => rfl | 4, _ => rfl | i + 5, hi => absurd hi (by show ¬ i + 5 < 5; omega)⟩⟩
theorem kwx_26 : strx σ0 96 (kwl 26) := ⟨by decide, by decide, by decide, fun υ _ => ⟨97, Nat.lt_of_lt_of_le (by decide) (nn_ge (σ := σ0)), rfl, rfl, rfl, rfl, rfl, fun i hi => match i, hi with | 0, _ => rfl | 1, _ => rfl | 2, _ => rfl | 3, _ => rfl | 4, _ => rfl | i + 5, hi => absurd hi (by show ¬ i + 5 < 5; omega)⟩⟩
theorem kwx_27 : strx σ0 98 (kwl 27) := ⟨by decide, by decide, by decide, fun υ _ => ⟨99, Nat.lt_of_lt_of_le (by decide) (nn_ge (σ := σ0)), rfl, rfl, rfl, rfl, rfl, fun i hi => match i, hi with | 0, _ => rfl | 1, _ => rfl | 2, _ => rfl | 3, _ => rfl | i + 4, hi => absurd hi (by show ¬ i + 4 < 4; omega)⟩⟩
theorem kwx_28 : strx σ0 100 (kwl 28) := ⟨by decide, by decide, by decide, fun υ _ => ⟨101, Nat.lt_of_lt_of_le (by decide) (nn_ge (σ := σ0)), rfl, rfl, rfl, rfl, rfl, fun i hi => match i, hi with | 0, _ => rfl | 1, _ => rfl | 2, _ => rfl | 3, _ => rfl | i + 4, hi => absurd hi (by show ¬ i + 4 < 4; omega)⟩⟩
theorem kwx_29 : strx σ0 102 (kwl 29) := ⟨by decide, by decide, by decide, fun υ _ => ⟨103, Nat.lt_of_lt_of_le (by decide) (nn_ge (σ := σ0)), rfl, rfl, rfl, rfl, rfl, fun i hi => match i, hi with | 0, _ => rfl | 1, _ => rfl | 2, _ => rfl | 3, _ => rfl | i + 4, hi => absurd hi (by show ¬ i + 4 < 4; omega)⟩⟩
theorem kwx_30 : strx σ0 104 (kwl 30) := ⟨by decide, by decide, by decide, fun υ _ => ⟨105, Nat.lt_of_lt_of_le (by decide) (nn_ge (σ := σ0)), rfl, rfl, rfl, rfl, rfl, fun i hi => match i, hi with | 0, _ => rfl | 1, _ => rfl | 2, _ => rfl | 3, _ => rfl | 4, _ => rfl | 5, _ => rfl | i + 6, hi => absurd hi (by show ¬ i + 6 < 6; omega)⟩⟩
theorem kwx_31 : strx σ0 106 (kwl 31) := ⟨by decide, by decide, by decide, fun υ _ => ⟨107, Nat.lt_of_lt_of_le (by decide) (nn_ge (σ := σ0)), rfl, rfl, rfl, rfl, rfl, fun i hi => match i, hi with | 0, _ => rfl | 1, _ => rfl | 2, _ => rfl | i + 3, hi => absurd hi (by show ¬ i + 3 < 3; omega)⟩⟩
theorem kwx : ∀ k : Nat, k < 32 → strx σ0 ((44 + 2 * k : Nat) : Int) (kwl k)
  | 0, _ => kwx_0
  | 1, _ => kwx_1
  | 2, _ => kwx_2
  | 3, _ => kwx_3
  | 4, _ => kwx_4
  | 5, _ => kwx_5
  | 6, _ => kwx_6
  | 7, _ => kwx_7
  | 8, _ => kwx_8
  | 9, _ => kwx_9
  | 10, _ => kwx_10
  | 11, _ => kwx_11
  | 12, _ => kwx_12
  | 13, _ => kwx_13
  | 14, _ => kwx_14
  | 15, _ => kwx_15
  | 16, _ => kwx_16
  | 17, _ => kwx_17
  | 18, _ => kwx_18
  | 19, _ => kwx_19
  | 20, _ => kwx_20
  | 21, _ => kwx_21
  | 22, _ => kwx_22
  | 23, _ => kwx_23
  | 24, _ => kwx_24
  | 25, _ => kwx_25
  | 26, _ => kwx_26
  | 27, _ => kwx_27
  | 28, _ => kwx_28
  | 29, _ => kwx_29
  | 30, _ => kwx_30
  | 31, _ => kwx_31
  | k + 32, h => absurd h (by omega)
theorem xcp_at2 {v d k dp : Nat} {s : Int} (j : Nat) (hs : s.toNat = v) : (xcopy xE1 σ v 0 d dp k).1 d j = if dp ≤ j ∧ j < dp + k then xag xE1 σ s (j - dp) else σ.1 d j := by
  have e : xag xE1 σ (v : Int) (0 + (j - dp)) = xag xE1 σ s (j - dp) := by
    rw [Nat.zero_add]
    unfold xag
    rw [Int.toNat_natCast, hs]
  show cond (Nat.beq d d && (Nat.ble dp j && Nat.ble (j + 1) (dp + k))) (xag xE1 σ (v : Int) (0 + (j - dp))) (σ.1 d j) = _
  rw [beq_tt, e]
  by_cases h : dp ≤ j ∧ j < dp + k
  · rw [if_pos h, Nat.ble_eq_true_of_le h.1, Nat.ble_eq_true_of_le h.2]; rfl
  · rw [if_neg h]
    by_cases h1 : dp ≤ j
    · have : Nat.ble (j + 1) (dp + k) = false := Bool.eq_false_iff.mpr fun q => h ⟨h1, Nat.le_of_ble_eq_true q⟩
      rw [this, Bool.and_false, Bool.and_false]; rfl
    · have : Nat.ble dp j = false := Bool.eq_false_iff.mpr fun q => h1 (Nat.le_of_ble_eq_true q)
      rw [this]; rfl
/-- a text more -/
theorem C_str {x : Int} {w : List Nat} (h : bs σ0 σ l) (hx : strx σ0 x w) (hl : l.length + w.length ≤ 1400) : ∃ τ, X iJB_append3 0 [(2, ((nn σ0 : Nat) : Int)), (2, x)] [] σ = some ((2, ((nn σ0 : Nat) : Int)), τ) ∧ bs σ0 τ (l ++ w) ∧ xdp τ = xdp σ := by
  obtain ⟨v, cap, h⟩ := h
  obtain ⟨hx0, hw8, hwb, hxx⟩ := hx
  obtain ⟨σ1, v', cap', r1, r2, r3, r4⟩ := C_room (n := l.length + w.length) h hl
  obtain ⟨s, s1, s2, s3, s4, s5, s6, s7⟩ := hxx σ (bsv_ext h)
  obtain ⟨s', t1, t2, t3, t4, t5, t6, t7⟩ := hxx σ1 (bsv_ext r2)
  obtain ⟨⟨⟨h1, h2⟩, ⟨h3, h4, h5⟩, _, _⟩, _⟩ := h
  obtain ⟨⟨⟨k1, k2⟩, ⟨k3, k4, k5⟩, ⟨k6, k7⟩, ⟨k8, k9⟩, k10⟩, hb, hv, hk, hcap, hsl, hX, hold⟩ := r2
  have i1 := xisO_new h1 h2
  have i2 := xisO_new k1 k2
  have el : (l ++ w).length = l.length + w.length := List.length_append
  generalize hυ : xcopy xE1 σ1 s'.toNat 0 v' l.length w.length = υ
  have ue : ∀ y, y ≠ v' → υ.1 y = σ1.1 y := fun y hy => by rw [← hυ, xcp_ne hy]
  have u2 : υ.2 = σ1.2 := by rw [← hυ]; rfl
  have ua : xnth υ.2.1 (nn σ0 - 392) = some (1, 4) := by rw [u2]; exact k2
  have i3 : xisO xE1 υ ((nn σ0 : Nat) : Int) 1 = true := xisO_new k1 ua
  have c1 : Nat.ble xNC v' = true := Nat.ble_eq_true_of_le (Nat.le_trans (by decide) k6)
  have z2 : xna 2 0 = 0 := rfl
  have gb : X iJS_getBytes 0 [(2, x), (2, (v' : Int)), (0, (l.length : Int)), (0, 0)] [] σ1 = some ((9, 0), υ) := by
    rw [qJS_getBytes_0, t2, cnd_t, t6, xob_some, z2, z2, if_pos rfl, if_pos rfl, t3, xob_some, xob_some, t4, xob_some, t5, xob_some, xarr_new (t := 2) k6 k7, xob_some, xshl_0 (by omega), if_pos (by omega), Int.toNat_natCast, c1, beq_ff (by omega), Int.toNat_natCast, Int.toNat_natCast, hυ]
    show X iJS_getBytes 43 _ _ _ = _
    rw [qJS_getBytes_43]
  have pu : X iJA_putStringAt 0 [(2, ((nn σ0 : Nat) : Int)), (0, (l.length : Int)), (2, x)] [] σ1 = some ((9, 0), υ) := by
    rw [qJA_putStringAt_0, i2, cnd_t, qJA_inflateIfNeededFor_0, xfld_new 1 k1 k2, xob_some, t2, cnd_t, t6, xob_some, k4, z2, z2, if_pos rfl, if_pos rfl, qJA_inflateIfNeededFor_21, Option.bind_some, qJA_putStringAt_5, xfld_new 0 k1 k2, xob_some, xfld_new 1 k1 k2, xob_some, t2, cnd_t, k3, k4, z2, gb, Option.bind_some, qJA_putStringAt_18]
  refine ⟨xs υ (nn σ0) 3 ((l.length + w.length : Nat) : Int), ?_, ⟨v', cap', ⟨⟨k1, ua⟩, ⟨?_, ?_, ?_⟩, ⟨k6, by show xnth υ.2.1 _ = _; rw [u2]; exact k7⟩, ⟨by omega, k9⟩, fun i hi => ?_⟩, fun d hd => ?_, hv, ?_, hcap, ?_, ?_, fun y hy => ?_⟩, ?_⟩
  · have e5 : υ.1 (nn σ0) 3 = (l.length : Int) := by rw [ue _ (by omega)]; exact k5
    have sh : xshr ((w.length : Nat) : Int) 0 = ((w.length : Nat) : Int) := xshr_0 (by omega)
    have ea : xw ((l.length : Int) + ((w.length : Nat) : Int)) = ((l.length + w.length : Nat) : Int) := (xw_id (by omega) (by omega)).trans (by omega)
    have r1 : X iJA_ensureCapacityInternal 0 [(2, ((nn σ0 : Nat) : Int)), (0, ((l.length + w.length : Nat) : Int)), (9, 0)] [] σ = some ((9, 0), σ1) := r1
    rw [qJB_append3_0, i1, cnd_t, qJA_append3_0, if_neg hx0, s2, cnd_t, s3, xob_some, s4, xob_some, cnd_t, s6, xob_some, z2, z2, if_pos rfl, xfld_new 3 h1 h2, xob_some, i1, cnd_t, h5, sh, ea, r1, Option.bind_some, qJA_append3_24, xfld_new 3 k1 k2, xob_some, i2, cnd_t, k5, pu, Option.bind_some, qJA_append3_33, xfld_new 3 k1 ua, xob_some, i3, cnd_t, e5, ea, xwr_new k1, xob_some, Option.bind_some, qJB_append3_5]
  · rw [xs_at, xup_ne (by decide), ue _ (by omega)]; exact k3
  · rw [xs_at, xup_ne (by decide), ue _ (by omega)]; exact k4
  · rw [xs_at, xup_eq, el]
  · rw [el] at hi
    rw [xs_ne (by omega), ← hυ, xcp_at2 (s := s') i rfl, getD_app]
    by_cases q : i < l.length
    · rw [if_neg (by omega), if_pos q]; exact k10 i q
    · rw [if_pos (by omega), if_neg q]; exact t7 _ (by omega)
  · rcases List.mem_append.mp hd with q | q
    · exact hb d q
    · exact hwb d q
  · show ∃ (k : Nat) (L : List (Nat × Nat)), υ.2.1 = _ ∧ _
    rw [u2]; exact hk
  · show υ.2.2.1 ≤ _
    rw [u2]; exact hsl
  · show υ.2.2.2.2 = _
    rw [u2]; exact hX
  · rw [xs_ne (by omega), ue y (by omega)]; exact hold y hy
  · show υ.2.2.2.1 = _
    rw [u2]; exact r4
end GRW

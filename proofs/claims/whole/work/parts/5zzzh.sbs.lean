/-! its String -/
section SBS
variable {σ τ υ : xS}
theorem xcp_at {v d k : Nat} (hv : 392 ≤ v) (j : Nat) : (xcopy xE1 σ v 0 d 0 k).1 d j = if j < k then σ.1 v j else σ.1 d j := by
  show cond (Nat.beq d d && (Nat.ble 0 j && Nat.ble (j + 1) (0 + k))) (xag xE1 σ (v : Int) (0 + (j - 0))) (σ.1 d j) = _
  rw [beq_tt, Nat.zero_add, Nat.zero_add, Nat.sub_zero, xag_new hv]
  by_cases h : j < k
  · rw [if_pos h, show Nat.ble 0 j = true from rfl, Nat.ble_eq_true_of_le h]; rfl
  · have : Nat.ble (j + 1) k = false := Bool.eq_false_iff.mpr fun q => h (Nat.le_of_ble_eq_true q)
    rw [if_neg h, this, Bool.and_false]; rfl
theorem xcp_ne {v d k b sp dp : Nat} (hb : b ≠ d) : (xcopy xE1 σ v sp d dp k).1 b = σ.1 b := by
  funext j
  show cond (Nat.beq b d && _) _ (σ.1 b j) = _
  rw [beq_ff hb]; rfl
theorem xal_ne {c n b : Nat} (hb : b ≠ nn σ) : (xal xE1 σ c n).1 b = σ.1 b := by
  funext j
  show cond (Nat.beq b (xnew xE1 σ)) 0 (σ.1 b j) = _
  rw [show Nat.beq b (xnew xE1 σ) = false from beq_ff hb]; rfl
theorem xal_ty {c n : Nat} : xnth (xal xE1 σ c n).2.1 (nn σ - 392) = some (c, n) := by
  show xnth (σ.2.1 ++ [(c, n)]) (nn σ - 392) = _
  rw [nn_eq, Nat.add_sub_cancel_left]
  exact xnth_app
theorem xal_to {c n a : Nat} {p : Nat × Nat} (h : xnth σ.2.1 (a - 392) = some p) : xnth (xal xE1 σ c n).2.1 (a - 392) = some p := xnth_ap h
theorem xal_nn {c n : Nat} : nn (xal xE1 σ c n) = nn σ + 1 := by
  rw [nn_eq, nn_eq]
  show 392 + (σ.2.1 ++ [(c, n)]).length = _
  rw [List.length_append]; rfl
theorem nn_xs {a k : Nat} {v : Int} : nn (xs σ a k v) = nn σ := rfl
/-- the range from the start on that isn't all -/
theorem C_range {v cap k : Nat} (h6 : 392 ≤ v) (h7 : xnth σ.2.1 (v - 392) = some (102, cap)) (hk : k < cap) (hc : cap ≤ 50000) : X iJR_copyOfRange 0 [(2, (v : Int)), (0, 0), (0, (k : Int))] [] σ = some ((2, ((nn σ : Nat) : Int)), xcopy xE1 (xal xE1 σ 102 k) v 0 (nn σ) 0 k) := by
  have hvn := ty_lt h6 h7
  have e1 : xw ((k : Int) - 0) = (k : Int) := by rw [xw_id (by omega) (by omega)]; omega
  have e2 : xw (((cap : Nat) : Int) - 0) = (cap : Int) := by rw [xw_id (by omega) (by omega)]; omega
  have e3 : xmm 1 (cap : Int) (k : Int) = (k : Int) := by
    show (if (k : Int) < (cap : Int) then (k : Int) else (cap : Int)) = _
    rw [if_pos (by omega)]
  have h8 : xnth (xal xE1 σ 102 k).2.1 (v - 392) = some (102, cap) := xal_to h7
  have h9 : xnth (xal xE1 σ 102 k).2.1 (nn σ - 392) = some (102, k) := xal_ty
  have gn := nn_ge (σ := σ)
  have c1 : Nat.ble xNC (nn σ) = true := Nat.ble_eq_true_of_le (Nat.le_trans (by decide) gn)
  rw [qJR_copyOfRange_0, if_pos rfl, xlen_new (t := 2) h6 h7 (by decide), xob_some, if_neg (by omega), if_neg (by omega), e1, if_pos (by omega), Int.toNat_natCast, xlen_new (t := 2) h6 h8 (by decide), xob_some, xarr_new (t := 2) h6 h8, xob_some, nnx, xarr_new (t := 2) gn h9, xob_some, e2, e3, if_pos (by omega), Int.toNat_natCast, c1, Int.toNat_natCast, beq_ff (by omega)]
  rfl
theorem sb_str {a v cap : Nat} {l : List Nat} (h : sbd σ.1 σ.2.1 a v cap l) (hl : l.length < cap) : ∃ τ, X iJB_toString 0 [(2, (a : Int))] [] σ = some ((2, ((nn σ : Nat) : Int)), τ) ∧ sto τ.1 τ.2.1 (nn σ) l ∧ τ.2.1 = σ.2.1 ++ [(0, 4), (102, l.length)] ∧ τ.2.2.1 = σ.2.2.1 + 4 + l.length ∧ τ.2.2.2 = σ.2.2.2 ∧ ∀ x, x < nn σ → τ.1 x = σ.1 x := by
  obtain ⟨⟨h1, h2⟩, ⟨h3, h4, h5⟩, ⟨h6, h7⟩, ⟨h8, h9⟩, h10⟩ := h
  have gn := nn_ge (σ := σ)
  have han := ty_lt h1 h2
  have hvn := ty_lt h6 h7
  have a1 : xnth (xal xE1 σ 0 4).2.1 (a - 392) = some (1, 4) := xal_to h2
  have v1 : xnth (xal xE1 σ 0 4).2.1 (v - 392) = some (102, cap) := xal_to h7
  have s1 : xnth (xal xE1 σ 0 4).2.1 (nn σ - 392) = some (0, 4) := xal_ty
  have i0 : xisO xE1 (xal xE1 σ 0 4) ((nn σ : Nat) : Int) 0 = true := xisO_new gn s1
  have i1 : xisO xE1 (xal xE1 σ 0 4) (a : Int) 1 = true := xisO_new h1 a1
  have ea : (xal xE1 σ 0 4).1 a = σ.1 a := xal_ne (by omega)
  have rr := C_range (σ := xs (xal xE1 σ 0 4) (nn σ) 1 0) (k := l.length) h6 v1 hl h9
  have nx : nn (xs (xal xE1 σ 0 4) (nn σ) 1 0) = nn σ + 1 := by rw [nn_xs, xal_nn]
  rw [nx] at rr
  generalize hυ : xcopy xE1 (xal xE1 (xs (xal xE1 σ 0 4) (nn σ) 1 0) 102 l.length) v 0 (nn σ + 1) 0 l.length = υ at rr
  have u2 : υ.2.1 = σ.2.1 ++ [(0, 4), (102, l.length)] := by
    rw [← hυ]
    show (σ.2.1 ++ [(0, 4)]) ++ [(102, l.length)] = _
    rw [List.append_assoc]; rfl
  have us : xnth υ.2.1 (nn σ - 392) = some (0, 4) := by
    rw [← hυ]
    exact xal_to (σ := xs (xal xE1 σ 0 4) (nn σ) 1 0) s1
  have ua : xnth υ.2.1 (nn σ + 1 - 392) = some (102, l.length) := by
    have := xal_ty (σ := xs (xal xE1 σ 0 4) (nn σ) 1 0) (c := 102) (n := l.length)
    rw [nx] at this
    rw [← hυ]
    exact this
  have em : ∀ x, x ≠ nn σ + 1 → υ.1 x = (xs (xal xE1 σ 0 4) (nn σ) 1 0).1 x := fun x hx => by rw [← hυ, xcp_ne hx, xal_ne (by rw [nx]; exact hx)]
  have iu : xisO xE1 υ ((nn σ : Nat) : Int) 0 = true := xisO_new gn us
  have gb : ¬ nn σ = 0 := by omega
  refine ⟨xs υ (nn σ) 0 ((nn σ + 1 : Nat) : Int), ?_, ⟨gn, us, ?_, nn σ + 1, ?_, by omega, ua, fun i hi => ?_⟩, u2, ?_, ?_, fun x hx => ?_⟩
  · rw [qJB_toString_0, nnx, i0, cnd_t, qJS_init2_0, i0, cnd_t, qJS_init1_0, Int.toNat_natCast, beq_ff gb, cnd_f, i1, cnd_t, xfld_new 0 h1 a1, xob_some, cnd_t, cnd_t, xfld_new 3 h1 a1, xob_some, cnd_t, xfld_new 1 h1 a1, xob_some, ea, h4, if_pos (show xna 2 0 = 0 from rfl), i0, cnd_t, xwr_new gn, xob_some, h3, h5, rr, Option.bind_some, qJS_init1_35, iu, cnd_t, xwr_new gn, xob_some, Option.bind_some, qJS_init2_6, Option.bind_some, qJB_toString_8]
  · rw [xs_at, xup_ne (by decide), em _ (by omega), xs_at, xup_eq]
  · rw [xs_at, xup_eq]
  · rw [xs_ne (by omega), ← hυ, xcp_at h6, if_pos hi, xal_ne (by rw [nx]; omega), xs_ne (by omega), xal_ne (by omega)]
    exact h10 i hi
  · rw [← hυ]; rfl
  · rw [← hυ]; rfl
  · rw [xs_ne (by omega), em _ (by omega), xs_ne (by omega), xal_ne (by omega)]
end SBS

/-! the lorry's round: both answer the same -/
section ROUNDZ
variable {σ : xS}
def ro_v (K : (Int × Int) × List Nat) (n : Nat) (a : Int) : Int := if a = 0 then K.1.1 else if a = 1 then K.1.2 else if a < 10 then -1 else if a < 10 + n then ((K.2.getD (a - 10).toNat 0 : Nat) : Int) else -1
theorem ro_K_ag {τ : xS} (h : ag σ τ) (t0 v : Int) : ro_K τ.1 t0 v = ro_K σ.1 t0 v := by
  have ef : ro_f τ.1 t0 = ro_f σ.1 t0 := by
    have g : ro_s τ.1 = ro_s σ.1 := by
      funext s x
      unfold ro_s
      rw [h.at (a := 312) fun _ => rfl, h.at (a := 313) fun _ => rfl, h.at (a := 314) fun _ => rfl]
    funext p
    unfold ro_f ro_p
    rw [g]
  unfold ro_K
  rw [ef, h.sl (a := 305) (k := 11) rfl]
theorem ro_K_len (hH : ho_J σ.1) {v t0 : Int} (ht0 : 0 ≤ t0 ∧ t0 ≤ 1440) {N : Nat} (hN : σ.1 305 11 = (N : Int)) : (ro_K σ.1 t0 v).2.length = (bl v N).length := by
  have h11 := hH.2.1
  have e11 : (σ.1 305 11).toNat = N := by omega
  unfold ro_K
  rw [e11]
  have hm := bst_in0 (f := ro_f σ.1 t0) (b := b0) (ps_ne (n := (bl v N).length) (l := bl v N) rfl) (fun p hp => by
    obtain ⟨m1, m2, m3⟩ := ps_mem rfl (asc_nodup asc_bl) hp
    obtain ⟨i1, i2, i3, i4⟩ := ro_le hH (t0 := t0) (p := p) (fun x hx => by have := (mem_bl.mp (m2 x hx)).1; omega)
    have := len_bl (v := v) (n := N)
    refine Or.inl ?_
    show (ro_p σ.1 t0 p).1.2 < 1000000000
    omega)
  exact (ps_mem rfl (asc_nodup asc_bl) hm).1
theorem M_round_val (hH : ho_J σ.1) {v t0 : Int} (ht0 : 0 ≤ t0 ∧ t0 ≤ 1440) (a3 : Int) {N : Nat} (hN : σ.1 305 11 = (N : Int)) (hv : 0 ≤ v ∧ v < ((2 ^ N : Nat) : Int)) :
    ∃ τ', X iM_round 0 [(2, 305), (0, v), (0, t0), (0, a3), (9, 0), (9, 0), (9, 0), (9, 0), (9, 0), (9, 0), (9, 0), (9, 0), (9, 0)] [] σ = some ((0, ro_v (ro_K σ.1 t0 v) (bl v N).length a3), τ') ∧ ag σ τ' := by
  have h11 := hH.2.1
  have hN8 : N ≤ 8 := by omega
  obtain ⟨τ', w7, w8, w9, w10, w11, w12, q1, q2, q3, q4, q5⟩ := M_round_all hH (v := v) ht0 a3 hN
  have hlen := len_bl (v := v) (n := N)
  have hKl := ro_K_len hH (v := v) ht0 hN
  refine ⟨τ', ?_, q2⟩
  rw [qM_round_0, hN, bz_N N hN8, if_neg (by omega), if_pos hv.2, if_neg (by omega), if_neg (by omega), q1, qM_round_84, if_pos rfl]
  generalize ro_K σ.1 t0 v = K at *
  generalize (bl v N).length = n at *
  unfold ro_v
  rw [xw_id (x := 10 + (n : Int)) (by omega) (by omega)]
  by_cases c0 : a3 = 0
  · rw [if_pos c0, if_pos c0, q3]
  · rw [if_neg c0, if_neg c0]
    by_cases c1 : a3 = 1
    · rw [if_pos c1, if_pos c1, q4]
    · rw [if_neg c1, if_neg c1]
      by_cases c2 : a3 < 10
      · rw [if_pos c2, if_pos c2]
      · rw [if_neg c2, if_neg c2]
        by_cases c3 : a3 < 10 + n
        · rw [if_pos c3, if_pos c3, xw_id (x := a3 - 10) (by omega) (by omega), if_pos (xin_of (by omega) (by omega)), q5 _ (by omega)]
        · rw [if_neg c3, if_neg c3]
theorem C_round_val (hH : ho_J σ.1) {v t0 : Int} (ht0 : 0 ≤ t0 ∧ t0 ≤ 1440) (a3 : Int) {N : Nat} (hN : σ.1 305 11 = (N : Int)) (hv : 0 ≤ v ∧ v < ((2 ^ N : Nat) : Int)) (hdp : 16 ≤ xdp σ) :
    ∃ τ', X iC_round 0 [(2, 200), (0, v), (0, t0), (0, a3), (9, 0)] [] σ = some ((0, ro_v (ro_K σ.1 t0 v) (bl v N).length a3), τ') ∧ ag σ τ' := by
  have h11 := hH.2.1
  have hN8 : N ≤ 8 := by omega
  have h256 : (2 : Nat) ^ N ≤ 2 ^ 8 := Nat.pow_le_pow_right (by decide) hN8
  have e8 : (2 : Nat) ^ 8 = 256 := by decide
  obtain ⟨vn, hvn⟩ : ∃ n : Nat, v = n := ⟨v.toNat, by omega⟩
  obtain ⟨τ', q1, q2, q3, q4, q5, q6⟩ := C_round_all hH (v := v) ht0 hN hv hdp
  have hlen := len_bl (v := v) (n := N)
  have hKl := ro_K_len hH (v := v) ht0 hN
  have hb8 : bl v 8 = bl v N := by
    obtain ⟨k, hk⟩ : ∃ k, 8 = N + k := ⟨8 - N, by omega⟩
    rw [hk]
    refine bl_up fun h h1 h2 => ?_
    subst hvn
    exact bz_up vn (by omega) N hN8 (by omega) h (by omega) h1
  have hbc : X iJI_bitCount 0 [(0, v)] [] σ = some ((0, ((bl v N).length : Int)), σ) := by
    rw [← hb8, hvn]
    exact bitc vn (by omega) σ
  have e94 : σ.1 209 4 = (N : Int) := by rw [← hN]; exact hH.1.2.2.2.2
  rw [qC_round_0, e94, bz_N N hN8, if_neg (by omega), if_pos hv.2, if_neg (by omega), if_neg (by omega), hbc]
  simp only [Option.bind_some]
  rw [qC_round_39]
  clear hbc hb8 e94 hvn e8 h256
  generalize ro_K σ.1 t0 v = K at *
  generalize (bl v N).length = n at *
  rw [xw_id (x := 9 + (n : Int)) (by omega) (by omega), q1]
  simp only [Option.bind_some, qC_round_70]
  by_cases c0 : a3 = 0
  · have e : ro_v K n a3 = K.1.1 := if_pos c0
    rw [e]
    refine ⟨τ', ?_, q2⟩
    rw [if_pos (by omega), if_neg (by omega), if_neg (by omega), if_pos trivial, if_pos c0, q3]
  · by_cases c1 : a3 = 1
    · have e : ro_v K n a3 = K.1.2 := by unfold ro_v; rw [if_neg c0, if_pos c1]
      rw [e]
      refine ⟨τ', ?_, q2⟩
      rw [if_pos (by omega), if_neg (by omega), if_neg (by omega), if_pos trivial, if_neg c0, q4]
    · by_cases c2 : a3 < 10
      · have e : ro_v K n a3 = -1 := by unfold ro_v; rw [if_neg c0, if_neg c1, if_pos c2]
        rw [e]
        refine ⟨σ, ?_, ag_rf σ⟩
        rw [if_pos c2]
        refine xite (fun _ => rfl) (fun _ => xite (fun _ => rfl) (fun _ => ?_))
        omega
      · by_cases c3 : a3 < 10 + n
        · have e : ro_v K n a3 = ((K.2.getD (a3 - 10).toNat 0 : Nat) : Int) := by unfold ro_v; rw [if_neg c0, if_neg c1, if_neg c2, if_pos c3]
          rw [e]
          refine ⟨τ', ?_, q2⟩
          rw [if_neg c2, if_neg (by omega), if_neg (by omega), if_pos (by omega), if_neg (by decide), xw_id (x := a3 - 10) (by omega) (by omega), if_pos (xin_of (by omega) (by omega)), q6 _ (by omega)]
        · have e : ro_v K n a3 = -1 := by unfold ro_v; rw [if_neg c0, if_neg c1, if_neg c2, if_neg c3]
          rw [e]
          refine ⟨σ, ?_, ag_rf σ⟩
          rw [if_neg c2, if_pos (by omega), if_neg (by omega), if_pos (by omega)]
theorem rd_round (hP : pJ σ.1) (hdp : 16 ≤ xdp σ) (a1 a2 a3 : Int) : rdOK σ iC_round [(2, 200), (0, a1), (0, a2), (0, a3), (9, 0)] iM_round [(2, 305), (0, a1), (0, a2), (0, a3), (9, 0), (9, 0), (9, 0), (9, 0), (9, 0), (9, 0), (9, 0), (9, 0), (9, 0)] := by
  have hH := hP.2.1
  have h11 := hH.2.1
  obtain ⟨N, hN⟩ : ∃ N : Nat, σ.1 305 11 = N := ⟨(σ.1 305 11).toNat, by omega⟩
  by_cases hc : (0 ≤ a1 ∧ a1 < ((2 ^ N : Nat) : Int)) ∧ (0 ≤ a2 ∧ a2 ≤ 1440)
  · obtain ⟨τ, q1, q2⟩ := C_round_val hH hc.2 a3 hN hc.1 hdp
    have hH2 : ho_J τ.1 := ho_J_cg (fun a ha => q2.cl (by omega)) (q2.sl rfl) (q2.sl rfl) hH
    obtain ⟨τ', r1, r2⟩ := M_round_val hH2 hc.2 a3 (by rw [q2.sl (a := 305) (k := 11) rfl]; exact hN) hc.1
    rw [ro_K_ag q2] at r1
    exact ⟨_, τ, τ', q1, q2, r1, r2⟩
  · have e94 : σ.1 209 4 = (N : Int) := by rw [← hN]; exact hH.1.2.2.2.2
    refine rd_same (v := (0, -1)) ?_ ?_
    · rw [qC_round_0, e94, bz_N N (by omega)]
      refine xite (fun _ => rfl) (fun _ => xite (fun _ => xite (fun _ => rfl) (fun _ => xite (fun _ => rfl) (fun _ => ?_))) (fun _ => rfl))
      exfalso; omega
    · rw [qM_round_0, hN, bz_N N (by omega)]
      refine xite (fun _ => rfl) (fun _ => xite (fun _ => xite (fun _ => rfl) (fun _ => xite (fun _ => rfl) (fun _ => ?_))) (fun _ => rfl))
      exfalso; omega
end ROUNDZ

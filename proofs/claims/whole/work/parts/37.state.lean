/-! WHAT STANDS BETWEEN CALLS: the class's cells are the reference's; their numbers are such -/
def st_J (m : Nat → Nat → Int) : Prop := (m 202 = m 306 ∧ m 203 = m 307 ∧ m 204 = m 308 ∧ m 205 = m 309 ∧ m 206 = m 310 ∧ m 201 5 = m 305 6) ∧ (0 ≤ m 305 6 ∧ m 305 6 ≤ 6) ∧ ∀ i : Nat, i < (m 305 6).toNat → (1 ≤ m 306 i ∧ m 306 i ≤ 60) ∧ (0 ≤ m 307 i ∧ m 307 i ≤ 3) ∧ (1 ≤ m 308 i ∧ m 308 i ≤ 90) ∧ (1 ≤ m 309 i ∧ m 309 i ≤ 250) ∧ (1 ≤ m 310 i ∧ m 310 i ≤ 1000)
def ho_J (m : Nat → Nat → Int) : Prop := (m 210 = m 311 ∧ m 211 = m 312 ∧ m 212 = m 313 ∧ m 213 = m 314 ∧ m 209 4 = m 305 11) ∧ (0 ≤ m 305 11 ∧ m 305 11 ≤ 8) ∧ ∀ i : Nat, i < (m 305 11).toNat → (0 ≤ m 311 i ∧ m 311 i ≤ 3) ∧ (0 ≤ m 312 i ∧ m 312 i ≤ 99) ∧ (0 ≤ m 313 i ∧ m 313 i ≤ 99) ∧ (0 ≤ m 314 i ∧ m 314 i ≤ 1440)
def ht_J (m : Nat → Nat → Int) : Prop := (m 239 = m 325 ∧ m 240 = m 326 ∧ m 241 = m 327 ∧ m 242 = m 328 ∧ m 229 17 = m 305 30) ∧ (0 ≤ m 305 30 ∧ m 305 30 ≤ 60)
def ev_J (m : Nat → Nat → Int) : Prop := (m 230 = m 329 ∧ m 229 2 = m 305 32 ∧ m 231 = m 330 ∧ m 232 = m 331 ∧ m 233 = m 332 ∧ m 229 6 = m 305 36) ∧ (m 234 = m 333 ∧ m 235 = m 334 ∧ m 236 = m 335 ∧ m 237 = m 336 ∧ m 238 = m 337 ∧ m 229 12 = m 305 42) ∧ (0 ≤ m 305 36 ∧ m 305 36 ≤ 60) ∧ (0 ≤ m 305 42 ∧ m 305 42 ≤ 60) ∧ (2 ≤ m 305 32 ∧ m 305 32 ≤ 10000) ∧ (∀ i : Nat, i < 4 → 0 ≤ m 329 i ∧ m 329 i ≤ 15) ∧ (∀ i : Nat, i < (m 305 36).toNat → (0 ≤ m 330 i ∧ m 330 i < m 305 11) ∧ (0 ≤ m 331 i ∧ m 331 i ≤ m 305 0)) ∧ ∀ i : Nat, i < (m 305 42).toNat → (0 ≤ m 335 i ∧ m 335 i ≤ 1000) ∧ (0 ≤ m 336 i ∧ m 336 i ≤ 1000)
def sp_J (m : Nat → Nat → Int) : Prop := (m 272 0 = m 305 121 ∧ m 272 1 = m 305 122 ∧ m 272 2 = m 305 123 ∧ m 272 3 = m 305 124) ∧ (1 ≤ m 305 121 ∧ m 305 121 ≤ 20) ∧ (0 ≤ m 305 122 ∧ m 305 122 ≤ 1000) ∧ (0 ≤ m 305 123 ∧ m 305 123 ≤ 100) ∧ (1 ≤ m 305 124 ∧ m 305 124 ≤ 10)
def ng_J (m : Nat → Nat → Int) : Prop := (m 259 = m 375 ∧ m 260 = m 376 ∧ m 261 = m 377 ∧ m 258 4 = m 305 102 ∧ m 258 5 = m 305 103) ∧ (m 262 = m 378 ∧ m 263 = m 379 ∧ m 264 = m 380 ∧ m 258 9 = m 305 107) ∧ (0 ≤ m 305 102 ∧ m 305 102 ≤ 3) ∧ (1 ≤ m 305 103 ∧ m 305 103 ≤ 3) ∧ (0 ≤ m 305 107 ∧ m 305 107 ≤ 7) ∧ (∀ i : Nat, i < (m 305 102).toNat → (1 ≤ m 375 i ∧ m 375 i ≤ 5000) ∧ (1 ≤ m 376 i ∧ m 376 i ≤ 200) ∧ (0 ≤ m 377 i ∧ m 377 i ≤ 100)) ∧ ∀ i : Nat, i < (m 305 107).toNat → (0 ≤ m 378 i ∧ m 378 i < m 305 6) ∧ (1 ≤ m 379 i ∧ m 379 i ≤ 200) ∧ (0 ≤ m 380 i ∧ m 380 i ≤ 1440)
def wn_J (m : Nat → Nat → Int) : Prop := ∀ h j : Nat, h < 8 → j < 42 → m (246 + h) j = m 369 (42 * h + j) ∧ 0 ≤ m 369 (42 * h + j) ∧ m 369 (42 * h + j) ≤ 50
def tp_J (m : Nat → Nat → Int) : Prop := (m 200 9 = m 305 66 ∧ m 200 10 = m 305 67) ∧ (0 ≤ m 305 66 ∧ m 305 66 ≤ 400) ∧ (-1 ≤ m 305 67 ∧ m 305 67 ≤ 400) ∧ ∀ i : Nat, i < 400 → m 304 i = m 357 i % 256 ∧ (-128 ≤ m 357 i ∧ m 357 i < 128)
/-- all but terms -/
def pJ (m : Nat → Nat → Int) : Prop := st_J m ∧ ho_J m ∧ bk_J m ∧ ht_J m ∧ ev_J m ∧ sp_J m ∧ ng_J m ∧ wn_J m ∧ tp_J m
section STATE
variable {m m' : Nat → Nat → Int}
theorem st_J_cg (h1 : ∀ a, (202 ≤ a ∧ a ≤ 206) ∨ (306 ≤ a ∧ a ≤ 310) → m' a = m a) (h2 : m' 201 5 = m 201 5) (h3 : m' 305 6 = m 305 6) (h : st_J m) : st_J m' := by
  unfold st_J at *
  rw [h1 202 (by omega), h1 203 (by omega), h1 204 (by omega), h1 205 (by omega), h1 206 (by omega), h1 306 (by omega), h1 307 (by omega), h1 308 (by omega), h1 309 (by omega), h1 310 (by omega), h2, h3]
  exact h
theorem ho_J_cg (h1 : ∀ a, (210 ≤ a ∧ a ≤ 213) ∨ (311 ≤ a ∧ a ≤ 314) → m' a = m a) (h2 : m' 209 4 = m 209 4) (h3 : m' 305 11 = m 305 11) (h : ho_J m) : ho_J m' := by
  unfold ho_J at *
  rw [h1 210 (by omega), h1 211 (by omega), h1 212 (by omega), h1 213 (by omega), h1 311 (by omega), h1 312 (by omega), h1 313 (by omega), h1 314 (by omega), h2, h3]
  exact h
theorem bk_J_cg (h1 : ∀ a, (217 ≤ a ∧ a ≤ 228) ∨ (315 ≤ a ∧ a ≤ 323) → m' a = m a) (h2 : ∀ k, k = 0 ∨ k = 6 ∨ k = 14 ∨ k = 15 → m' 216 k = m 216 k) (h3 : ∀ k, k = 0 ∨ k = 15 ∨ k = 22 ∨ k = 23 → m' 305 k = m 305 k) (h4 : m 305 6 ≤ m' 305 6) (h5 : m 305 11 ≤ m' 305 11) (h : bk_J m) : bk_J m' := by
  obtain ⟨hB, ⟨hQ1, hQ2, hQ3⟩, hC, hV⟩ := h
  have en : bk_n m' = bk_n m := by unfold bk_n; rw [h3 22 (by omega)]
  have ech : ∀ s n, bk_ch m' s n = bk_ch m s n := fun s n => bk_ch_cg fun i _ => by rw [h1 318 (by omega), h1 319 (by omega)]; exact ⟨rfl, rfl⟩
  refine ⟨?_, ⟨?_, ?_, ?_⟩, ⟨?_, ?_⟩, ?_, ?_, ?_, ?_⟩
  · unfold bk_B at *
    rw [h3 22 (by omega), h3 15 (by omega)]
    exact hB
  · rw [h1 222 (by omega), h1 223 (by omega), h1 224 (by omega), h1 225 (by omega), h1 226 (by omega), h1 227 (by omega), h1 318 (by omega), h1 319 (by omega), h1 320 (by omega), h1 321 (by omega), h1 322 (by omega), h1 323 (by omega)]
    exact hQ1
  · rw [h1 217 (by omega), h1 218 (by omega), h1 219 (by omega), h1 315 (by omega), h1 316 (by omega), h1 317 (by omega)]
    exact hQ2
  · rw [h2 14 (by omega), h2 6 (by omega), h2 0 (by omega), h2 15 (by omega), h3 22 (by omega), h3 15 (by omega), h3 0 (by omega), h3 23 (by omega)]
    exact hQ3
  · intro s hs
    rw [h3 15 (by omega)] at hs
    rw [en, ech, h1 228 (by omega), h1 220 (by omega)]
    exact hC.1 s hs
  · intro s
    rw [en, ech, h1 221 (by omega)]
    exact hC.2 s
  · rw [h3 0 (by omega)]; exact hV.1
  · rfl
  · intro i hi
    rw [en] at hi
    have := hV.2.2.1 i hi
    rw [h1 317 (by omega), h1 318 (by omega), h1 319 (by omega), h1 320 (by omega), h1 321 (by omega), h1 322 (by omega), h3 15 (by omega), h3 0 (by omega)]
    refine ⟨this.1, this.2.1, ?_, this.2.2.2⟩
    have := this.2.2.1
    omega
  · intro s hs
    rw [h3 15 (by omega)] at hs
    have := hV.2.2.2 s hs
    rw [h1 317 (by omega), h1 315 (by omega), h1 316 (by omega), h3 0 (by omega)]
    refine ⟨this.1, ?_, this.2.2⟩
    have := this.2.1
    omega
theorem ht_J_cg (h1 : ∀ a, (239 ≤ a ∧ a ≤ 242) ∨ (325 ≤ a ∧ a ≤ 328) → m' a = m a) (h2 : m' 229 17 = m 229 17) (h3 : m' 305 30 = m 305 30) (h : ht_J m) : ht_J m' := by
  unfold ht_J at *
  rw [h1 239 (by omega), h1 240 (by omega), h1 241 (by omega), h1 242 (by omega), h1 325 (by omega), h1 326 (by omega), h1 327 (by omega), h1 328 (by omega), h2, h3]
  exact h
theorem ev_J_cg (h1 : ∀ a, (230 ≤ a ∧ a ≤ 238) ∨ (329 ≤ a ∧ a ≤ 337) → m' a = m a) (h2 : ∀ k, k = 2 ∨ k = 6 ∨ k = 12 → m' 229 k = m 229 k) (h3 : ∀ k, k = 32 ∨ k = 36 ∨ k = 42 → m' 305 k = m 305 k) (h4 : m 305 11 ≤ m' 305 11) (h5 : m 305 0 ≤ m' 305 0) (h : ev_J m) : ev_J m' := by
  unfold ev_J at *
  rw [h1 230 (by omega), h1 231 (by omega), h1 232 (by omega), h1 233 (by omega), h1 234 (by omega), h1 235 (by omega), h1 236 (by omega), h1 237 (by omega), h1 238 (by omega), h1 329 (by omega), h1 330 (by omega), h1 331 (by omega), h1 332 (by omega), h1 333 (by omega), h1 334 (by omega), h1 335 (by omega), h1 336 (by omega), h1 337 (by omega), h2 2 (by omega), h2 6 (by omega), h2 12 (by omega), h3 32 (by omega), h3 36 (by omega), h3 42 (by omega)]
  obtain ⟨a1, a2, a3, a4, a5, a6, a7, a8⟩ := h
  refine ⟨a1, a2, a3, a4, a5, a6, fun i hi => ?_, a8⟩
  have := a7 i hi
  omega
theorem sp_J_cg (h2 : ∀ k, k ≤ 3 → m' 272 k = m 272 k) (h3 : ∀ k, 121 ≤ k → k ≤ 124 → m' 305 k = m 305 k) (h : sp_J m) : sp_J m' := by
  unfold sp_J at *
  rw [h2 0 (by omega), h2 1 (by omega), h2 2 (by omega), h2 3 (by omega), h3 121 (by omega) (by omega), h3 122 (by omega) (by omega), h3 123 (by omega) (by omega), h3 124 (by omega) (by omega)]
  exact h
theorem ng_J_cg (h1 : ∀ a, (259 ≤ a ∧ a ≤ 264) ∨ (375 ≤ a ∧ a ≤ 380) → m' a = m a) (h2 : ∀ k, k = 4 ∨ k = 5 ∨ k = 9 → m' 258 k = m 258 k) (h3 : ∀ k, k = 102 ∨ k = 103 ∨ k = 107 → m' 305 k = m 305 k) (h4 : m 305 6 ≤ m' 305 6) (h : ng_J m) : ng_J m' := by
  unfold ng_J at *
  rw [h1 259 (by omega), h1 260 (by omega), h1 261 (by omega), h1 262 (by omega), h1 263 (by omega), h1 264 (by omega), h1 375 (by omega), h1 376 (by omega), h1 377 (by omega), h1 378 (by omega), h1 379 (by omega), h1 380 (by omega), h2 4 (by omega), h2 5 (by omega), h2 9 (by omega), h3 102 (by omega), h3 103 (by omega), h3 107 (by omega)]
  obtain ⟨a1, a2, a3, a4, a5, a6, a7⟩ := h
  refine ⟨a1, a2, a3, a4, a5, a6, fun i hi => ?_⟩
  have := a7 i hi
  omega
theorem wn_J_cg (h1 : ∀ a, (246 ≤ a ∧ a ≤ 253) ∨ a = 369 → m' a = m a) (h : wn_J m) : wn_J m' := by
  intro i j hi hj
  rw [h1 (246 + i) (by omega), h1 369 (by omega)]
  exact h i j hi hj
theorem tp_J_cg (h1 : ∀ a, a = 304 ∨ a = 357 → m' a = m a) (h2 : ∀ k, k = 9 ∨ k = 10 → m' 200 k = m 200 k) (h3 : ∀ k, k = 66 ∨ k = 67 → m' 305 k = m 305 k) (h : tp_J m) : tp_J m' := by
  unfold tp_J at *
  rw [h1 304 (by omega), h1 357 (by omega), h2 9 (by omega), h2 10 (by omega), h3 66 (by omega), h3 67 (by omega)]
  exact h
end STATE
theorem tmp_at {σ : xS} {a : Nat} (h : (217 ≤ a ∧ a ≤ 228) ∨ (315 ≤ a ∧ a ≤ 323) ∨ (202 ≤ a ∧ a ≤ 206) ∨ (306 ≤ a ∧ a ≤ 314) ∨ (210 ≤ a ∧ a ≤ 213) ∨ (230 ≤ a ∧ a ≤ 242) ∨ (325 ≤ a ∧ a ≤ 337) ∨ (259 ≤ a ∧ a ≤ 264) ∨ (375 ≤ a ∧ a ≤ 380) ∨ (246 ≤ a ∧ a ≤ 253) ∨ a = 369 ∨ a = 304 ∨ a = 357 ∨ a = 200 ∨ a = 216 ∨ a = 229 ∨ a = 272) (k : Nat) : tmp σ a k = false := by
  have h1 : Nat.ble 392 a = false := by
    cases hb : Nat.ble 392 a with
    | false => rfl
    | true => exact absurd (Nat.le_of_ble_eq_true hb) (by omega)
  unfold tmp tmS
  rw [h1, Bool.false_and, Bool.or_false]
  have key : xmem [207, 208, 214, 215, 254, 255, 256, 257, 265, 266, 267, 268, 269, 270, 271, 273, 275, 276, 277, 278, 279, 280, 281, 282, 283, 284, 285, 287, 288, 289, 290, 291, 292, 293, 294, 295, 296, 297, 299, 300, 301, 302, 303, 324, 338, 339, 340, 358, 359, 360, 361, 362, 363, 364, 365, 366, 367, 368, 370, 371, 372, 373, 374, 381, 382, 383, 384, 385, 386, 387, 388, 389, 390, 391] a = false := by
    simp only [xmem]
    rw [beq_ff (by omega), beq_ff (by omega), beq_ff (by omega), beq_ff (by omega), beq_ff (by omega), beq_ff (by omega), beq_ff (by omega), beq_ff (by omega), beq_ff (by omega), beq_ff (by omega), beq_ff (by omega), beq_ff (by omega), beq_ff (by omega), beq_ff (by omega), beq_ff (by omega), beq_ff (by omega), beq_ff (by omega), beq_ff (by omega), beq_ff (by omega), beq_ff (by omega)]
    repeat rw [beq_ff (by omega)]
    rfl
  rw [key, beq_ff (show a ≠ 305 by omega), beq_ff (show a ≠ 201 by omega), beq_ff (show a ≠ 209 by omega), beq_ff (show a ≠ 258 by omega)]
  rfl
theorem ag.cl {σ σ' : xS} (h : ag σ σ') {a : Nat} (ha : (217 ≤ a ∧ a ≤ 228) ∨ (315 ≤ a ∧ a ≤ 323) ∨ (202 ≤ a ∧ a ≤ 206) ∨ (306 ≤ a ∧ a ≤ 314) ∨ (210 ≤ a ∧ a ≤ 213) ∨ (230 ≤ a ∧ a ≤ 242) ∨ (325 ≤ a ∧ a ≤ 337) ∨ (259 ≤ a ∧ a ≤ 264) ∨ (375 ≤ a ∧ a ≤ 380) ∨ (246 ≤ a ∧ a ≤ 253) ∨ a = 369 ∨ a = 304 ∨ a = 357 ∨ a = 200 ∨ a = 216 ∨ a = 229 ∨ a = 272) : σ'.1 a = σ.1 a := h.at fun k => tmp_at ha k
theorem bk_J_ag {σ τ : xS} (h : ag σ τ) (hJ : bk_J σ.1) : bk_J τ.1 :=
  bk_J_cg (fun a ha => h.cl (by omega)) (fun k _ => by rw [h.cl (a := 216) (by omega)]) (fun k hk => by rcases hk with rfl | rfl | rfl | rfl <;> exact h.sl rfl) (Int.le_of_eq (h.sl (a := 305) (k := 6) rfl).symm) (Int.le_of_eq (h.sl (a := 305) (k := 11) rfl).symm) hJ
theorem pJ_ag {σ τ : xS} (h : ag σ τ) (hJ : pJ σ.1) : pJ τ.1 := by
  obtain ⟨a1, a2, a3, a4, a5, a6, a7, a8, a9⟩ := hJ
  refine ⟨st_J_cg (fun a ha => h.cl (by omega)) (h.sl rfl) (h.sl rfl) a1, ho_J_cg (fun a ha => h.cl (by omega)) (h.sl rfl) (h.sl rfl) a2, bk_J_ag h a3, ht_J_cg (fun a ha => h.cl (by omega)) (h.sl rfl) (h.sl rfl) a4, ?_, ?_, ?_, wn_J_cg (fun a ha => h.cl (by omega)) a8, ?_⟩
  · exact ev_J_cg (fun a ha => h.cl (by omega)) (fun k hk => by rw [h.cl (a := 229) (by omega)]) (fun k hk => by rcases hk with rfl | rfl | rfl <;> exact h.sl rfl) (Int.le_of_eq (h.sl (a := 305) (k := 11) rfl).symm) (Int.le_of_eq (h.sl (a := 305) (k := 0) rfl).symm) a5
  · exact sp_J_cg (fun k hk => by rw [h.cl (a := 272) (by omega)]) (fun k h1 h2 => h.sl (by
      have : k = 121 ∨ k = 122 ∨ k = 123 ∨ k = 124 := by omega
      rcases this with rfl | rfl | rfl | rfl <;> rfl)) a6
  · exact ng_J_cg (fun a ha => h.cl (by omega)) (fun k hk => by rcases hk with rfl | rfl | rfl <;> exact h.sl rfl) (fun k hk => by rcases hk with rfl | rfl | rfl <;> exact h.sl rfl) (Int.le_of_eq (h.sl (a := 305) (k := 6) rfl).symm) a7
  · exact tp_J_cg (fun a ha => h.cl (by omega)) (fun k hk => by rw [h.cl (a := 200) (by omega)]) (fun k hk => by rcases hk with rfl | rfl <;> exact h.sl rfl) a9

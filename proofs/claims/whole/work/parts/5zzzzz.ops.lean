/-! THE START: what the two constructors do, as a list of new cells and of writes, the last one first -/
abbrev xop : Type := Nat × Nat × Nat × Int
def oap (E : xE) (σ : xS) (o : xop) : xS := cond (Nat.beq o.1 0) (xal E σ o.2.1 o.2.2.1) (xs σ o.2.1 o.2.2.1 o.2.2.2)
def orv (E : xE) : List xop → xS → xS
  | [], σ => σ
  | o :: l, σ => oap E (orv E l σ) o
def owr : List xop → List (Nat × Nat × Int)
  | [] => []
  | o :: l => cond (Nat.beq o.1 0) (owr l) (o.2 :: owr l)
def oty : List xop → List (Nat × Nat)
  | [] => []
  | o :: l => cond (Nat.beq o.1 0) (oty l ++ [(o.2.1, o.2.2.1)]) (oty l)
def osl : List xop → Nat
  | [] => 0
  | o :: l => cond (Nat.beq o.1 0) (osl l + o.2.2.1) (osl l)
/-- what is written lies in cells that stand -/
def ook (n : Nat) : List xop → Bool
  | [] => true
  | o :: l => (Nat.beq o.1 0 || Nat.blt o.2.1 (n + (oty l).length)) && ook n l
/-- a memory of so many writes, the last one first -/
def rdw : List (Nat × Nat × Int) → Nat → Nat → Int
  | [], _, _ => 0
  | q :: l, a, k => cond (Nat.beq a q.1 && Nat.beq k q.2.1) q.2.2 (rdw l a k)
theorem rdw_out : ∀ {w : List (Nat × Nat × Int)} {n k : Nat}, (∀ q ∈ w, q.1 < n) → rdw w n k = 0
  | [], _, _, _ => rfl
  | q :: w, n, k, h => by
    have h1 : Nat.beq n q.1 = false := by
      cases hb : Nat.beq n q.1 with
      | false => rfl
      | true => exact absurd (Nat.eq_of_beq_eq_true hb) (Nat.ne_of_gt (h q List.mem_cons_self))
    show cond (Nat.beq n q.1 && Nat.beq k q.2.1) q.2.2 (rdw w n k) = 0
    rw [h1]
    exact rdw_out (fun z hz => h z (List.mem_cons_of_mem _ hz))
theorem orv_eq {E : xE} {w : List (Nat × Nat × Int)} {σ : xS} (h1 : σ.1 = rdw w) (h2 : ∀ q ∈ w, q.1 < xnew E σ) : ∀ l, ook (xnew E σ) l = true → orv E l σ = (rdw (owr l ++ w), σ.2.1 ++ oty l, σ.2.2.1 + osl l, σ.2.2.2) ∧ ∀ q ∈ owr l ++ w, q.1 < xnew E σ + (oty l).length
  | [], _ => by
    refine ⟨?_, fun q hq => h2 q hq⟩
    show σ = (rdw w, σ.2.1 ++ [], σ.2.2.1 + 0, σ.2.2.2)
    rw [← h1, List.append_nil]
    rfl
  | o :: l, h => by
    have h : ((Nat.beq o.1 0 || Nat.blt o.2.1 (xnew E σ + (oty l).length)) && ook (xnew E σ) l) = true := h
    rw [Bool.and_eq_true] at h
    obtain ⟨ho, hl⟩ := h
    obtain ⟨e, hw⟩ := orv_eq h1 h2 l hl
    have e0 : orv E (o :: l) σ = oap E (orv E l σ) o := rfl
    rw [e0, e]
    have hn : xnew E (rdw (owr l ++ w), σ.2.1 ++ oty l, σ.2.2.1 + osl l, σ.2.2.2) = xnew E σ + (oty l).length := by
      show E.1 + (σ.2.1 ++ oty l).length = E.1 + σ.2.1.length + (oty l).length
      rw [List.length_append, Nat.add_assoc]
    cases hb : Nat.beq o.1 0 with
    | true =>
      have e1 : owr (o :: l) = owr l := by show cond (Nat.beq o.1 0) _ _ = _; rw [hb]; rfl
      have e2 : oty (o :: l) = oty l ++ [(o.2.1, o.2.2.1)] := by show cond (Nat.beq o.1 0) _ _ = _; rw [hb]; rfl
      have e3 : osl (o :: l) = osl l + o.2.2.1 := by show cond (Nat.beq o.1 0) _ _ = _; rw [hb]; rfl
      rw [e1, e2, e3]
      refine ⟨?_, fun q hq => Nat.lt_of_lt_of_le (hw q hq) (by rw [List.length_append]; exact Nat.add_le_add_left (Nat.le_add_right _ _) _)⟩
      unfold oap
      rw [hb]
      show ((fun b j => cond (Nat.beq b (xnew E (rdw (owr l ++ w), σ.2.1 ++ oty l, σ.2.2.1 + osl l, σ.2.2.2))) 0 (rdw (owr l ++ w) b j)), (σ.2.1 ++ oty l) ++ [(o.2.1, o.2.2.1)], σ.2.2.1 + osl l + o.2.2.1, σ.2.2.2) = _
      rw [List.append_assoc, Nat.add_assoc σ.2.2.1]
      refine congrArg (fun f : Nat → Nat → Int => (f, σ.2.1 ++ (oty l ++ [(o.2.1, o.2.2.1)]), σ.2.2.1 + (osl l + o.2.2.1), σ.2.2.2)) ?_
      funext b j
      rw [hn]
      cases hq : Nat.beq b (xnew E σ + (oty l).length) with
      | false => rfl
      | true =>
        show (0 : Int) = rdw (owr l ++ w) b j
        rw [Nat.eq_of_beq_eq_true hq]
        exact (rdw_out hw).symm
    | false =>
      have e1 : owr (o :: l) = o.2 :: owr l := by show cond (Nat.beq o.1 0) _ _ = _; rw [hb]; rfl
      have e2 : oty (o :: l) = oty l := by show cond (Nat.beq o.1 0) _ _ = _; rw [hb]; rfl
      have e3 : osl (o :: l) = osl l := by show cond (Nat.beq o.1 0) _ _ = _; rw [hb]; rfl
      rw [hb, Bool.false_or] at ho
      have ho : o.2.1 < xnew E σ + (oty l).length := by
        unfold Nat.blt at ho
        exact Nat.le_of_ble_eq_true ho
      rw [e1, e2, e3]
      refine ⟨?_, fun q hq => ?_⟩
      · unfold oap
        rw [hb]
        rfl
      · rcases List.mem_cons.mp hq with e4 | e4
        · rw [e4]; exact ho
        · exact hw q e4
/-- what is written of a cell -/
def sel : List (Nat × Nat × Int) → Nat → List (Nat × Int)
  | [], _ => []
  | q :: l, a => cond (Nat.beq a q.1) (q.2 :: sel l a) (sel l a)
def lkw : List (Nat × Int) → Nat → Int
  | [], _ => 0
  | q :: l, k => cond (Nat.beq k q.1) q.2 (lkw l k)
theorem rdw_sel : ∀ (w : List (Nat × Nat × Int)) (a k : Nat), rdw w a k = lkw (sel w a) k
  | [], _, _ => rfl
  | q :: w, a, k => by
    show cond (Nat.beq a q.1 && Nat.beq k q.2.1) q.2.2 (rdw w a k) = lkw (cond (Nat.beq a q.1) (q.2 :: sel w a) (sel w a)) k
    rw [rdw_sel w a k]
    cases Nat.beq a q.1 with
    | false => rfl
    | true => rfl
theorem rdw_same {w : List (Nat × Nat × Int)} {a b : Nat} (h : sel w a = sel w b) : rdw w a = rdw w b := by
  funext k
  rw [rdw_sel, rdw_sel, h]
theorem rdw_zero {w : List (Nat × Nat × Int)} {a : Nat} (h : sel w a = []) (k : Nat) : rdw w a k = 0 := by
  rw [rdw_sel, h]
  rfl

set_option maxRecDepth 100000 in
/-- all that the constructors write, the last first -/
noncomputable def wA : List (Nat × Nat × Int) := [(305, 126, (.ofNat (nat_lit 391))), (305, 125, (.ofNat (nat_lit 390))), (305, 124, (.ofNat (nat_lit 3))), (305, 123, (.ofNat (nat_lit 1))), (305, 122, (.ofNat (nat_lit 50))), (305, 121, (.ofNat (nat_lit 10))), (305, 120, (.ofNat (nat_lit 389))), (305, 115, (.ofNat (nat_lit 388))), (305, 114, (.ofNat (nat_lit 387))), (305, 113, (.ofNat (nat_lit 386))), (305, 112, (.ofNat (nat_lit 385))), (305, 111, (.ofNat (nat_lit 384))), (305, 110, (.ofNat (nat_lit 383))), (305, 109, (.ofNat (nat_lit 382))), (305, 108, (.ofNat (nat_lit 381))), (305, 106, (.ofNat (nat_lit 380))), (305, 105, (.ofNat (nat_lit 379))), (305, 104, (.ofNat (nat_lit 378))), (305, 103, (.ofNat (nat_lit 1))), (305, 101, (.ofNat (nat_lit 377))), (305, 100, (.ofNat (nat_lit 376))), (305, 99, (.ofNat (nat_lit 375))), (305, 97, (.ofNat (nat_lit 374))), (305, 96, (.ofNat (nat_lit 373))), (305, 95, (.ofNat (nat_lit 372))), (305, 94, (.ofNat (nat_lit 371))), (305, 91, (.ofNat (nat_lit 370))), (305, 90, (.ofNat (nat_lit 369))), (305, 89, (.ofNat (nat_lit 368))), (305, 88, (.ofNat (nat_lit 367))), (305, 87, (.ofNat (nat_lit 366))), (305, 86, (.ofNat (nat_lit 365))), (305, 85, (.ofNat (nat_lit 364))), (305, 84, (.ofNat (nat_lit 363))), (305, 81, (.ofNat (nat_lit 362))), (305, 80, (.ofNat (nat_lit 361))), (305, 79, (.ofNat (nat_lit 360))), (305, 78, (.ofNat (nat_lit 359))), (305, 77, (.ofNat (nat_lit 358))), (305, 67, (.negSucc (nat_lit 0))), (305, 65, (.ofNat (nat_lit 357))), (305, 63, (.ofNat (nat_lit 356))), (305, 62, (.ofNat (nat_lit 355))), (305, 61, (.ofNat (nat_lit 354))), (305, 60, (.ofNat (nat_lit 353))), (305, 59, (.ofNat (nat_lit 352))), (305, 58, (.ofNat (nat_lit 351))), (305, 56, (.ofNat (nat_lit 350))), (305, 55, (.ofNat (nat_lit 349))), (305, 54, (.ofNat (nat_lit 348))), (305, 53, (.ofNat (nat_lit 347))), (305, 52, (.ofNat (nat_lit 346))), (305, 51, (.ofNat (nat_lit 345))), (305, 50, (.ofNat (nat_lit 344))), (305, 48, (.ofNat (nat_lit 343))), (305, 47, (.ofNat (nat_lit 342))), (305, 46, (.ofNat (nat_lit 341))), (305, 45, (.ofNat (nat_lit 340))), (305, 44, (.ofNat (nat_lit 339))), (305, 43, (.ofNat (nat_lit 338))), (305, 41, (.ofNat (nat_lit 337))), (305, 40, (.ofNat (nat_lit 336))), (305, 39, (.ofNat (nat_lit 335))), (305, 38, (.ofNat (nat_lit 334))), (305, 37, (.ofNat (nat_lit 333))), (305, 35, (.ofNat (nat_lit 332))), (305, 34, (.ofNat (nat_lit 331))), (305, 33, (.ofNat (nat_lit 330))), (305, 32, (.ofNat (nat_lit 100))), (305, 31, (.ofNat (nat_lit 329))), (329, 3, (.ofNat (nat_lit 1))), (329, 2, (.ofNat (nat_lit 1))), (329, 1, (.ofNat (nat_lit 1))), (329, 0, (.ofNat (nat_lit 1))), (305, 29, (.ofNat (nat_lit 328))), (305, 28, (.ofNat (nat_lit 327))), (305, 27, (.ofNat (nat_lit 326))), (305, 26, (.ofNat (nat_lit 325))), (305, 24, (.ofNat (nat_lit 324))), (305, 21, (.ofNat (nat_lit 323))), (305, 20, (.ofNat (nat_lit 322))), (305, 19, (.ofNat (nat_lit 321))), (305, 18, (.ofNat (nat_lit 320))), (305, 17, (.ofNat (nat_lit 319))), (305, 16, (.ofNat (nat_lit 318))), (305, 14, (.ofNat (nat_lit 317))), (305, 13, (.ofNat (nat_lit 316))), (305, 12, (.ofNat (nat_lit 315))), (305, 10, (.ofNat (nat_lit 314))), (305, 9, (.ofNat (nat_lit 313))), (305, 8, (.ofNat (nat_lit 312))), (305, 7, (.ofNat (nat_lit 311))), (305, 5, (.ofNat (nat_lit 310))), (305, 4, (.ofNat (nat_lit 309))), (305, 3, (.ofNat (nat_lit 308))), (305, 2, (.ofNat (nat_lit 307))), (305, 1, (.ofNat (nat_lit 306))), (200, 10, (.negSucc (nat_lit 0))), (200, 8, (.ofNat (nat_lit 304))), (200, 7, (.ofNat (nat_lit 297))), (297, 6, (.ofNat (nat_lit 303))), (297, 5, (.ofNat (nat_lit 302))), (297, 4, (.ofNat (nat_lit 301))), (297, 3, (.ofNat (nat_lit 300))), (297, 2, (.ofNat (nat_lit 299))), (297, 0, (.ofNat (nat_lit 298))), (200, 6, (.ofNat (nat_lit 272))), (272, 6, (.ofNat (nat_lit 286))), (286, 9, (.ofNat (nat_lit 296))), (286, 8, (.ofNat (nat_lit 295))), (286, 7, (.ofNat (nat_lit 294))), (286, 6, (.ofNat (nat_lit 293))), (286, 5, (.ofNat (nat_lit 292))), (286, 4, (.ofNat (nat_lit 291))), (286, 3, (.ofNat (nat_lit 290))), (286, 2, (.ofNat (nat_lit 289))), (286, 1, (.ofNat (nat_lit 288))), (286, 0, (.ofNat (nat_lit 287))), (272, 5, (.ofNat (nat_lit 274))), (274, 10, (.ofNat (nat_lit 285))), (274, 9, (.ofNat (nat_lit 284))), (274, 8, (.ofNat (nat_lit 283))), (274, 7, (.ofNat (nat_lit 282))), (274, 6, (.ofNat (nat_lit 281))), (274, 5, (.ofNat (nat_lit 280))), (274, 4, (.ofNat (nat_lit 279))), (274, 3, (.ofNat (nat_lit 278))), (274, 2, (.ofNat (nat_lit 277))), (274, 1, (.ofNat (nat_lit 276))), (274, 0, (.ofNat (nat_lit 275))), (272, 4, (.ofNat (nat_lit 273))), (272, 3, (.ofNat (nat_lit 3))), (272, 2, (.ofNat (nat_lit 1))), (272, 1, (.ofNat (nat_lit 50))), (272, 0, (.ofNat (nat_lit 10))), (200, 5, (.ofNat (nat_lit 258))), (258, 0, (.ofNat (nat_lit 201))), (258, 17, (.ofNat (nat_lit 271))), (258, 16, (.ofNat (nat_lit 270))), (258, 15, (.ofNat (nat_lit 269))), (258, 14, (.ofNat (nat_lit 268))), (258, 13, (.ofNat (nat_lit 267))), (258, 12, (.ofNat (nat_lit 266))), (258, 11, (.ofNat (nat_lit 265))), (258, 8, (.ofNat (nat_lit 264))), (258, 7, (.ofNat (nat_lit 263))), (258, 6, (.ofNat (nat_lit 262))), (258, 5, (.ofNat (nat_lit 1))), (258, 3, (.ofNat (nat_lit 261))), (258, 2, (.ofNat (nat_lit 260))), (258, 1, (.ofNat (nat_lit 259))), (200, 4, (.ofNat (nat_lit 243))), (243, 3, (.ofNat (nat_lit 229))), (243, 2, (.ofNat (nat_lit 216))), (243, 1, (.ofNat (nat_lit 209))), (243, 0, (.ofNat (nat_lit 201))), (243, 10, (.ofNat (nat_lit 257))), (243, 9, (.ofNat (nat_lit 256))), (243, 8, (.ofNat (nat_lit 255))), (243, 7, (.ofNat (nat_lit 254))), (243, 6, (.ofNat (nat_lit 245))), (245, 7, (.ofNat (nat_lit 253))), (245, 6, (.ofNat (nat_lit 252))), (245, 5, (.ofNat (nat_lit 251))), (245, 4, (.ofNat (nat_lit 250))), (245, 3, (.ofNat (nat_lit 249))), (245, 2, (.ofNat (nat_lit 248))), (245, 1, (.ofNat (nat_lit 247))), (245, 0, (.ofNat (nat_lit 246))), (243, 4, (.ofNat (nat_lit 244))), (200, 3, (.ofNat (nat_lit 229))), (230, 3, (.ofNat (nat_lit 1))), (230, 2, (.ofNat (nat_lit 1))), (230, 1, (.ofNat (nat_lit 1))), (230, 0, (.ofNat (nat_lit 1))), (229, 0, (.ofNat (nat_lit 216))), (229, 16, (.ofNat (nat_lit 242))), (229, 15, (.ofNat (nat_lit 241))), (229, 14, (.ofNat (nat_lit 240))), (229, 13, (.ofNat (nat_lit 239))), (229, 11, (.ofNat (nat_lit 238))), (229, 10, (.ofNat (nat_lit 237))), (229, 9, (.ofNat (nat_lit 236))), (229, 8, (.ofNat (nat_lit 235))), (229, 7, (.ofNat (nat_lit 234))), (229, 5, (.ofNat (nat_lit 233))), (229, 4, (.ofNat (nat_lit 232))), (229, 3, (.ofNat (nat_lit 231))), (229, 2, (.ofNat (nat_lit 100))), (229, 1, (.ofNat (nat_lit 230))), (200, 2, (.ofNat (nat_lit 216))), (216, 13, (.ofNat (nat_lit 228))), (216, 12, (.ofNat (nat_lit 227))), (216, 11, (.ofNat (nat_lit 226))), (216, 10, (.ofNat (nat_lit 225))), (216, 9, (.ofNat (nat_lit 224))), (216, 8, (.ofNat (nat_lit 223))), (216, 7, (.ofNat (nat_lit 222))), (216, 5, (.ofNat (nat_lit 221))), (216, 4, (.ofNat (nat_lit 220))), (216, 3, (.ofNat (nat_lit 219))), (216, 2, (.ofNat (nat_lit 218))), (216, 1, (.ofNat (nat_lit 217))), (200, 1, (.ofNat (nat_lit 209))), (209, 6, (.ofNat (nat_lit 215))), (209, 5, (.ofNat (nat_lit 214))), (209, 3, (.ofNat (nat_lit 213))), (209, 2, (.ofNat (nat_lit 212))), (209, 1, (.ofNat (nat_lit 211))), (209, 0, (.ofNat (nat_lit 210))), (200, 0, (.ofNat (nat_lit 201))), (201, 7, (.ofNat (nat_lit 208))), (201, 6, (.ofNat (nat_lit 207))), (201, 4, (.ofNat (nat_lit 206))), (201, 3, (.ofNat (nat_lit 205))), (201, 2, (.ofNat (nat_lit 204))), (201, 1, (.ofNat (nat_lit 203))), (201, 0, (.ofNat (nat_lit 202)))]
noncomputable def m0 : Nat → Nat → Int := rdw wA
theorem m0_same {a b : Nat} (h : sel wA a = sel wA b) : m0 a = m0 b := rdw_same h
theorem m0_zero {a : Nat} (h : sel wA a = []) (k : Nat) : m0 a k = 0 := rdw_zero h k
set_option maxRecDepth 100000 in
theorem st0_num : (m0 305 0 = 0 ∧ m0 305 6 = 0 ∧ m0 305 11 = 0 ∧ m0 305 15 = 0 ∧ m0 305 22 = 0 ∧ m0 305 23 = 0 ∧ m0 305 30 = 0 ∧ m0 305 32 = 100 ∧ m0 305 36 = 0 ∧ m0 305 42 = 0 ∧ m0 305 49 = 0 ∧ m0 305 57 = 0 ∧ m0 305 64 = 0 ∧ m0 305 66 = 0 ∧ m0 305 67 = -1 ∧ m0 305 102 = 0 ∧ m0 305 103 = 1 ∧ m0 305 107 = 0) ∧ (m0 305 121 = 10 ∧ m0 305 122 = 50 ∧ m0 305 123 = 1 ∧ m0 305 124 = 3) := by decide +kernel
set_option maxRecDepth 100000 in
theorem st0_cls : (m0 201 5 = 0 ∧ m0 209 4 = 0 ∧ m0 216 0 = 0 ∧ m0 216 6 = 0 ∧ m0 216 14 = 0 ∧ m0 216 15 = 0 ∧ m0 229 17 = 0 ∧ m0 229 2 = 100 ∧ m0 229 6 = 0 ∧ m0 229 12 = 0 ∧ m0 243 5 = 0 ∧ m0 200 9 = 0 ∧ m0 200 10 = -1 ∧ m0 258 4 = 0 ∧ m0 258 5 = 1 ∧ m0 258 9 = 0) ∧ (m0 272 0 = 10 ∧ m0 272 1 = 50 ∧ m0 272 2 = 1 ∧ m0 272 3 = 3) := by decide +kernel
set_option maxRecDepth 100000 in
theorem st0_sel : ∀ q ∈ ([(202, 306), (203, 307), (204, 308), (205, 309), (206, 310), (210, 311), (211, 312), (212, 313), (213, 314), (222, 318), (223, 319), (224, 320), (225, 321), (226, 322), (227, 323), (217, 315), (218, 316), (219, 317), (239, 325), (240, 326), (241, 327), (242, 328), (230, 329), (231, 330), (232, 331), (233, 332), (234, 333), (235, 334), (236, 335), (237, 336), (238, 337), (259, 375), (260, 376), (261, 377), (262, 378), (263, 379), (264, 380)] : List (Nat × Nat)), sel wA q.1 = sel wA q.2 := by decide +kernel
set_option maxRecDepth 100000 in
theorem st0_nul : ∀ a ∈ ([221, 246, 247, 248, 249, 250, 251, 252, 253, 304, 357, 369] : List Nat), sel wA a = [] := by decide +kernel
theorem st0_eq {a b : Nat} (h : (a, b) ∈ ([(202, 306), (203, 307), (204, 308), (205, 309), (206, 310), (210, 311), (211, 312), (212, 313), (213, 314), (222, 318), (223, 319), (224, 320), (225, 321), (226, 322), (227, 323), (217, 315), (218, 316), (219, 317), (239, 325), (240, 326), (241, 327), (242, 328), (230, 329), (231, 330), (232, 331), (233, 332), (234, 333), (235, 334), (236, 335), (237, 336), (238, 337), (259, 375), (260, 376), (261, 377), (262, 378), (263, 379), (264, 380)] : List (Nat × Nat))) : m0 a = m0 b := m0_same (st0_sel _ h)
theorem st0_z {a : Nat} (h : a ∈ ([221, 246, 247, 248, 249, 250, 251, 252, 253, 304, 357, 369] : List Nat)) (k : Nat) : m0 a k = 0 := m0_zero (st0_nul a h) k
set_option maxRecDepth 100000 in
theorem st0_four : m0 329 0 = 1 ∧ m0 329 1 = 1 ∧ m0 329 2 = 1 ∧ m0 329 3 = 1 := by decide +kernel

/-- what stands between calls stands at the start -/
theorem pJ_0 : pJ m0 := by
  obtain ⟨⟨a0, a6, a11, a15, a22, a23, a30, a32, a36, a42, a49, a57, a64, a66, a67, a102, a103, a107⟩, a121, a122, a123, a124⟩ := st0_num
  obtain ⟨⟨c1, c2, c3, c4, c5, c6, c7, c8, c9, c10, c11, c12, c13, c14, c15, c16⟩, c17, c18, c19, c20⟩ := st0_cls
  have nn : ∀ {x : Int} {i : Nat}, x = 0 → ¬ i < x.toNat := fun h h2 => by rw [h] at h2; exact absurd h2 (Nat.not_lt_zero _)
  have E : ∀ {a b : Nat}, (a, b) ∈ ([(202, 306), (203, 307), (204, 308), (205, 309), (206, 310), (210, 311), (211, 312), (212, 313), (213, 314), (222, 318), (223, 319), (224, 320), (225, 321), (226, 322), (227, 323), (217, 315), (218, 316), (219, 317), (239, 325), (240, 326), (241, 327), (242, 328), (230, 329), (231, 330), (232, 331), (233, 332), (234, 333), (235, 334), (236, 335), (237, 336), (238, 337), (259, 375), (260, 376), (261, 377), (262, 378), (263, 379), (264, 380)] : List (Nat × Nat)) → m0 a = m0 b := fun h => st0_eq h
  refine ⟨?_, ?_, ?_, ?_, ?_, ?_, ?_, ?_, ?_⟩
  · refine ⟨⟨E (by decide), E (by decide), E (by decide), E (by decide), E (by decide), by rw [c1, a6]⟩, by rw [a6]; decide, fun i hi => absurd hi (nn a6)⟩
  · refine ⟨⟨E (by decide), E (by decide), E (by decide), E (by decide), by rw [c2, a11]⟩, by rw [a11]; decide, fun i hi => absurd hi (nn a11)⟩
  · have hn : bk_n m0 = 0 := by show (m0 305 22).toNat = 0; rw [a22]; rfl
    refine ⟨?_, ?_, ?_, ?_⟩
    · unfold bk_B
      rw [a22, a15]
      decide
    · exact ⟨⟨E (by decide), E (by decide), E (by decide), E (by decide), E (by decide), E (by decide)⟩, ⟨E (by decide), E (by decide), E (by decide)⟩, by rw [c5, a22], by rw [c4, a15], by rw [c3, a0], by rw [c6, a23]⟩
    · refine ⟨fun s hs => absurd hs (nn a15), fun s => ?_⟩
      have z : m0 221 s = 0 := st0_z (a := 221) (by decide) s
      rw [z, hn]
      rfl
    · refine ⟨by rw [a0]; decide, rfl, fun i hi => absurd hi (by rw [hn]; exact Nat.not_lt_zero _), fun s hs => absurd hs (nn a15)⟩
  · exact ⟨⟨E (by decide), E (by decide), E (by decide), E (by decide), by rw [c7, a30]⟩, by rw [a30]; decide⟩
  · refine ⟨⟨E (by decide), by rw [c8, a32], E (by decide), E (by decide), E (by decide), by rw [c9, a36]⟩, ⟨E (by decide), E (by decide), E (by decide), E (by decide), E (by decide), by rw [c10, a42]⟩, by rw [a36]; decide, by rw [a42]; decide, by rw [a32]; decide, fun i hi => ?_, fun i hi => absurd hi (nn a36), fun i hi => absurd hi (nn a42)⟩
    obtain ⟨f0, f1, f2, f3⟩ := st0_four
    rcases (show i = 0 ∨ i = 1 ∨ i = 2 ∨ i = 3 by omega) with e | e | e | e <;> subst e
    · rw [f0]; decide
    · rw [f1]; decide
    · rw [f2]; decide
    · rw [f3]; decide
  · exact ⟨⟨by rw [c17, a121], by rw [c18, a122], by rw [c19, a123], by rw [c20, a124]⟩, by rw [a121]; decide, by rw [a122]; decide, by rw [a123]; decide, by rw [a124]; decide⟩
  · refine ⟨⟨E (by decide), E (by decide), E (by decide), by rw [c14, a102], by rw [c15, a103]⟩, ⟨E (by decide), E (by decide), E (by decide), by rw [c16, a107]⟩, by rw [a102]; decide, by rw [a103]; decide, by rw [a107]; decide, fun i hi => absurd hi (nn a102), fun i hi => absurd hi (nn a107)⟩
  · intro h j hh hj
    have z : m0 (246 + h) j = 0 := by
      rcases (show h = 0 ∨ h = 1 ∨ h = 2 ∨ h = 3 ∨ h = 4 ∨ h = 5 ∨ h = 6 ∨ h = 7 by omega) with e | e | e | e | e | e | e | e <;> subst e <;> exact st0_z (by decide) j
    have z2 : m0 369 (42 * h + j) = 0 := st0_z (by decide) _
    show m0 (246 + h) j = m0 369 (42 * h + j) ∧ 0 ≤ m0 369 (42 * h + j) ∧ m0 369 (42 * h + j) ≤ 50
    rw [z, z2]
    decide
  · refine ⟨⟨by rw [c12, a66], by rw [c13, a67]⟩, by rw [a66]; decide, by rw [a67]; decide, fun i _ => ?_⟩
    rw [show m0 304 i = 0 from st0_z (by decide) i, show m0 357 i = 0 from st0_z (by decide) i]
    decide
theorem te_J_0 {t : List (Nat × Nat)} : te_J m0 t := by
  obtain ⟨⟨a0, a6, a11, a15, a22, a23, a30, a32, a36, a42, a49, a57, a64, a66, a67, a102, a103, a107⟩, -⟩ := st0_num
  obtain ⟨⟨c1, c2, c3, c4, c5, c6, c7, c8, c9, c10, c11, c12, c13, c14, c15, c16⟩, -⟩ := st0_cls
  refine ⟨by rw [c11, a49], by rw [a49]; decide, by rw [a57, a49]; decide, by rw [a64, a49]; decide, fun x hx => ?_⟩
  rw [a49] at hx
  exact absurd hx (Nat.not_lt_zero _)
theorem tw_J_0 {t : List (Nat × Nat)} : tw_J m0 t := by
  intro x hx
  rw [st0_num.1.2.2.2.2.2.2.2.2.2.2.1] at hx
  exact absurd hx (Nat.not_lt_zero _)
theorem JJ_0 {t : List (Nat × Nat)} {sl dp L : Nat} {Xs : Nat → Int} : JJ (m0, t, sl, dp, L, Xs) := ⟨pJ_0, te_J_0, tw_J_0⟩


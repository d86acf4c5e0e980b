/-! THE START: what the two constructors do, as a list of new cells and of writes, the last one first -/
abbrev xop : Type := Nat × Nat × Nat × Int
def oap (E : xE) (σ : xS) (o : xop) : xS := cond (Nat.beq o.1 0) (xal E σ o.2.1 o.2.2.1) (xs σ o.2.1 o.2.2.1 o.2.2.2)
def orv (E : xE) : List xop → xS → xS
  | [], σ => σ
  | o :: l, σ => oap E (orv E l σ) o
def owr : List xop → List (Nat × Nat × Int)
  | [] => []
  | o :: l => cond (Nat.beq o.1 0) (owr l) (o.2 :: owr l)
def oty : List xop → List (Nat × Nat)
  | [] => []
  | o :: l => cond (Nat.beq o.1 0) (oty l ++ [(o.2.1, o.2.2.1)]) (oty l)
def osl : List xop → Nat
  | [] => 0
  | o :: l => cond (Nat.beq o.1 0) (osl l + o.2.2.1) (osl l)
/-- what is written lies in cells that stand -/
def ook (n : Nat) : List xop → Bool
  | [] => true
  | o :: l => (Nat.beq o.1 0 || Nat.blt o.2.1 (n + (oty l).length)) && ook n l
/-- a memory of so many writes, the last one first -/
def rdw : List (Nat × Nat × Int) → Nat → Nat → Int
  | [], _, _ => 0
  | q :: l, a, k => cond (Nat.beq a q.1 && Nat.beq k q.2.1) q.2.2 (rdw l a k)
theorem rdw_out : ∀ {w : List (Nat × Nat × Int)} {n k : Nat}, (∀ q ∈ w, q.1 < n) → rdw w n k = 0
  | [], _, _, _ => rfl
  | q :: w, n, k, h => by
    have h1 : Nat.beq n q.1 = false := by
      cases hb : Nat.beq n q.1 with
      | false => rfl
      | true => exact absurd (Nat.eq_of_beq_eq_true hb) (Nat.ne_of_gt (h q List.mem_cons_self))
    show cond (Nat.beq n q.1 && Nat.beq k q.2.1) q.2.2 (rdw w n k) = 0
    rw [h1]
    exact rdw_out (fun z hz => h z (List.mem_cons_of_mem _ hz))
theorem orv_eq {E : xE} {w : List (Nat × Nat × Int)} {σ : xS} (h1 : σ.1 = rdw w) (h2 : ∀ q ∈ w, q.1 < xnew E σ) : ∀ l, ook (xnew E σ) l = true → orv E l σ = (rdw (owr l ++ w), σ.2.1 ++ oty l, σ.2.2.1 + osl l, σ.2.2.2) ∧ ∀ q ∈ owr l ++ w, q.1 < xnew E σ + (oty l).length
  | [], _ => by
    refine ⟨?_, fun q hq => by simpa using h2 q (by simpa [owr] using hq)⟩
    show σ = (rdw w, σ.2.1 ++ [], σ.2.2.1 + 0, σ.2.2.2)
    rw [← h1, List.append_nil]
  | o :: l, h => by
    have h : ((Nat.beq o.1 0 || Nat.blt o.2.1 (xnew E σ + (oty l).length)) && ook (xnew E σ) l) = true := h
    rw [Bool.and_eq_true] at h
    obtain ⟨ho, hl⟩ := h
    obtain ⟨e, hw⟩ := orv_eq h1 h2 l hl
    have e0 : orv E (o :: l) σ = oap E (orv E l σ) o := rfl
    rw [e0, e]
    have hn : xnew E (rdw (owr l ++ w), σ.2.1 ++ oty l, σ.2.2.1 + osl l, σ.2.2.2) = xnew E σ + (oty l).length := by
      show E.1 + (σ.2.1 ++ oty l).length = E.1 + σ.2.1.length + (oty l).length
      rw [List.length_append, Nat.add_assoc]
    cases hb : Nat.beq o.1 0 with
    | true =>
      have e1 : owr (o :: l) = owr l := by show cond (Nat.beq o.1 0) _ _ = _; rw [hb]; rfl
      have e2 : oty (o :: l) = oty l ++ [(o.2.1, o.2.2.1)] := by show cond (Nat.beq o.1 0) _ _ = _; rw [hb]; rfl
      have e3 : osl (o :: l) = osl l + o.2.2.1 := by show cond (Nat.beq o.1 0) _ _ = _; rw [hb]; rfl
      rw [e1, e2, e3]
      refine ⟨?_, fun q hq => Nat.lt_of_lt_of_le (hw q hq) (by rw [List.length_append]; exact Nat.add_le_add_left (Nat.le_add_right _ _) _)⟩
      unfold oap
      rw [hb]
      show ((fun b j => cond (Nat.beq b (xnew E (rdw (owr l ++ w), σ.2.1 ++ oty l, σ.2.2.1 + osl l, σ.2.2.2))) 0 (rdw (owr l ++ w) b j)), (σ.2.1 ++ oty l) ++ [(o.2.1, o.2.2.1)], σ.2.2.1 + osl l + o.2.2.1, σ.2.2.2) = _
      rw [List.append_assoc, Nat.add_assoc σ.2.2.1]
      refine congrArg (fun f : Nat → Nat → Int => (f, σ.2.1 ++ (oty l ++ [(o.2.1, o.2.2.1)]), σ.2.2.1 + (osl l + o.2.2.1), σ.2.2.2)) ?_
      funext b j
      rw [hn]
      cases hq : Nat.beq b (xnew E σ + (oty l).length) with
      | false => rfl
      | true =>
        show (0 : Int) = rdw (owr l ++ w) b j
        rw [Nat.eq_of_beq_eq_true hq]
        exact (rdw_out hw).symm
    | false =>
      have e1 : owr (o :: l) = o.2 :: owr l := by show cond (Nat.beq o.1 0) _ _ = _; rw [hb]; rfl
      have e2 : oty (o :: l) = oty l := by show cond (Nat.beq o.1 0) _ _ = _; rw [hb]; rfl
      have e3 : osl (o :: l) = osl l := by show cond (Nat.beq o.1 0) _ _ = _; rw [hb]; rfl
      rw [hb, Bool.false_or] at ho
      have ho : o.2.1 < xnew E σ + (oty l).length := by
        unfold Nat.blt at ho
        exact Nat.le_of_ble_eq_true ho
      rw [e1, e2, e3]
      refine ⟨?_, fun q hq => ?_⟩
      · unfold oap
        rw [hb]
        rfl
      · rcases List.mem_cons.mp hq with e4 | e4
        · rw [e4]; exact ho
        · exact hw q e4
/-- what is written of a cell -/
def sel : List (Nat × Nat × Int) → Nat → List (Nat × Int)
  | [], _ => []
  | q :: l, a => cond (Nat.beq a q.1) (q.2 :: sel l a) (sel l a)
def lkw : List (Nat × Int) → Nat → Int
  | [], _ => 0
  | q :: l, k => cond (Nat.beq k q.1) q.2 (lkw l k)
theorem rdw_sel : ∀ (w : List (Nat × Nat × Int)) (a k : Nat), rdw w a k = lkw (sel w a) k
  | [], _, _ => rfl
  | q :: w, a, k => by
    show cond (Nat.beq a q.1 && Nat.beq k q.2.1) q.2.2 (rdw w a k) = lkw (cond (Nat.beq a q.1) (q.2 :: sel w a) (sel w a)) k
    rw [rdw_sel w a k]
    cases Nat.beq a q.1 with
    | false => rfl
    | true => rfl
theorem rdw_same {w : List (Nat × Nat × Int)} {a b : Nat} (h : sel w a = sel w b) : rdw w a = rdw w b := by
  funext k
  rw [rdw_sel, rdw_sel, h]
theorem rdw_zero {w : List (Nat × Nat × Int)} {a : Nat} (h : sel w a = []) (k : Nat) : rdw w a k = 0 := by
  rw [rdw_sel, h]
  rfl

set_option maxRecDepth 100000 in
noncomputable def opC : List xop := [(1, 200, 10, (.negSucc (nat_lit 0))), (1, 200, 8, (.ofNat (nat_lit 304))), (0, 103, 400, (.ofNat (nat_lit 0))), (1, 200, 7, (.ofNat (nat_lit 297))), (1, 297, 6, (.ofNat (nat_lit 303))), (0, 105, 401, (.ofNat (nat_lit 0))), (1, 297, 5, (.ofNat (nat_lit 302))), (0, 100, 401, (.ofNat (nat_lit 0))), (1, 297, 4, (.ofNat (nat_lit 301))), (0, 103, 401, (.ofNat (nat_lit 0))), (1, 297, 3, (.ofNat (nat_lit 300))), (0, 100, 401, (.ofNat (nat_lit 0))), (1, 297, 2, (.ofNat (nat_lit 299))), (0, 100, 401, (.ofNat (nat_lit 0))), (1, 297, 0, (.ofNat (nat_lit 298))), (0, 103, 0, (.ofNat (nat_lit 0))), (0, 8, 15, (.ofNat (nat_lit 0))), (1, 200, 6, (.ofNat (nat_lit 272))), (1, 272, 6, (.ofNat (nat_lit 286))), (1, 286, 9, (.ofNat (nat_lit 296))), (0, 100, 51, (.ofNat (nat_lit 0))), (1, 286, 8, (.ofNat (nat_lit 295))), (0, 100, 51, (.ofNat (nat_lit 0))), (1, 286, 7, (.ofNat (nat_lit 294))), (0, 100, 51, (.ofNat (nat_lit 0))), (1, 286, 6, (.ofNat (nat_lit 293))), (0, 100, 51, (.ofNat (nat_lit 0))), (1, 286, 5, (.ofNat (nat_lit 292))), (0, 100, 51, (.ofNat (nat_lit 0))), (1, 286, 4, (.ofNat (nat_lit 291))), (0, 100, 51, (.ofNat (nat_lit 0))), (1, 286, 3, (.ofNat (nat_lit 290))), (0, 100, 51, (.ofNat (nat_lit 0))), (1, 286, 2, (.ofNat (nat_lit 289))), (0, 100, 51, (.ofNat (nat_lit 0))), (1, 286, 1, (.ofNat (nat_lit 288))), (0, 100, 51, (.ofNat (nat_lit 0))), (1, 286, 0, (.ofNat (nat_lit 287))), (0, 100, 51, (.ofNat (nat_lit 0))), (0, 107, 10, (.ofNat (nat_lit 0))), (1, 272, 5, (.ofNat (nat_lit 274))), (1, 274, 10, (.ofNat (nat_lit 285))), (0, 100, 51, (.ofNat (nat_lit 0))), (1, 274, 9, (.ofNat (nat_lit 284))), (0, 100, 51, (.ofNat (nat_lit 0))), (1, 274, 8, (.ofNat (nat_lit 283))), (0, 100, 51, (.ofNat (nat_lit 0))), (1, 274, 7, (.ofNat (nat_lit 282))), (0, 100, 51, (.ofNat (nat_lit 0))), (1, 274, 6, (.ofNat (nat_lit 281))), (0, 100, 51, (.ofNat (nat_lit 0))), (1, 274, 5, (.ofNat (nat_lit 280))), (0, 100, 51, (.ofNat (nat_lit 0))), (1, 274, 4, (.ofNat (nat_lit 279))), (0, 100, 51, (.ofNat (nat_lit 0))), (1, 274, 3, (.ofNat (nat_lit 278))), (0, 100, 51, (.ofNat (nat_lit 0))), (1, 274, 2, (.ofNat (nat_lit 277))), (0, 100, 51, (.ofNat (nat_lit 0))), (1, 274, 1, (.ofNat (nat_lit 276))), (0, 100, 51, (.ofNat (nat_lit 0))), (1, 274, 0, (.ofNat (nat_lit 275))), (0, 100, 51, (.ofNat (nat_lit 0))), (0, 107, 11, (.ofNat (nat_lit 0))), (1, 272, 4, (.ofNat (nat_lit 273))), (0, 100, 10, (.ofNat (nat_lit 0))), (1, 272, 3, (.ofNat (nat_lit 3))), (1, 272, 2, (.ofNat (nat_lit 1))), (1, 272, 1, (.ofNat (nat_lit 50))), (1, 272, 0, (.ofNat (nat_lit 10))), (0, 10, 7, (.ofNat (nat_lit 0))), (1, 200, 5, (.ofNat (nat_lit 258))), (1, 258, 0, (.ofNat (nat_lit 201))), (1, 258, 17, (.ofNat (nat_lit 271))), (0, 100, 7, (.ofNat (nat_lit 0))), (1, 258, 16, (.ofNat (nat_lit 270))), (0, 100, 7, (.ofNat (nat_lit 0))), (1, 258, 15, (.ofNat (nat_lit 269))), (0, 100, 7, (.ofNat (nat_lit 0))), (1, 258, 14, (.ofNat (nat_lit 268))), (0, 100, 7, (.ofNat (nat_lit 0))), (1, 258, 13, (.ofNat (nat_lit 267))), (0, 100, 3, (.ofNat (nat_lit 0))), (1, 258, 12, (.ofNat (nat_lit 266))), (0, 100, 3, (.ofNat (nat_lit 0))), (1, 258, 11, (.ofNat (nat_lit 265))), (0, 100, 3, (.ofNat (nat_lit 0))), (1, 258, 8, (.ofNat (nat_lit 264))), (0, 100, 7, (.ofNat (nat_lit 0))), (1, 258, 7, (.ofNat (nat_lit 263))), (0, 100, 7, (.ofNat (nat_lit 0))), (1, 258, 6, (.ofNat (nat_lit 262))), (0, 100, 7, (.ofNat (nat_lit 0))), (1, 258, 5, (.ofNat (nat_lit 1))), (1, 258, 3, (.ofNat (nat_lit 261))), (0, 100, 3, (.ofNat (nat_lit 0))), (1, 258, 2, (.ofNat (nat_lit 260))), (0, 100, 3, (.ofNat (nat_lit 0))), (1, 258, 1, (.ofNat (nat_lit 259))), (0, 100, 3, (.ofNat (nat_lit 0))), (0, 6, 20, (.ofNat (nat_lit 0))), (1, 200, 4, (.ofNat (nat_lit 243))), (1, 243, 3, (.ofNat (nat_lit 229))), (1, 243, 2, (.ofNat (nat_lit 216))), (1, 243, 1, (.ofNat (nat_lit 209))), (1, 243, 0, (.ofNat (nat_lit 201))), (1, 243, 10, (.ofNat (nat_lit 257))), (0, 101, 3, (.ofNat (nat_lit 0))), (1, 243, 9, (.ofNat (nat_lit 256))), (0, 101, 3, (.ofNat (nat_lit 0))), (1, 243, 8, (.ofNat (nat_lit 255))), (0, 101, 3, (.ofNat (nat_lit 0))), (1, 243, 7, (.ofNat (nat_lit 254))), (0, 101, 10, (.ofNat (nat_lit 0))), (1, 243, 6, (.ofNat (nat_lit 245))), (1, 245, 7, (.ofNat (nat_lit 253))), (0, 100, 42, (.ofNat (nat_lit 0))), (1, 245, 6, (.ofNat (nat_lit 252))), (0, 100, 42, (.ofNat (nat_lit 0))), (1, 245, 5, (.ofNat (nat_lit 251))), (0, 100, 42, (.ofNat (nat_lit 0))), (1, 245, 4, (.ofNat (nat_lit 250))), (0, 100, 42, (.ofNat (nat_lit 0))), (1, 245, 3, (.ofNat (nat_lit 249))), (0, 100, 42, (.ofNat (nat_lit 0))), (1, 245, 2, (.ofNat (nat_lit 248))), (0, 100, 42, (.ofNat (nat_lit 0))), (1, 245, 1, (.ofNat (nat_lit 247))), (0, 100, 42, (.ofNat (nat_lit 0))), (1, 245, 0, (.ofNat (nat_lit 246))), (0, 100, 42, (.ofNat (nat_lit 0))), (0, 107, 8, (.ofNat (nat_lit 0))), (1, 243, 4, (.ofNat (nat_lit 244))), (0, 106, 8, (.ofNat (nat_lit 0))), (0, 5, 11, (.ofNat (nat_lit 0))), (1, 200, 3, (.ofNat (nat_lit 229))), (1, 230, 3, (.ofNat (nat_lit 1))), (1, 230, 2, (.ofNat (nat_lit 1))), (1, 230, 1, (.ofNat (nat_lit 1))), (1, 230, 0, (.ofNat (nat_lit 1))), (1, 229, 0, (.ofNat (nat_lit 216))), (1, 229, 16, (.ofNat (nat_lit 242))), (0, 100, 60, (.ofNat (nat_lit 0))), (1, 229, 15, (.ofNat (nat_lit 241))), (0, 100, 60, (.ofNat (nat_lit 0))), (1, 229, 14, (.ofNat (nat_lit 240))), (0, 100, 60, (.ofNat (nat_lit 0))), (1, 229, 13, (.ofNat (nat_lit 239))), (0, 100, 60, (.ofNat (nat_lit 0))), (1, 229, 11, (.ofNat (nat_lit 238))), (0, 100, 60, (.ofNat (nat_lit 0))), (1, 229, 10, (.ofNat (nat_lit 237))), (0, 100, 60, (.ofNat (nat_lit 0))), (1, 229, 9, (.ofNat (nat_lit 236))), (0, 100, 60, (.ofNat (nat_lit 0))), (1, 229, 8, (.ofNat (nat_lit 235))), (0, 100, 60, (.ofNat (nat_lit 0))), (1, 229, 7, (.ofNat (nat_lit 234))), (0, 100, 60, (.ofNat (nat_lit 0))), (1, 229, 5, (.ofNat (nat_lit 233))), (0, 100, 60, (.ofNat (nat_lit 0))), (1, 229, 4, (.ofNat (nat_lit 232))), (0, 100, 60, (.ofNat (nat_lit 0))), (1, 229, 3, (.ofNat (nat_lit 231))), (0, 100, 60, (.ofNat (nat_lit 0))), (1, 229, 2, (.ofNat (nat_lit 100))), (1, 229, 1, (.ofNat (nat_lit 230))), (0, 100, 4, (.ofNat (nat_lit 0))), (0, 3, 18, (.ofNat (nat_lit 0))), (1, 200, 2, (.ofNat (nat_lit 216))), (1, 216, 13, (.ofNat (nat_lit 228))), (0, 100, 600, (.ofNat (nat_lit 0))), (1, 216, 12, (.ofNat (nat_lit 227))), (0, 100, 600, (.ofNat (nat_lit 0))), (1, 216, 11, (.ofNat (nat_lit 226))), (0, 100, 600, (.ofNat (nat_lit 0))), (1, 216, 10, (.ofNat (nat_lit 225))), (0, 100, 600, (.ofNat (nat_lit 0))), (1, 216, 9, (.ofNat (nat_lit 224))), (0, 100, 600, (.ofNat (nat_lit 0))), (1, 216, 8, (.ofNat (nat_lit 223))), (0, 100, 600, (.ofNat (nat_lit 0))), (1, 216, 7, (.ofNat (nat_lit 222))), (0, 100, 600, (.ofNat (nat_lit 0))), (1, 216, 5, (.ofNat (nat_lit 221))), (0, 100, 150, (.ofNat (nat_lit 0))), (1, 216, 4, (.ofNat (nat_lit 220))), (0, 100, 150, (.ofNat (nat_lit 0))), (1, 216, 3, (.ofNat (nat_lit 219))), (0, 100, 150, (.ofNat (nat_lit 0))), (1, 216, 2, (.ofNat (nat_lit 218))), (0, 100, 150, (.ofNat (nat_lit 0))), (1, 216, 1, (.ofNat (nat_lit 217))), (0, 100, 150, (.ofNat (nat_lit 0))), (0, 2, 16, (.ofNat (nat_lit 0))), (1, 200, 1, (.ofNat (nat_lit 209))), (1, 209, 6, (.ofNat (nat_lit 215))), (0, 100, 8, (.ofNat (nat_lit 0))), (1, 209, 5, (.ofNat (nat_lit 214))), (0, 100, 8, (.ofNat (nat_lit 0))), (1, 209, 3, (.ofNat (nat_lit 213))), (0, 100, 8, (.ofNat (nat_lit 0))), (1, 209, 2, (.ofNat (nat_lit 212))), (0, 100, 8, (.ofNat (nat_lit 0))), (1, 209, 1, (.ofNat (nat_lit 211))), (0, 100, 8, (.ofNat (nat_lit 0))), (1, 209, 0, (.ofNat (nat_lit 210))), (0, 100, 8, (.ofNat (nat_lit 0))), (0, 4, 9, (.ofNat (nat_lit 0))), (1, 200, 0, (.ofNat (nat_lit 201))), (1, 201, 7, (.ofNat (nat_lit 208))), (0, 100, 9001, (.ofNat (nat_lit 0))), (1, 201, 6, (.ofNat (nat_lit 207))), (0, 100, 6, (.ofNat (nat_lit 0))), (1, 201, 4, (.ofNat (nat_lit 206))), (0, 100, 6, (.ofNat (nat_lit 0))), (1, 201, 3, (.ofNat (nat_lit 205))), (0, 100, 6, (.ofNat (nat_lit 0))), (1, 201, 2, (.ofNat (nat_lit 204))), (0, 100, 6, (.ofNat (nat_lit 0))), (1, 201, 1, (.ofNat (nat_lit 203))), (0, 100, 6, (.ofNat (nat_lit 0))), (1, 201, 0, (.ofNat (nat_lit 202))), (0, 100, 6, (.ofNat (nat_lit 0))), (0, 9, 9, (.ofNat (nat_lit 0)))]
set_option maxRecDepth 100000 in
noncomputable def opM : List xop := [(1, 305, 126, (.ofNat (nat_lit 391))), (0, 101, 561, (.ofNat (nat_lit 0))), (1, 305, 125, (.ofNat (nat_lit 390))), (0, 100, 11, (.ofNat (nat_lit 0))), (1, 305, 124, (.ofNat (nat_lit 3))), (1, 305, 123, (.ofNat (nat_lit 1))), (1, 305, 122, (.ofNat (nat_lit 50))), (1, 305, 121, (.ofNat (nat_lit 10))), (1, 305, 120, (.ofNat (nat_lit 389))), (0, 100, 8, (.ofNat (nat_lit 0))), (1, 305, 115, (.ofNat (nat_lit 388))), (0, 104, 16, (.ofNat (nat_lit 0))), (1, 305, 114, (.ofNat (nat_lit 387))), (0, 100, 3, (.ofNat (nat_lit 0))), (1, 305, 113, (.ofNat (nat_lit 386))), (0, 100, 3, (.ofNat (nat_lit 0))), (1, 305, 112, (.ofNat (nat_lit 385))), (0, 100, 3, (.ofNat (nat_lit 0))), (1, 305, 111, (.ofNat (nat_lit 384))), (0, 100, 7, (.ofNat (nat_lit 0))), (1, 305, 110, (.ofNat (nat_lit 383))), (0, 100, 7, (.ofNat (nat_lit 0))), (1, 305, 109, (.ofNat (nat_lit 382))), (0, 100, 8, (.ofNat (nat_lit 0))), (1, 305, 108, (.ofNat (nat_lit 381))), (0, 100, 8, (.ofNat (nat_lit 0))), (1, 305, 106, (.ofNat (nat_lit 380))), (0, 100, 7, (.ofNat (nat_lit 0))), (1, 305, 105, (.ofNat (nat_lit 379))), (0, 100, 7, (.ofNat (nat_lit 0))), (1, 305, 104, (.ofNat (nat_lit 378))), (0, 100, 7, (.ofNat (nat_lit 0))), (1, 305, 103, (.ofNat (nat_lit 1))), (1, 305, 101, (.ofNat (nat_lit 377))), (0, 100, 3, (.ofNat (nat_lit 0))), (1, 305, 100, (.ofNat (nat_lit 376))), (0, 100, 3, (.ofNat (nat_lit 0))), (1, 305, 99, (.ofNat (nat_lit 375))), (0, 100, 3, (.ofNat (nat_lit 0))), (1, 305, 97, (.ofNat (nat_lit 374))), (0, 100, 500, (.ofNat (nat_lit 0))), (1, 305, 96, (.ofNat (nat_lit 373))), (0, 100, 500, (.ofNat (nat_lit 0))), (1, 305, 95, (.ofNat (nat_lit 372))), (0, 100, 500, (.ofNat (nat_lit 0))), (1, 305, 94, (.ofNat (nat_lit 371))), (0, 100, 500, (.ofNat (nat_lit 0))), (1, 305, 91, (.ofNat (nat_lit 370))), (0, 102, 1400, (.ofNat (nat_lit 0))), (1, 305, 90, (.ofNat (nat_lit 369))), (0, 100, 336, (.ofNat (nat_lit 0))), (1, 305, 89, (.ofNat (nat_lit 368))), (0, 101, 3, (.ofNat (nat_lit 0))), (1, 305, 88, (.ofNat (nat_lit 367))), (0, 101, 3, (.ofNat (nat_lit 0))), (1, 305, 87, (.ofNat (nat_lit 366))), (0, 101, 3, (.ofNat (nat_lit 0))), (1, 305, 86, (.ofNat (nat_lit 365))), (0, 101, 10, (.ofNat (nat_lit 0))), (1, 305, 85, (.ofNat (nat_lit 364))), (0, 101, 24, (.ofNat (nat_lit 0))), (1, 305, 84, (.ofNat (nat_lit 363))), (0, 101, 3300, (.ofNat (nat_lit 0))), (1, 305, 81, (.ofNat (nat_lit 362))), (0, 100, 500, (.ofNat (nat_lit 0))), (1, 305, 80, (.ofNat (nat_lit 361))), (0, 100, 500, (.ofNat (nat_lit 0))), (1, 305, 79, (.ofNat (nat_lit 360))), (0, 100, 500, (.ofNat (nat_lit 0))), (1, 305, 78, (.ofNat (nat_lit 359))), (0, 100, 500, (.ofNat (nat_lit 0))), (1, 305, 77, (.ofNat (nat_lit 358))), (0, 100, 500, (.ofNat (nat_lit 0))), (1, 305, 67, (.negSucc (nat_lit 0))), (1, 305, 65, (.ofNat (nat_lit 357))), (0, 102, 400, (.ofNat (nat_lit 0))), (1, 305, 63, (.ofNat (nat_lit 356))), (0, 101, 3300, (.ofNat (nat_lit 0))), (1, 305, 62, (.ofNat (nat_lit 355))), (0, 100, 3300, (.ofNat (nat_lit 0))), (1, 305, 61, (.ofNat (nat_lit 354))), (0, 100, 3300, (.ofNat (nat_lit 0))), (1, 305, 60, (.ofNat (nat_lit 353))), (0, 100, 3300, (.ofNat (nat_lit 0))), (1, 305, 59, (.ofNat (nat_lit 352))), (0, 100, 3300, (.ofNat (nat_lit 0))), (1, 305, 58, (.ofNat (nat_lit 351))), (0, 100, 3300, (.ofNat (nat_lit 0))), (1, 305, 56, (.ofNat (nat_lit 350))), (0, 101, 200, (.ofNat (nat_lit 0))), (1, 305, 55, (.ofNat (nat_lit 349))), (0, 100, 200, (.ofNat (nat_lit 0))), (1, 305, 54, (.ofNat (nat_lit 348))), (0, 100, 200, (.ofNat (nat_lit 0))), (1, 305, 53, (.ofNat (nat_lit 347))), (0, 100, 200, (.ofNat (nat_lit 0))), (1, 305, 52, (.ofNat (nat_lit 346))), (0, 100, 200, (.ofNat (nat_lit 0))), (1, 305, 51, (.ofNat (nat_lit 345))), (0, 100, 200, (.ofNat (nat_lit 0))), (1, 305, 50, (.ofNat (nat_lit 344))), (0, 100, 200, (.ofNat (nat_lit 0))), (1, 305, 48, (.ofNat (nat_lit 343))), (0, 100, 8, (.ofNat (nat_lit 0))), (1, 305, 47, (.ofNat (nat_lit 342))), (0, 100, 8, (.ofNat (nat_lit 0))), (1, 305, 46, (.ofNat (nat_lit 341))), (0, 100, 8, (.ofNat (nat_lit 0))), (1, 305, 45, (.ofNat (nat_lit 340))), (0, 100, 6, (.ofNat (nat_lit 0))), (1, 305, 44, (.ofNat (nat_lit 339))), (0, 100, 9001, (.ofNat (nat_lit 0))), (1, 305, 43, (.ofNat (nat_lit 338))), (0, 100, 9001, (.ofNat (nat_lit 0))), (1, 305, 41, (.ofNat (nat_lit 337))), (0, 100, 60, (.ofNat (nat_lit 0))), (1, 305, 40, (.ofNat (nat_lit 336))), (0, 100, 60, (.ofNat (nat_lit 0))), (1, 305, 39, (.ofNat (nat_lit 335))), (0, 100, 60, (.ofNat (nat_lit 0))), (1, 305, 38, (.ofNat (nat_lit 334))), (0, 100, 60, (.ofNat (nat_lit 0))), (1, 305, 37, (.ofNat (nat_lit 333))), (0, 100, 60, (.ofNat (nat_lit 0))), (1, 305, 35, (.ofNat (nat_lit 332))), (0, 100, 60, (.ofNat (nat_lit 0))), (1, 305, 34, (.ofNat (nat_lit 331))), (0, 100, 60, (.ofNat (nat_lit 0))), (1, 305, 33, (.ofNat (nat_lit 330))), (0, 100, 60, (.ofNat (nat_lit 0))), (1, 305, 32, (.ofNat (nat_lit 100))), (1, 305, 31, (.ofNat (nat_lit 329))), (1, 329, 3, (.ofNat (nat_lit 1))), (1, 329, 2, (.ofNat (nat_lit 1))), (1, 329, 1, (.ofNat (nat_lit 1))), (1, 329, 0, (.ofNat (nat_lit 1))), (0, 100, 4, (.ofNat (nat_lit 0))), (1, 305, 29, (.ofNat (nat_lit 328))), (0, 100, 60, (.ofNat (nat_lit 0))), (1, 305, 28, (.ofNat (nat_lit 327))), (0, 100, 60, (.ofNat (nat_lit 0))), (1, 305, 27, (.ofNat (nat_lit 326))), (0, 100, 60, (.ofNat (nat_lit 0))), (1, 305, 26, (.ofNat (nat_lit 325))), (0, 100, 60, (.ofNat (nat_lit 0))), (1, 305, 24, (.ofNat (nat_lit 324))), (0, 100, 600, (.ofNat (nat_lit 0))), (1, 305, 21, (.ofNat (nat_lit 323))), (0, 100, 600, (.ofNat (nat_lit 0))), (1, 305, 20, (.ofNat (nat_lit 322))), (0, 100, 600, (.ofNat (nat_lit 0))), (1, 305, 19, (.ofNat (nat_lit 321))), (0, 100, 600, (.ofNat (nat_lit 0))), (1, 305, 18, (.ofNat (nat_lit 320))), (0, 100, 600, (.ofNat (nat_lit 0))), (1, 305, 17, (.ofNat (nat_lit 319))), (0, 100, 600, (.ofNat (nat_lit 0))), (1, 305, 16, (.ofNat (nat_lit 318))), (0, 100, 600, (.ofNat (nat_lit 0))), (1, 305, 14, (.ofNat (nat_lit 317))), (0, 100, 150, (.ofNat (nat_lit 0))), (1, 305, 13, (.ofNat (nat_lit 316))), (0, 100, 150, (.ofNat (nat_lit 0))), (1, 305, 12, (.ofNat (nat_lit 315))), (0, 100, 150, (.ofNat (nat_lit 0))), (1, 305, 10, (.ofNat (nat_lit 314))), (0, 100, 8, (.ofNat (nat_lit 0))), (1, 305, 9, (.ofNat (nat_lit 313))), (0, 100, 8, (.ofNat (nat_lit 0))), (1, 305, 8, (.ofNat (nat_lit 312))), (0, 100, 8, (.ofNat (nat_lit 0))), (1, 305, 7, (.ofNat (nat_lit 311))), (0, 100, 8, (.ofNat (nat_lit 0))), (1, 305, 5, (.ofNat (nat_lit 310))), (0, 100, 6, (.ofNat (nat_lit 0))), (1, 305, 4, (.ofNat (nat_lit 309))), (0, 100, 6, (.ofNat (nat_lit 0))), (1, 305, 3, (.ofNat (nat_lit 308))), (0, 100, 6, (.ofNat (nat_lit 0))), (1, 305, 2, (.ofNat (nat_lit 307))), (0, 100, 6, (.ofNat (nat_lit 0))), (1, 305, 1, (.ofNat (nat_lit 306))), (0, 100, 6, (.ofNat (nat_lit 0)))]
set_option maxRecDepth 100000 in
noncomputable def tyC : List (Nat × Nat) := [((nat_lit 12), (nat_lit 11)), ((nat_lit 9), (nat_lit 9)), ((nat_lit 100), (nat_lit 6)), ((nat_lit 100), (nat_lit 6)), ((nat_lit 100), (nat_lit 6)), ((nat_lit 100), (nat_lit 6)), ((nat_lit 100), (nat_lit 6)), ((nat_lit 100), (nat_lit 6)), ((nat_lit 100), (nat_lit 9001)), ((nat_lit 4), (nat_lit 9)), ((nat_lit 100), (nat_lit 8)), ((nat_lit 100), (nat_lit 8)), ((nat_lit 100), (nat_lit 8)), ((nat_lit 100), (nat_lit 8)), ((nat_lit 100), (nat_lit 8)), ((nat_lit 100), (nat_lit 8)), ((nat_lit 2), (nat_lit 16)), ((nat_lit 100), (nat_lit 150)), ((nat_lit 100), (nat_lit 150)), ((nat_lit 100), (nat_lit 150)), ((nat_lit 100), (nat_lit 150)), ((nat_lit 100), (nat_lit 150)), ((nat_lit 100), (nat_lit 600)), ((nat_lit 100), (nat_lit 600)), ((nat_lit 100), (nat_lit 600)), ((nat_lit 100), (nat_lit 600)), ((nat_lit 100), (nat_lit 600)), ((nat_lit 100), (nat_lit 600)), ((nat_lit 100), (nat_lit 600)), ((nat_lit 3), (nat_lit 18)), ((nat_lit 100), (nat_lit 4)), ((nat_lit 100), (nat_lit 60)), ((nat_lit 100), (nat_lit 60)), ((nat_lit 100), (nat_lit 60)), ((nat_lit 100), (nat_lit 60)), ((nat_lit 100), (nat_lit 60)), ((nat_lit 100), (nat_lit 60)), ((nat_lit 100), (nat_lit 60)), ((nat_lit 100), (nat_lit 60)), ((nat_lit 100), (nat_lit 60)), ((nat_lit 100), (nat_lit 60)), ((nat_lit 100), (nat_lit 60)), ((nat_lit 100), (nat_lit 60)), ((nat_lit 5), (nat_lit 11)), ((nat_lit 106), (nat_lit 8)), ((nat_lit 107), (nat_lit 8)), ((nat_lit 100), (nat_lit 42)), ((nat_lit 100), (nat_lit 42)), ((nat_lit 100), (nat_lit 42)), ((nat_lit 100), (nat_lit 42)), ((nat_lit 100), (nat_lit 42)), ((nat_lit 100), (nat_lit 42)), ((nat_lit 100), (nat_lit 42)), ((nat_lit 100), (nat_lit 42)), ((nat_lit 101), (nat_lit 10)), ((nat_lit 101), (nat_lit 3)), ((nat_lit 101), (nat_lit 3)), ((nat_lit 101), (nat_lit 3)), ((nat_lit 6), (nat_lit 20)), ((nat_lit 100), (nat_lit 3)), ((nat_lit 100), (nat_lit 3)), ((nat_lit 100), (nat_lit 3)), ((nat_lit 100), (nat_lit 7)), ((nat_lit 100), (nat_lit 7)), ((nat_lit 100), (nat_lit 7)), ((nat_lit 100), (nat_lit 3)), ((nat_lit 100), (nat_lit 3)), ((nat_lit 100), (nat_lit 3)), ((nat_lit 100), (nat_lit 7)), ((nat_lit 100), (nat_lit 7)), ((nat_lit 100), (nat_lit 7)), ((nat_lit 100), (nat_lit 7)), ((nat_lit 10), (nat_lit 7)), ((nat_lit 100), (nat_lit 10)), ((nat_lit 107), (nat_lit 11)), ((nat_lit 100), (nat_lit 51)), ((nat_lit 100), (nat_lit 51)), ((nat_lit 100), (nat_lit 51)), ((nat_lit 100), (nat_lit 51)), ((nat_lit 100), (nat_lit 51)), ((nat_lit 100), (nat_lit 51)), ((nat_lit 100), (nat_lit 51)), ((nat_lit 100), (nat_lit 51)), ((nat_lit 100), (nat_lit 51)), ((nat_lit 100), (nat_lit 51)), ((nat_lit 100), (nat_lit 51)), ((nat_lit 107), (nat_lit 10)), ((nat_lit 100), (nat_lit 51)), ((nat_lit 100), (nat_lit 51)), ((nat_lit 100), (nat_lit 51)), ((nat_lit 100), (nat_lit 51)), ((nat_lit 100), (nat_lit 51)), ((nat_lit 100), (nat_lit 51)), ((nat_lit 100), (nat_lit 51)), ((nat_lit 100), (nat_lit 51)), ((nat_lit 100), (nat_lit 51)), ((nat_lit 100), (nat_lit 51)), ((nat_lit 8), (nat_lit 15)), ((nat_lit 103), (nat_lit 0)), ((nat_lit 100), (nat_lit 401)), ((nat_lit 100), (nat_lit 401)), ((nat_lit 103), (nat_lit 401)), ((nat_lit 100), (nat_lit 401)), ((nat_lit 105), (nat_lit 401)), ((nat_lit 103), (nat_lit 400))]
/-- all that is written -/
noncomputable def wA : List (Nat × Nat × Int) := owr opM ++ owr opC
noncomputable def m0 : Nat → Nat → Int := rdw wA
theorem m0_same {a b : Nat} (h : sel wA a = sel wA b) : m0 a = m0 b := rdw_same h
theorem m0_zero {a : Nat} (h : sel wA a = []) (k : Nat) : m0 a k = 0 := rdw_zero h k
set_option maxRecDepth 100000 in
theorem st0_ook : ook 201 opC = true := by decide +kernel
set_option maxRecDepth 100000 in
theorem st0_ookM : ook 306 opM = true := by decide +kernel
set_option maxRecDepth 100000 in
theorem st0_oty : [(12, 11)] ++ oty opC = tyC ∧ (tyC ++ [(13, 127)]) ++ oty opM = xFTf ∧ tyC.length = 105 ∧ xFTf.length = 192 := by decide +kernel
set_option maxRecDepth 100000 in
theorem st0_osl : 11 + osl opC = 18820 ∧ 18820 + 127 + osl opM = 74259 := by decide +kernel

/-- a state ahead of all -/
def s00 (L : Nat) (Xs : Nat → Int) : xS := (fun _ _ => 0, [], 0, 1300, L, Xs)
/-- behind the class's constructor, behind the reference's -/
noncomputable def s01 (L : Nat) (Xs : Nat → Int) : xS := (rdw (owr opC), tyC, 18820, 1300, L, Xs)
noncomputable def s02 (L : Nat) (Xs : Nat → Int) : xS := (m0, xFTf, 74259, 1300, L, Xs)
theorem s01_eq (L : Nat) (Xs : Nat → Int) : orv xE0 opC (xal xE0 (s00 L Xs) 12 11) = s01 L Xs := by
  have h := (orv_eq (E := xE0) (w := []) (σ := xal xE0 (s00 L Xs) 12 11) (by funext b j; show cond _ 0 0 = (0 : Int); cases Nat.beq b (xnew xE0 (s00 L Xs)) <;> rfl) (fun q hq => absurd hq List.not_mem_nil) opC st0_ook).1
  rw [h, List.append_nil]
  show (rdw (owr opC), ([] ++ [(12, 11)]) ++ oty opC, 0 + 11 + osl opC, 1300, L, Xs) = _
  rw [List.nil_append, st0_oty.1, Nat.zero_add, st0_osl.1]
  rfl
theorem s02_eq (L : Nat) (Xs : Nat → Int) : orv xE0 opM (xal xE0 (s01 L Xs) 13 127) = s02 L Xs := by
  have hn : xnew xE0 (s01 L Xs) = 305 := by show 200 + tyC.length = 305; rw [st0_oty.2.2.1]
  have hn2 : xnew xE0 (xal xE0 (s01 L Xs) 13 127) = 306 := by show 200 + (tyC ++ [(13, 127)]).length = 306; rw [List.length_append, st0_oty.2.2.1]; rfl
  have hw : ∀ q ∈ owr opC, q.1 < 305 := by
    have := (orv_eq (E := xE0) (w := []) (σ := xal xE0 (s00 L Xs) 12 11) (by funext b j; show cond _ 0 0 = (0 : Int); cases Nat.beq b (xnew xE0 (s00 L Xs)) <;> rfl) (fun q hq => absurd hq List.not_mem_nil) opC st0_ook).2
    rw [List.append_nil] at this
    intro q hq
    have h1 := this q hq
    have h2 : xnew xE0 (xal xE0 (s00 L Xs) 12 11) = 201 := rfl
    have h3 := congrArg List.length st0_oty.1
    rw [List.length_append, st0_oty.2.2.1] at h3
    rw [h2] at h1
    have h4 : ([(12, 11)] : List (Nat × Nat)).length = 1 := rfl
    omega
  have h := (orv_eq (E := xE0) (w := owr opC) (σ := xal xE0 (s01 L Xs) 13 127) (by
    funext b j
    show cond (Nat.beq b (xnew xE0 (s01 L Xs))) 0 (rdw (owr opC) b j) = rdw (owr opC) b j
    rw [hn]
    cases hb : Nat.beq b 305 with
    | false => rfl
    | true => rw [Nat.eq_of_beq_eq_true hb]; exact (rdw_out hw).symm) (fun q hq => by rw [hn2]; exact Nat.lt_succ_of_lt (hw q hq)) opM (by rw [hn2]; exact st0_ookM)).1
  rw [h]
  show (rdw (owr opM ++ owr opC), (tyC ++ [(13, 127)]) ++ oty opM, 18820 + 127 + osl opM, 1300, L, Xs) = _
  rw [st0_oty.2.1, st0_osl.2]
  rfl

set_option maxRecDepth 100000 in
theorem st0_num : (m0 305 0 = 0 ∧ m0 305 6 = 0 ∧ m0 305 11 = 0 ∧ m0 305 15 = 0 ∧ m0 305 22 = 0 ∧ m0 305 23 = 0 ∧ m0 305 30 = 0 ∧ m0 305 32 = 100 ∧ m0 305 36 = 0 ∧ m0 305 42 = 0 ∧ m0 305 49 = 0 ∧ m0 305 57 = 0 ∧ m0 305 64 = 0 ∧ m0 305 66 = 0 ∧ m0 305 67 = -1 ∧ m0 305 102 = 0 ∧ m0 305 103 = 1 ∧ m0 305 107 = 0) ∧ (m0 305 121 = 10 ∧ m0 305 122 = 50 ∧ m0 305 123 = 1 ∧ m0 305 124 = 3) := by decide +kernel
set_option maxRecDepth 100000 in
theorem st0_cls : (m0 201 5 = 0 ∧ m0 209 4 = 0 ∧ m0 216 0 = 0 ∧ m0 216 6 = 0 ∧ m0 216 14 = 0 ∧ m0 216 15 = 0 ∧ m0 229 17 = 0 ∧ m0 229 2 = 100 ∧ m0 229 6 = 0 ∧ m0 229 12 = 0 ∧ m0 243 5 = 0 ∧ m0 200 9 = 0 ∧ m0 200 10 = -1 ∧ m0 258 4 = 0 ∧ m0 258 5 = 1 ∧ m0 258 9 = 0) ∧ (m0 272 0 = 10 ∧ m0 272 1 = 50 ∧ m0 272 2 = 1 ∧ m0 272 3 = 3) := by decide +kernel
set_option maxRecDepth 100000 in
theorem st0_sel : ∀ q ∈ ([(202, 306), (203, 307), (204, 308), (205, 309), (206, 310), (210, 311), (211, 312), (212, 313), (213, 314), (222, 318), (223, 319), (224, 320), (225, 321), (226, 322), (227, 323), (217, 315), (218, 316), (219, 317), (239, 325), (240, 326), (241, 327), (242, 328), (230, 329), (231, 330), (232, 331), (233, 332), (234, 333), (235, 334), (236, 335), (237, 336), (238, 337), (259, 375), (260, 376), (261, 377), (262, 378), (263, 379), (264, 380)] : List (Nat × Nat)), sel wA q.1 = sel wA q.2 := by decide +kernel
set_option maxRecDepth 100000 in
theorem st0_nul : ∀ a ∈ ([221, 246, 247, 248, 249, 250, 251, 252, 253, 304, 357, 369] : List Nat), sel wA a = [] := by decide +kernel
theorem st0_eq {a b : Nat} (h : (a, b) ∈ ([(202, 306), (203, 307), (204, 308), (205, 309), (206, 310), (210, 311), (211, 312), (212, 313), (213, 314), (222, 318), (223, 319), (224, 320), (225, 321), (226, 322), (227, 323), (217, 315), (218, 316), (219, 317), (239, 325), (240, 326), (241, 327), (242, 328), (230, 329), (231, 330), (232, 331), (233, 332), (234, 333), (235, 334), (236, 335), (237, 336), (238, 337), (259, 375), (260, 376), (261, 377), (262, 378), (263, 379), (264, 380)] : List (Nat × Nat))) : m0 a = m0 b := m0_same (st0_sel _ h)
theorem st0_z {a : Nat} (h : a ∈ ([221, 246, 247, 248, 249, 250, 251, 252, 253, 304, 357, 369] : List Nat)) (k : Nat) : m0 a k = 0 := m0_zero (st0_nul a h) k
set_option maxRecDepth 100000 in
theorem st0_four : m0 329 0 = 1 ∧ m0 329 1 = 1 ∧ m0 329 2 = 1 ∧ m0 329 3 = 1 := by decide +kernel

/-- what stands between calls stands at the start -/
theorem pJ_0 : pJ m0 := by
  obtain ⟨⟨a0, a6, a11, a15, a22, a23, a30, a32, a36, a42, a49, a57, a64, a66, a67, a102, a103, a107⟩, a121, a122, a123, a124⟩ := st0_num
  obtain ⟨⟨c1, c2, c3, c4, c5, c6, c7, c8, c9, c10, c11, c12, c13, c14, c15, c16⟩, c17, c18, c19, c20⟩ := st0_cls
  have nn : ∀ {x : Int} {i : Nat}, x = 0 → ¬ i < x.toNat := fun h h2 => by rw [h] at h2; exact absurd h2 (Nat.not_lt_zero _)
  have E : ∀ {a b : Nat}, (a, b) ∈ ([(202, 306), (203, 307), (204, 308), (205, 309), (206, 310), (210, 311), (211, 312), (212, 313), (213, 314), (222, 318), (223, 319), (224, 320), (225, 321), (226, 322), (227, 323), (217, 315), (218, 316), (219, 317), (239, 325), (240, 326), (241, 327), (242, 328), (230, 329), (231, 330), (232, 331), (233, 332), (234, 333), (235, 334), (236, 335), (237, 336), (238, 337), (259, 375), (260, 376), (261, 377), (262, 378), (263, 379), (264, 380)] : List (Nat × Nat)) → m0 a = m0 b := fun h => st0_eq h
  refine ⟨?_, ?_, ?_, ?_, ?_, ?_, ?_, ?_, ?_⟩
  · refine ⟨⟨E (by decide), E (by decide), E (by decide), E (by decide), E (by decide), by rw [c1, a6]⟩, by rw [a6]; decide, fun i hi => absurd hi (nn a6)⟩
  · refine ⟨⟨E (by decide), E (by decide), E (by decide), E (by decide), by rw [c2, a11]⟩, by rw [a11]; decide, fun i hi => absurd hi (nn a11)⟩
  · have hn : bk_n m0 = 0 := by show (m0 305 22).toNat = 0; rw [a22]; rfl
    refine ⟨?_, ?_, ?_, ?_⟩
    · unfold bk_B
      rw [a22, a15]
      decide
    · exact ⟨⟨E (by decide), E (by decide), E (by decide), E (by decide), E (by decide), E (by decide)⟩, ⟨E (by decide), E (by decide), E (by decide)⟩, by rw [c5, a22], by rw [c4, a15], by rw [c3, a0], by rw [c6, a23]⟩
    · refine ⟨fun s hs => absurd hs (nn a15), fun s => ?_⟩
      have z : m0 221 s = 0 := st0_z (a := 221) (by decide) s
      rw [z, hn]
      rfl
    · refine ⟨by rw [a0]; decide, rfl, fun i hi => absurd hi (by rw [hn]; exact Nat.not_lt_zero _), fun s hs => absurd hs (nn a15)⟩
  · exact ⟨⟨E (by decide), E (by decide), E (by decide), E (by decide), by rw [c7, a30]⟩, by rw [a30]; decide⟩
  · refine ⟨⟨E (by decide), by rw [c8, a32], E (by decide), E (by decide), E (by decide), by rw [c9, a36]⟩, ⟨E (by decide), E (by decide), E (by decide), E (by decide), E (by decide), by rw [c10, a42]⟩, by rw [a36]; decide, by rw [a42]; decide, by rw [a32]; decide, fun i hi => ?_, fun i hi => absurd hi (nn a36), fun i hi => absurd hi (nn a42)⟩
    obtain ⟨f0, f1, f2, f3⟩ := st0_four
    rcases (show i = 0 ∨ i = 1 ∨ i = 2 ∨ i = 3 by omega) with e | e | e | e <;> subst e
    · rw [f0]; decide
    · rw [f1]; decide
    · rw [f2]; decide
    · rw [f3]; decide
  · exact ⟨⟨by rw [c17, a121], by rw [c18, a122], by rw [c19, a123], by rw [c20, a124]⟩, by rw [a121]; decide, by rw [a122]; decide, by rw [a123]; decide, by rw [a124]; decide⟩
  · refine ⟨⟨E (by decide), E (by decide), E (by decide), by rw [c14, a102], by rw [c15, a103]⟩, ⟨E (by decide), E (by decide), E (by decide), by rw [c16, a107]⟩, by rw [a102]; decide, by rw [a103]; decide, by rw [a107]; decide, fun i hi => absurd hi (nn a102), fun i hi => absurd hi (nn a107)⟩
  · intro h j hh hj
    have z : m0 (246 + h) j = 0 := by
      rcases (show h = 0 ∨ h = 1 ∨ h = 2 ∨ h = 3 ∨ h = 4 ∨ h = 5 ∨ h = 6 ∨ h = 7 by omega) with e | e | e | e | e | e | e | e <;> subst e <;> exact st0_z (by decide) j
    have z2 : m0 369 (42 * h + j) = 0 := st0_z (by decide) _
    show m0 (246 + h) j = m0 369 (42 * h + j) ∧ 0 ≤ m0 369 (42 * h + j) ∧ m0 369 (42 * h + j) ≤ 50
    rw [z, z2]
    decide
  · refine ⟨⟨by rw [c12, a66], by rw [c13, a67]⟩, by rw [a66]; decide, by rw [a67]; decide, fun i _ => ?_⟩
    rw [show m0 304 i = 0 from st0_z (by decide) i, show m0 357 i = 0 from st0_z (by decide) i]
    decide
theorem te_J_0 {t : List (Nat × Nat)} : te_J m0 t := by
  obtain ⟨⟨a0, a6, a11, a15, a22, a23, a30, a32, a36, a42, a49, a57, a64, a66, a67, a102, a103, a107⟩, -⟩ := st0_num
  obtain ⟨⟨c1, c2, c3, c4, c5, c6, c7, c8, c9, c10, c11, c12, c13, c14, c15, c16⟩, -⟩ := st0_cls
  refine ⟨by rw [c11, a49], by rw [a49]; decide, by rw [a57, a49]; decide, by rw [a64, a49]; decide, fun x hx => ?_⟩
  rw [a49] at hx
  exact absurd hx (Nat.not_lt_zero _)
theorem tw_J_0 {t : List (Nat × Nat)} : tw_J m0 t := by
  intro x hx
  rw [st0_num.1.2.2.2.2.2.2.2.2.2.2.1] at hx
  exact absurd hx (Nat.not_lt_zero _)
theorem JJ_0 {t : List (Nat × Nat)} {sl dp L : Nat} {Xs : Nat → Int} : JJ (m0, t, sl, dp, L, Xs) := ⟨pJ_0, te_J_0, tw_J_0⟩


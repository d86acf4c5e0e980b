/-- cells and slots only grow; depth left, script stay -/
def xle (σ σ' : xS) : Prop := (∃ t, xtys σ' = xtys σ ++ t) ∧ xsl σ ≤ xsl σ' ∧ xdp σ' = xdp σ ∧ xL σ' = xL σ ∧ xX σ' = xX σ
theorem xle_rf (σ : xS) : xle σ σ := ⟨⟨[], by simp⟩, Nat.le_refl _, rfl, rfl, rfl⟩
theorem xle_tr {a b c : xS} (h : xle a b) (g : xle b c) : xle a c := by
  obtain ⟨⟨t, h1⟩, h2, h3, h4, h5⟩ := h
  obtain ⟨⟨u, g1⟩, g2, g3, g4, g5⟩ := g
  exact ⟨⟨t ++ u, by rw [g1, h1, List.append_assoc]⟩, Nat.le_trans h2 g2, g3.trans h3, g4.trans h4, g5.trans h5⟩
theorem xle_s (σ : xS) (a k : Nat) (v : Int) : xle σ (xs σ a k v) := xle_rf σ
theorem xle_dp' {σ σ' : xS} {d : Nat} (h : xle (xsetdp σ d) σ') : xle σ (xsetdp σ' (xdp σ)) := ⟨h.1, h.2.1, rfl, h.2.2.2⟩
theorem xle_al (E : xE) (σ : xS) (c n : Nat) : xle σ (xal E σ c n) := ⟨⟨[(c, n)], rfl⟩, Nat.le_add_right _ _, rfl, rfl, rfl⟩
theorem xle_wr {E : xE} {σ σ' : xS} {x : Int} {k : Nat} {v : Int} (h : xwr E σ x k v = some σ') : xle σ σ' := by
  unfold xwr at h
  split at h
  · cases h
  · cases hb : Nat.ble xNC x.toNat
    · rw [hb] at h; cases h
    · rw [hb] at h; cases h; exact xle_s _ _ _ _
theorem xle_rows (E : xE) (t k o : Nat) : ∀ (m j : Nat) (σ : xS), xle σ (xrows E t k o m j σ) := by
  intro m
  induction m with
  | zero => intro j σ; exact xle_rf σ
  | succ m ih => intro j σ; exact xle_tr (xle_tr (xle_al E σ _ _) (xle_s _ _ _ _)) (ih (j + 1) _)
section XREL
variable {X Y : Type} {Rl : X → Y → Prop} {E : xE} {F : List (List Nat)}
theorem xob_rel {α : Type} {o : Option α} {b : X} {b' : Y} {f : α → X} {f' : α → Y} (hb : Rl b b') (hf : ∀ v, o = some v → Rl (f v) (f' v)) : Rl (xob o b f) (xob o b' f') := by
  cases o with
  | none => exact hb
  | some v => exact hf v rfl
theorem xpop_rel {t : Nat} {st : List xAV} {b : X} {b' : Y} {f : Int → List xAV → X} {f' : Int → List xAV → Y} (hb : Rl b b') (hf : ∀ v st', st = (t, v) :: st' → Rl (f v st') (f' v st')) : Rl (xpop t st b f) (xpop t st b' f') := by
  cases st with
  | nil => exact hb
  | cons v st =>
    obtain ⟨u, v⟩ := v
    show Rl (cond (Nat.beq u t) (f v st) b) (cond (Nat.beq u t) (f' v st) b')
    cases h : Nat.beq u t with
    | false => exact hb
    | true => exact hf v st (by rw [Nat.eq_of_beq_eq_true h])
theorem xco_rel {c : Bool} {a b : X} {a' b' : Y} (ha : c = true → Rl a a') (hb : c = false → Rl b b') : Rl (cond c a b) (cond c a' b') := by
  cases c with
  | false => exact hb rfl
  | true => exact ha rfl
theorem xite_rel {c : Prop} [Decidable c] {a b : X} {a' b' : Y} (ha : c → Rl a a') (hb : ¬ c → Rl b b') : Rl (if c then a else b) (if c then a' else b') := by
  by_cases h : c
  · rw [if_pos h, if_pos h]; exact ha h
  · rw [if_neg h, if_neg h]; exact hb h
theorem xck_rel {c : Nat} {w : Int} {b p : X} {b' p' : Y} (hb : Rl b b') (hp : Rl p p') : Rl (xck c w b p) (xck c w b' p') := by
  unfold xck
  cases xsub c with
  | false => exact hp
  | true =>
    show Rl (if _ then _ else _) (if _ then _ else _)
    by_cases h : xna c w = w
    · rw [if_pos h, if_pos h]; exact hp
    · rw [if_neg h, if_neg h]; exact hb
theorem xif_rel {b : Nat} {x y : Int} {p q : X} {p' q' : Y} (hp : Rl p p') (hq : Rl q q') : Rl (xif b x y p q) (xif b x y p' q') := by
  unfold xif
  split <;> (split <;> assumption)
theorem xsw_rel {l : List (Int × Nat)} {x : Int} {d : X} {d' : Y} {k : Nat → X} {k' : Nat → Y} (hd : Rl d d') (hk : ∀ t, Rl (k t) (k' t)) : Rl (xsw l x d k) (xsw l x d' k') := by
  induction l with
  | nil => exact hd
  | cons q l ih => exact xite_rel (fun _ => hk _) (fun _ => ih)
set_option maxHeartbeats 4000000 in
/-- two readings of a step agree where their roads on do -/
theorem xstep_rel {r : xR} {ls st : List xAV} {σ : xS} {k : Nat → List xAV → List xAV → xS → X} {k' : Nat → List xAV → List xAV → xS → Y} {ret : xAV → xS → X} {ret' : xAV → xS → Y} {call : Nat → List xAV → xS → (xAV → xS → X) → X} {call' : Nat → List xAV → xS → (xAV → xS → Y) → Y} {bad : X} {bad' : Y}
    (hk : ∀ pc ls st σ1, xle σ σ1 → Rl (k pc ls st σ1) (k' pc ls st σ1)) (hr : ∀ v σ1, xle σ σ1 → Rl (ret v σ1) (ret' v σ1))
    (hc : ∀ mj as σ1 kk kk', (∀ v σ2, xle σ1 σ2 → Rl (kk v σ2) (kk' v σ2)) → Rl (call mj as σ1 kk) (call' mj as σ1 kk')) (hb : Rl bad bad') :
    Rl (xstep E F r ls st σ k ret call bad) (xstep E F r ls st σ k' ret' call' bad') := by
  obtain ⟨o, a, b, c, v, nx, sw⟩ := r
  have hk0 : ∀ pc ls st, Rl (k pc ls st σ) (k' pc ls st σ) := fun pc ls st => hk pc ls st σ (xle_rf σ)
  unfold xstep
  dsimp only
  split
  · exact hk0 _ _ _
  · exact hk0 _ _ _
  · exact hk0 _ _ _
  · exact xob_rel hb fun w _ => xco_rel (fun _ => hk0 _ _ _) (fun _ => hb)
  · exact xpop_rel hb fun x st _ => xco_rel (fun _ => hk0 _ _ _) (fun _ => hb)
  · exact xob_rel hb fun w _ => xco_rel (fun _ => hk0 _ _ _) (fun _ => hb)
  · exact xpop_rel hb fun y st _ => xpop_rel hb fun x st _ => hk0 _ _ _
  · exact xpop_rel hb fun y st _ => xpop_rel hb fun x st _ => xite_rel (fun _ => hb) (fun _ => hk0 _ _ _)
  · exact xpop_rel hb fun x st _ => hk0 _ _ _
  · exact xpop_rel hb fun y st _ => xpop_rel hb fun x st _ => hk0 _ _ _
  · exact xpop_rel hb fun y st _ => xpop_rel hb fun x st _ => xite_rel (fun _ => hb) (fun _ => hk0 _ _ _)
  · exact xpop_rel hb fun x st _ => hk0 _ _ _
  · exact xpop_rel hb fun x st _ => hk0 _ _ _
  · cases st with
    | nil => exact hb
    | cons w st => exact xco_rel (fun _ => hb) (fun _ => hk0 _ _ _)
  · cases st with
    | nil => exact hb
    | cons w st => exact xco_rel (fun _ => hb) (fun _ => hk0 _ _ _)
  · cases st with
    | nil => exact hb
    | cons w st => cases st with
      | nil => exact hb
      | cons u st => exact xco_rel (fun _ => hb) (fun _ => hk0 _ _ _)
  · cases st with
    | nil => exact hb
    | cons w st => cases st with
      | nil => exact hb
      | cons u st => exact xco_rel (fun _ => hb) (fun _ => hk0 _ _ _)
  · exact xpop_rel hb fun x st _ => xif_rel (hk0 _ _ _) (hk0 _ _ _)
  · exact xpop_rel hb fun y st _ => xpop_rel hb fun x st _ => xif_rel (hk0 _ _ _) (hk0 _ _ _)
  · exact xpop_rel hb fun y st _ => xpop_rel hb fun x st _ => xco_rel (fun _ => xif_rel (hk0 _ _ _) (hk0 _ _ _)) (fun _ => hb)
  · exact xpop_rel hb fun x st _ => xif_rel (hk0 _ _ _) (hk0 _ _ _)
  · exact hk0 _ _ _
  · exact xpop_rel hb fun y st _ => xpop_rel hb fun x st _ => xif_rel (hk0 _ _ _) (hk0 _ _ _)
  · exact xpop_rel hb fun x st _ => xsw_rel (hk0 _ _ _) (fun t => hk0 _ _ _)
  · exact xpop_rel hb fun x st _ => xob_rel hb fun w _ => hk0 _ _ _
  · exact xpop_rel hb fun w st _ => xpop_rel hb fun x st _ => xco_rel (fun _ => xck_rel hb (xob_rel hb fun s1 h => hk _ _ _ _ (xle_wr h))) (fun _ => hb)
  · exact xpop_rel hb fun i st _ => xpop_rel hb fun x st _ => xob_rel hb fun n _ => xite_rel (fun _ => hk0 _ _ _) (fun _ => hb)
  · exact xpop_rel hb fun w st _ => xpop_rel hb fun i st _ => xpop_rel hb fun x st _ => xob_rel hb fun n _ => xco_rel (fun _ => xite_rel (fun _ => xob_rel hb fun s1 h => hk _ _ _ _ (xle_wr h)) (fun _ => hb)) (fun _ => hb)
  · exact xpop_rel hb fun x st _ => xob_rel hb fun n _ => hk0 _ _ _
  · exact xob_rel hb fun f _ => hk _ _ _ _ (xle_al E σ _ _)
  · exact xpop_rel hb fun n st _ => xite_rel (fun _ => hk _ _ _ _ (xle_al E σ _ _)) (fun _ => hb)
  · exact xpop_rel hb fun m st _ => xpop_rel hb fun n st _ => xite_rel (fun _ => hk _ _ _ _ (xle_tr (xle_al E σ _ _) (xle_rows E _ _ _ _ _ _))) (fun _ => hb)
  · exact xob_rel hb fun q _ => xco_rel (fun _ => xco_rel (fun _ => xco_rel (fun _ => hc _ _ _ _ _ fun w s2 h => hk _ _ _ _ h) (fun _ => xco_rel (fun _ => hb) (fun _ => hc _ _ _ _ _ fun w s2 h => hk _ _ _ _ (xle_dp' h)))) (fun _ => hb)) (fun _ => hb)
  · cases st with
    | nil => exact xco_rel (fun _ => hr _ _ (xle_rf σ)) (fun _ => hb)
    | cons w st => cases st with
      | nil => exact xco_rel (fun _ => xck_rel hb (hr _ _ (xle_rf σ))) (fun _ => hb)
      | cons u st => exact hb
  · exact xpop_rel hb fun x st _ => xco_rel (fun _ => hb) (fun _ => xco_rel (fun _ => hk0 _ _ _) (fun _ => hb))
  · exact xpop_rel hb fun n st _ => xpop_rel hb fun dp st _ => xpop_rel hb fun y st _ => xpop_rel hb fun sp st _ => xpop_rel hb fun x st _ => xco_rel (fun _ => xob_rel hb fun n1 _ => xob_rel hb fun n2 _ => xite_rel (fun _ => xco_rel (fun _ => hk _ _ _ _ (xle_rf σ)) (fun _ => hb)) (fun _ => hb)) (fun _ => hb)
  · exact xpop_rel hb fun x st _ => xco_rel (fun _ => hk0 _ _ _) (fun _ => hb)
  · exact hk0 _ _ _
  · exact xpop_rel hb fun y st _ => xpop_rel hb fun x st _ => xco_rel (fun _ => hk0 _ _ _) (fun _ => hb)
  · exact xpop_rel hb fun x st _ => xco_rel (fun _ => hk0 _ _ _) (fun _ => hb)
  · exact xpop_rel hb fun x st _ => xco_rel (fun _ => xob_rel hb fun n _ => xco_rel (fun _ => hk _ _ _ _ (xle_al E σ _ _)) (fun _ => hb)) (fun _ => hb)
  · exact hb
end XREL
section XRUN
variable {E : xE} {F : List (List Nat)} {P : xP}
theorem xrun_le : ∀ (n mi pc : Nat) (ls st : List xAV) (σ : xS) (v : xAV) (σ' : xS), xrun E F P n mi pc ls st σ = some (v, σ') → xle σ σ' := by
  intro n
  induction n with
  | zero => intro mi pc ls st σ v σ' h; cases h
  | succ n ih =>
    intro mi pc ls st σ v σ' h
    have key : (fun (a : Option (xAV × xS)) (_ : Unit) => ∀ v σ', a = some (v, σ') → xle σ σ') (xrun E F P (n + 1) mi pc ls st σ) (xob (xcode P mi pc) () fun r => xstep E F r ls st σ (fun _ _ _ _ => ()) (fun _ _ => ()) (fun _ _ _ _ => ()) ()) := by
      unfold xrun
      refine xob_rel (Rl := fun (a : Option (xAV × xS)) (_ : Unit) => ∀ v σ', a = some (v, σ') → xle σ σ') (b' := ()) (f' := fun r => xstep E F r ls st σ (fun _ _ _ _ => ()) (fun _ _ => ()) (fun _ _ _ _ => ()) ()) (fun v σ' h => by cases h) fun r _ => ?_
      refine xstep_rel (Rl := fun (a : Option (xAV × xS)) (_ : Unit) => ∀ v σ', a = some (v, σ') → xle σ σ') (k' := fun _ _ _ _ => ()) (ret' := fun _ _ => ()) (call' := fun _ _ _ _ => ()) (bad' := ()) (fun pc ls st s1 h1 v σ' h => xle_tr h1 (ih _ _ _ _ _ _ _ h)) (fun v s1 h1 v' σ' h => by cases h; exact h1) (fun mj as s1 kk kk' hkk => ?_) (fun v σ' h => by cases h)
      intro v σ' h
      cases hl : xent P mj as with
      | none => rw [hl] at h; cases h
      | some ls0 =>
        rw [hl] at h
        cases hq : xrun E F P n mj 0 ls0 [] s1 with
        | none => simp [xob, hq] at h
        | some q =>
          obtain ⟨w, s2⟩ := q
          simp [xob, hq] at h
          exact hkk w s2 (ih _ _ _ _ _ _ _ hq) v σ' h
    exact key v σ' h
theorem xrun_mono : ∀ (n m : Nat), n ≤ m → ∀ (mi pc : Nat) (ls st : List xAV) (σ : xS) (r : xAV × xS), xrun E F P n mi pc ls st σ = some r → xrun E F P m mi pc ls st σ = some r := by
  intro n
  induction n with
  | zero => intro m _ mi pc ls st σ r h; cases h
  | succ n ih =>
    intro m hm mi pc ls st σ r h
    obtain ⟨m, rfl⟩ : ∃ m', m = m' + 1 := ⟨m - 1, by omega⟩
    have hm : n ≤ m := by omega
    unfold xrun at h ⊢
    revert h
    refine xob_rel (Rl := fun a b => a = some r → b = some r) (fun h => h) fun c _ => ?_
    refine xstep_rel (Rl := fun a b => a = some r → b = some r) (fun pc ls st s1 _ => ih m hm _ _ _ _ _ _) (fun v s1 _ h => h) (fun mj as s1 kk kk' hkk => ?_) (fun h => h)
    refine xob_rel (Rl := fun a b => a = some r → b = some r) (fun h => h) fun ls0 _ h => ?_
    cases hq : xrun E F P n mj 0 ls0 [] s1 with
    | none => rw [hq] at h; cases h
    | some q =>
      rw [hq] at h
      rw [ih m hm _ _ _ _ _ _ hq]
      exact hkk q.1 q.2 (xrun_le _ _ _ _ _ _ _ _ hq) h
theorem xrun_one {n m mi pc : Nat} {ls st : List xAV} {σ : xS} {r r' : xAV × xS} (h : xrun E F P n mi pc ls st σ = some r) (h' : xrun E F P m mi pc ls st σ = some r') : r = r' := by
  have a := xrun_mono n (n + m) (Nat.le_add_right _ _) _ _ _ _ _ _ h
  have b := xrun_mono m (n + m) (Nat.le_add_left _ _) _ _ _ _ _ _ h'
  rw [a] at b
  exact Option.some.inj b
end XRUN
/-- what a frame comes to, if it ends -/
noncomputable def xEx (E : xE) (F : List (List Nat)) (P : xP) (mi pc : Nat) (ls st : List xAV) (σ : xS) : Option (xAV × xS) :=
  @dite _ (∃ r n, xrun E F P n mi pc ls st σ = some r) (Classical.propDecidable _) (fun h => some h.choose) (fun _ => none)
section XEX
variable {E : xE} {F : List (List Nat)} {P : xP}
theorem xEx_iff {mi pc : Nat} {ls st : List xAV} {σ : xS} {r : xAV × xS} : xEx E F P mi pc ls st σ = some r ↔ ∃ n, xrun E F P n mi pc ls st σ = some r := by
  unfold xEx
  constructor
  · intro h
    by_cases hx : ∃ r n, xrun E F P n mi pc ls st σ = some r
    · rw [dif_pos hx] at h
      obtain ⟨n, hn⟩ := hx.choose_spec
      exact ⟨n, by rw [hn]; exact h⟩
    · rw [dif_neg hx] at h; cases h
  · rintro ⟨n, h⟩
    have hx : ∃ r n, xrun E F P n mi pc ls st σ = some r := ⟨r, n, h⟩
    rw [dif_pos hx]
    obtain ⟨m, hm⟩ := hx.choose_spec
    rw [xrun_one hm h]
theorem xEx_of {n mi pc : Nat} {ls st : List xAV} {σ : xS} {r : xAV × xS} (h : xrun E F P n mi pc ls st σ = some r) : xEx E F P mi pc ls st σ = some r := xEx_iff.mpr ⟨n, h⟩
theorem xEx_le {mi pc : Nat} {ls st : List xAV} {σ σ' : xS} {v : xAV} (h : xEx E F P mi pc ls st σ = some (v, σ')) : xle σ σ' := by
  obtain ⟨n, h⟩ := xEx_iff.mp h
  exact xrun_le _ _ _ _ _ _ _ _ h
/-- a frame, an instruction on -/
theorem xEx_eq (mi pc : Nat) (ls st : List xAV) (σ : xS) : xEx E F P mi pc ls st σ = xob (xcode P mi pc) none fun r => xstep E F r ls st σ (xEx E F P mi) (fun v σ => some (v, σ)) (fun mj as σ kk => xob (xent P mj as) none fun ls0 => (xEx E F P mj 0 ls0 [] σ).bind fun q => kk q.1 q.2) none := by
  have up : ∀ n r, xrun E F P (n + 1) mi pc ls st σ = some r → (xob (xcode P mi pc) none fun r => xstep E F r ls st σ (xEx E F P mi) (fun v σ => some (v, σ)) (fun mj as σ kk => xob (xent P mj as) none fun ls0 => (xEx E F P mj 0 ls0 [] σ).bind fun q => kk q.1 q.2) none) = some r := by
    intro n r
    unfold xrun
    refine xob_rel (Rl := fun a b => a = some r → b = some r) (fun h => h) fun c _ => ?_
    refine xstep_rel (Rl := fun a b => a = some r → b = some r) (fun pc ls st s1 _ h => xEx_of h) (fun v s1 _ h => h) (fun mj as s1 kk kk' hkk => ?_) (fun h => h)
    refine xob_rel (Rl := fun a b => a = some r → b = some r) (fun h => h) fun ls0 _ h => ?_
    cases hq : xrun E F P n mj 0 ls0 [] s1 with
    | none => rw [hq] at h; cases h
    | some q =>
      rw [hq] at h
      rw [xEx_of hq]
      exact hkk q.1 q.2 (xrun_le _ _ _ _ _ _ _ _ hq) h
  have down : ∀ r, (xob (xcode P mi pc) none fun r => xstep E F r ls st σ (xEx E F P mi) (fun v σ => some (v, σ)) (fun mj as σ kk => xob (xent P mj as) none fun ls0 => (xEx E F P mj 0 ls0 [] σ).bind fun q => kk q.1 q.2) none) = some r → ∃ n, ∀ m, n ≤ m → xrun E F P (m + 1) mi pc ls st σ = some r := by
    intro r
    have key : (fun (f : Nat → Option (xAV × xS)) (b : Option (xAV × xS)) => b = some r → ∃ n, ∀ m, n ≤ m → f m = some r)
        (xob (xcode P mi pc) (fun _ => none) fun c => xstep E F c ls st σ (fun pc ls st σ n => xrun E F P n mi pc ls st σ) (fun v σ _ => some (v, σ)) (fun mj as σ kk n => xob (xent P mj as) none fun ls0 => (xrun E F P n mj 0 ls0 [] σ).bind fun q => kk q.1 q.2 n) (fun _ => none))
        (xob (xcode P mi pc) none fun r => xstep E F r ls st σ (xEx E F P mi) (fun v σ => some (v, σ)) (fun mj as σ kk => xob (xent P mj as) none fun ls0 => (xEx E F P mj 0 ls0 [] σ).bind fun q => kk q.1 q.2) none) := by
      refine xob_rel (Rl := fun (f : Nat → Option (xAV × xS)) (b : Option (xAV × xS)) => b = some r → ∃ n, ∀ m, n ≤ m → f m = some r) (fun h => by cases h) fun c _ => ?_
      refine xstep_rel (Rl := fun (f : Nat → Option (xAV × xS)) (b : Option (xAV × xS)) => b = some r → ∃ n, ∀ m, n ≤ m → f m = some r) (fun pc ls st s1 _ h => ?_) (fun v s1 _ h => ⟨0, fun m _ => h⟩) (fun mj as s1 kk kk' hkk h => ?_) (fun h => by cases h)
      · obtain ⟨n, hn⟩ := xEx_iff.mp h
        exact ⟨n, fun m hm => xrun_mono n m hm _ _ _ _ _ _ hn⟩
      · cases hl : xent P mj as with
        | none => rw [hl] at h; cases h
        | some ls0 =>
          rw [hl] at h
          cases hq : xEx E F P mj 0 ls0 [] s1 with
          | none => simp [xob, hq] at h
          | some q =>
            simp only [xob, hq, Option.bind_some] at h
            obtain ⟨n1, h1⟩ := xEx_iff.mp hq
            obtain ⟨n2, h2⟩ := hkk q.1 q.2 (xEx_le hq) h
            refine ⟨n1 + n2, fun m hm => ?_⟩
            simp only [xob]
            rw [xrun_mono n1 m (by omega) _ _ _ _ _ _ h1]
            exact h2 m (by omega)
    intro h
    obtain ⟨n, hn⟩ := key h
    refine ⟨n, fun m hm => ?_⟩
    have e : (fun (f : Nat → Option (xAV × xS)) (b : Option (xAV × xS)) => f m = b)
        (xob (xcode P mi pc) (fun _ => none) fun c => xstep E F c ls st σ (fun pc ls st σ n => xrun E F P n mi pc ls st σ) (fun v σ _ => some (v, σ)) (fun mj as σ kk n => xob (xent P mj as) none fun ls0 => (xrun E F P n mj 0 ls0 [] σ).bind fun q => kk q.1 q.2 n) (fun _ => none))
        (xrun E F P (m + 1) mi pc ls st σ) := by
      show _ = _
      rw [xrun]
      refine xob_rel (Rl := fun (f : Nat → Option (xAV × xS)) (b : Option (xAV × xS)) => f m = b) rfl fun c _ => ?_
      refine xstep_rel (Rl := fun (f : Nat → Option (xAV × xS)) (b : Option (xAV × xS)) => f m = b) (fun pc ls st s1 _ => rfl) (fun v s1 _ => rfl) (fun mj as s1 kk kk' hkk => ?_) rfl
      cases hl : xent P mj as with
      | none => rfl
      | some ls0 =>
        cases hq : xrun E F P m mj 0 ls0 [] s1 with
        | none => simp [xob, hq]
        | some q =>
          simp only [xob, hq, Option.bind_some]
          exact hkk q.1 q.2 (xrun_le _ _ _ _ _ _ _ _ hq)
    exact e.symm.trans (hn m hm)
  cases h : xEx E F P mi pc ls st σ with
  | none =>
    cases h2 : (xob (xcode P mi pc) none fun r => xstep E F r ls st σ (xEx E F P mi) (fun v σ => some (v, σ)) (fun mj as σ kk => xob (xent P mj as) none fun ls0 => (xEx E F P mj 0 ls0 [] σ).bind fun q => kk q.1 q.2) none) with
    | none => rfl
    | some r =>
      obtain ⟨n, hn⟩ := down r h2
      rw [xEx_of (hn n (Nat.le_refl n))] at h
      cases h
  | some r =>
    obtain ⟨n, hn⟩ := xEx_iff.mp h
    cases n with
    | zero => cases hn
    | succ n => exact (up n r hn).symm
end XEX
/-- a frame read on, with small callees opened, up to pcs at which it stops: 'ret' is what goes on behind its return -/
noncomputable def xevI (E : xE) (F : List (List Nat)) (P : xP) (inl : List Nat) : Nat → Nat → Nat → List xAV → List xAV → xS → (xAV → xS → Option (xAV × xS)) → Option (xAV × xS)
  | 0, mi, pc, ls, st, σ, ret => (xEx E F P mi pc ls st σ).bind fun q => ret q.1 q.2
  | n + 1, mi, pc, ls, st, σ, ret => xob (xcode P mi pc) none fun r => xstep E F r ls st σ (fun pc ls st σ => xevI E F P inl n mi pc ls st σ ret) ret
      (fun mj as σ kk => xob (xent P mj as) none fun ls0 => cond (xmem inl mj) (xevI E F P inl n mj 0 ls0 [] σ kk) ((xEx E F P mj 0 ls0 [] σ).bind fun q => kk q.1 q.2)) none
noncomputable def xev (E : xE) (F : List (List Nat)) (P : xP) (inl stop : List Nat) : Nat → Nat → Nat → List xAV → List xAV → xS → Option (xAV × xS)
  | 0, mi, pc, ls, st, σ => xEx E F P mi pc ls st σ
  | n + 1, mi, pc, ls, st, σ => xob (xcode P mi pc) none fun r => xstep E F r ls st σ (fun pc ls st σ => cond (xmem stop pc) (xEx E F P mi pc ls st σ) (xev E F P inl stop n mi pc ls st σ)) (fun v σ => some (v, σ))
      (fun mj as σ kk => xob (xent P mj as) none fun ls0 => cond (xmem inl mj) (xevI E F P inl n mj 0 ls0 [] σ kk) ((xEx E F P mj 0 ls0 [] σ).bind fun q => kk q.1 q.2)) none
section XEV
variable {E : xE} {F : List (List Nat)} {P : xP} {inl stop : List Nat}
theorem xevI_eq : ∀ (n mi pc : Nat) (ls st : List xAV) (σ : xS) (ret : xAV → xS → Option (xAV × xS)), (xEx E F P mi pc ls st σ).bind (fun q => ret q.1 q.2) = xevI E F P inl n mi pc ls st σ ret := by
  intro n
  induction n with
  | zero => intro mi pc ls st σ ret; rfl
  | succ n ih =>
    intro mi pc ls st σ ret
    rw [xEx_eq, xevI]
    refine xob_rel (Rl := fun (a b : Option (xAV × xS)) => a.bind (fun q => ret q.1 q.2) = b) rfl fun r _ => ?_
    refine xstep_rel (Rl := fun (a b : Option (xAV × xS)) => a.bind (fun q => ret q.1 q.2) = b) (fun pc ls st s1 _ => ih _ _ _ _ _ _) (fun v s1 _ => rfl) (fun mj as s1 kk kk' hkk => ?_) rfl
    cases hl : xent P mj as with
    | none => rfl
    | some ls0 =>
      simp only [xob]
      have e : ((xEx E F P mj 0 ls0 [] s1).bind fun q => kk q.1 q.2).bind (fun q => ret q.1 q.2) = (xEx E F P mj 0 ls0 [] s1).bind fun q => kk' q.1 q.2 := by
        cases hq : xEx E F P mj 0 ls0 [] s1 with
        | none => rfl
        | some q => exact hkk q.1 q.2 (xEx_le hq)
      rw [e]
      cases xmem inl mj with
      | false => rfl
      | true => exact ih _ _ _ _ _ _
theorem xev_eq : ∀ (n mi pc : Nat) (ls st : List xAV) (σ : xS), xEx E F P mi pc ls st σ = xev E F P inl stop n mi pc ls st σ := by
  intro n
  induction n with
  | zero => intro mi pc ls st σ; rfl
  | succ n ih =>
    intro mi pc ls st σ
    rw [xEx_eq, xev]
    refine xob_rel (Rl := fun (a b : Option (xAV × xS)) => a = b) rfl fun r _ => ?_
    refine xstep_rel (Rl := fun (a b : Option (xAV × xS)) => a = b) (fun pc ls st s1 _ => ?_) (fun v s1 _ => rfl) (fun mj as s1 kk kk' hkk => ?_) rfl
    · cases xmem stop pc with
      | false => exact ih _ _ _ _ _
      | true => rfl
    · cases hl : xent P mj as with
      | none => rfl
      | some ls0 =>
        simp only [xob]
        have e : ((xEx E F P mj 0 ls0 [] s1).bind fun q => kk q.1 q.2) = (xEx E F P mj 0 ls0 [] s1).bind fun q => kk' q.1 q.2 := by
          cases hq : xEx E F P mj 0 ls0 [] s1 with
          | none => rfl
          | some q => exact hkk q.1 q.2 (xEx_le hq)
        rw [e]
        cases xmem inl mj with
        | false => rfl
        | true => exact xevI_eq _ _ _ _ _ _ _
end XEV
/-- what a frame comes to, behind the constructors -/
noncomputable abbrev X (mi pc : Nat) (ls st : List xAV) (σ : xS) : Option (xAV × xS) := xEx xE1 xFk xPg mi pc ls st σ

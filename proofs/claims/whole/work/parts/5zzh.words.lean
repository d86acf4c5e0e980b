/-! the class's words -/
section WORDS
variable {σ : xS} {B : Nat → Int} {n : Nat}
/-- a String's letters -/
def swd (σ : xS) (a : Int) (l : List Nat) : Prop := xisO xE1 σ a 0 = true ∧ (∃ v : Int, xfld xE1 σ a 0 0 = some v ∧ xlen xE1 σ v = some l.length ∧ xarr xE1 σ v 2 = some l.length ∧ ∀ i, i < l.length → xag xE1 σ v i = ((l.getD i 0 : Nat) : Int)) ∧ xfld xE1 σ a 0 1 = some 0 ∧ l.length ≤ 8 ∧ ∀ c ∈ l, c < 128
/-- the reader's text -/
def rdr (m : Nat → Nat → Int) (B : Nat → Int) (n : Nat) : Prop := m 297 0 = 304 ∧ m 297 1 = (n : Int) ∧ n ≤ 400 ∧ ∀ i, i < n → m 304 i % 65536 = B i ∧ 0 ≤ B i ∧ B i ≤ 255
/-- letters from s on -/
def wmt (l : List Nat) (B : Nat → Int) (s : Nat) : Nat → Nat → Int
  | 0, _ => 1
  | f + 1, i => if ((l.getD i 0 : Nat) : Int) = B (s + i) then wmt l B s f (i + 1) else 0
theorem xshr0 : ∀ m : Nat, m ≤ 14 → xshr (m : Int) 0 = (m : Int) := by decide
theorem x304 : xarr xE1 σ 304 3 = some 400 := rfl
theorem xag304 (i : Nat) : xag xE1 σ 304 i = σ.1 304 i := rfl
/-- the words of the grammar -/
def kwl : Nat → List Nat
  | 0 => [108, 101, 116]
  | 1 => [112, 114, 105, 99, 101]
  | 2 => [108, 111, 115, 115]
  | 3 => [114, 101, 116, 105, 114, 101]
  | 4 => [102, 101, 97, 115, 116]
  | 5 => [109, 105, 120]
  | 6 => [104, 101, 97, 116]
  | 7 => [104, 111, 117, 115, 101]
  | 8 => [119, 111, 114, 107, 115]
  | 9 => [112, 111, 111, 108]
  | 10 => [116, 111]
  | 11 => [98, 121]
  | 12 => [119, 105, 116, 104]
  | 13 => [102, 111, 114]
  | 14 => [105, 102]
  | 15 => [116, 104, 101, 110]
  | 16 => [101, 108, 115, 101]
  | 17 => [109, 105, 110]
  | 18 => [109, 97, 120]
  | 19 => [111, 114]
  | 20 => [97, 110, 100]
  | 21 => [110, 111, 116]
  | 22 => [119, 97, 115, 104, 101, 115]
  | 23 => [97, 103, 101]
  | 24 => [108, 105, 102, 101]
  | 25 => [119, 111, 114, 116, 104]
  | 26 => [103, 114, 97, 109, 115]
  | 27 => [115, 111, 114, 116]
  | 28 => [107, 105, 110, 100]
  | 29 => [100, 97, 121, 115]
  | 30 => [109, 105, 115, 115, 101, 115]
  | 31 => [100, 97, 121]
  | _ => []
theorem kwd_0 : swd σ 44 (kwl 0) := ⟨rfl, ⟨45, rfl, rfl, rfl, fun i hi => match i, hi with | 0, _ => rfl | 1, _ => rfl | 2, _ => rfl | i + 3, hi => absurd hi (by show ¬ i + 3 < 3; omega)⟩, rfl, by decide, by decide⟩
theorem kwd_1 : swd σ 46 (kwl 1) := ⟨rfl, ⟨47, rfl, rfl, rfl, fun i hi => match i, hi with | 0, _ => rfl | 1, _ => rfl | 2, _ => rfl | 3, _ => rfl | 4, _ => rfl | i + 5, hi => absurd hi (by show ¬ i + 5 < 5; omega)⟩, rfl, by decide, by decide⟩
theorem kwd_2 : swd σ 48 (kwl 2) := ⟨rfl, ⟨49, rfl, rfl, rfl, fun i hi => match i, hi with | 0, _ => rfl | 1, _ => rfl | 2, _ => rfl | 3, _ => rfl | i + 4, hi => absurd hi (by show ¬ i + 4 < 4; omega)⟩, rfl, by decide, by decide⟩
theorem kwd_3 : swd σ 50 (kwl 3) := ⟨rfl, ⟨51, rfl, rfl, rfl, fun i hi => match i, hi with | 0, _ => rfl | 1, _ => rfl | 2, _ => rfl | 3, _ => rfl | 4, _ => rfl | 5, _ => rfl | i + 6, hi => absurd hi (by show ¬ i + 6 < 6; omega)⟩, rfl, by decide, by decide⟩
theorem kwd_4 : swd σ 52 (kwl 4) := ⟨rfl, ⟨53, rfl, rfl, rfl, fun i hi => match i, hi with | 0, _ => rfl | 1, _ => rfl | 2, _ => rfl | 3, _ => rfl | 4, _ => rfl | i + 5, hi => absurd hi (by show ¬ i + 5 < 5; omega)⟩, rfl, by decide, by decide⟩
theorem kwd_5 : swd σ 54 (kwl 5) := ⟨rfl, ⟨55, rfl, rfl, rfl, fun i hi => match i, hi with | 0, _ => rfl | 1, _ => rfl | 2, _ => rfl | i + 3, hi => absurd hi (by show ¬ i + 3 < 3; omega)⟩, rfl, by decide, by decide⟩
theorem kwd_6 : swd σ 56 (kwl 6) := ⟨rfl, ⟨57, rfl, rfl, rfl, fun i hi => match i, hi with | 0, _ => rfl | 1, _ => rfl | 2, _ => rfl | 3, _ => rfl | i + 4, hi => absurd hi (by show ¬ i + 4 < 4; omega)⟩, rfl, by decide, by decide⟩
theorem kwd_7 : swd σ 58 (kwl 7) := ⟨rfl, ⟨59, rfl, rfl, rfl, fun i hi => match i, hi with | 0, _ => rfl | 1, _ => rfl | 2, _ => rfl | 3, _ => rfl | 4, _ => rfl | i + 5, hi => absurd hi (by show ¬ i + 5 < 5; omega)⟩, rfl, by decide, by decide⟩
theorem kwd_8 : swd σ 60 (kwl 8) := ⟨rfl, ⟨61, rfl, rfl, rfl, fun i hi => match i, hi with | 0, _ => rfl | 1, _ => rfl | 2, _ => rfl | 3, _ => rfl | 4, _ => rfl | i + 5, hi => absurd hi (by show ¬ i + 5 < 5; omega)⟩, rfl, by decide, by decide⟩
theorem kwd_9 : swd σ 62 (kwl 9) := ⟨rfl, ⟨63, rfl, rfl, rfl, fun i hi => match i, hi with | 0, _ => rfl | 1, _ => rfl | 2, _ => rfl | 3, _ => rfl | i + 4, hi => absurd hi (by show ¬ i + 4 < 4; omega)⟩, rfl, by decide, by decide⟩
theorem kwd_10 : swd σ 64 (kwl 10) := ⟨rfl, ⟨65, rfl, rfl, rfl, fun i hi => match i, hi with | 0, _ => rfl | 1, _ => rfl | i + 2, hi => absurd hi (by show ¬ i + 2 < 2; omega)⟩, rfl, by decide, by decide⟩
theorem kwd_11 : swd σ 66 (kwl 11) := ⟨rfl, ⟨67, rfl, rfl, rfl, fun i hi => match i, hi with | 0, _ => rfl | 1, _ => rfl | i + 2, hi => absurd hi (by show ¬ i + 2 < 2; omega)⟩, rfl, by decide, by decide⟩
theorem kwd_12 : swd σ 68 (kwl 12) := ⟨rfl, ⟨69, rfl, rfl, rfl, fun i hi => match i, hi with | 0, _ => rfl | 1, _ => rfl | 2, _ => rfl | 3, _ => rfl | i + 4, hi => absurd hi (by show ¬ i + 4 < 4; omega)⟩, rfl, by decide, by decide⟩
theorem kwd_13 : swd σ 70 (kwl 13) := ⟨rfl, ⟨71, rfl, rfl, rfl, fun i hi => match i, hi with | 0, _ => rfl | 1, _ => rfl | 2, _ => rfl | i + 3, hi => absurd hi (by show ¬ i + 3 < 3; omega)⟩, rfl, by decide, by decide⟩
theorem kwd_14 : swd σ 72 (kwl 14) := ⟨rfl, ⟨73, rfl, rfl, rfl, fun i hi => match i, hi with | 0, _ => rfl | 1, _ => rfl | i + 2, hi => absurd hi (by show ¬ i + 2 < 2; omega)⟩, rfl, by decide, by decide⟩
theorem kwd_15 : swd σ 74 (kwl 15) := ⟨rfl, ⟨75, rfl, rfl, rfl, fun i hi => match i, hi with | 0, _ => rfl | 1, _ => rfl | 2, _ => rfl | 3, _ => rfl | i + 4, hi => absurd hi (by show ¬ i + 4 < 4; omega)⟩, rfl, by decide, by decide⟩
theorem kwd_16 : swd σ 76 (kwl 16) := ⟨rfl, ⟨77, rfl, rfl, rfl, fun i hi => match i, hi with | 0, _ => rfl | 1, _ => rfl | 2, _ => rfl | 3, _ => rfl | i + 4, hi => absurd hi (by show ¬ i + 4 < 4; omega)⟩, rfl, by decide, by decide⟩
theorem kwd_17 : swd σ 78 (kwl 17) := ⟨rfl, ⟨79, rfl, rfl, rfl, fun i hi => match i, hi with | 0, _ => rfl | 1, _ => rfl | 2, _ => rfl | i + 3, hi => absurd hi (by show ¬ i + 3 < 3; omega)⟩, rfl, by decide, by decide⟩
theorem kwd_18 : swd σ 80 (kwl 18) := ⟨rfl, ⟨81, rfl, rfl, rfl, fun i hi => match i, hi with | 0, _ => rfl | 1, _ => rfl | 2, _ => rfl | i + 3, hi => absurd hi (by show ¬ i + 3 < 3; omega)⟩, rfl, by decide, by decide⟩
theorem kwd_19 : swd σ 82 (kwl 19) := ⟨rfl, ⟨83, rfl, rfl, rfl, fun i hi => match i, hi with | 0, _ => rfl | 1, _ => rfl | i + 2, hi => absurd hi (by show ¬ i + 2 < 2; omega)⟩, rfl, by decide, by decide⟩
theorem kwd_20 : swd σ 84 (kwl 20) := ⟨rfl, ⟨85, rfl, rfl, rfl, fun i hi => match i, hi with | 0, _ => rfl | 1, _ => rfl | 2, _ => rfl | i + 3, hi => absurd hi (by show ¬ i + 3 < 3; omega)⟩, rfl, by decide, by decide⟩
theorem kwd_21 : swd σ 86 (kwl 21) := ⟨rfl, ⟨87, rfl, rfl, rfl, fun i hi => match i, hi with | 0, _ => rfl | 1, _ => rfl | 2, _ => rfl | i + 3, hi => absurd hi (by show ¬ i + 3 < 3; omega)⟩, rfl, by decide, by decide⟩
theorem kwd_22 : swd σ 88 (kwl 22) := ⟨rfl, ⟨89, rfl, rfl, rfl, fun i hi => match i, hi with | 0, _ => rfl | 1, _ => rfl | 2, _ => rfl | 3, _ => rfl | 4, _ => rfl | 5, _ => rfl | i + 6, hi => absurd hi (by show ¬ i + 6 < 6; omega)⟩, rfl, by decide, by decide⟩
theorem kwd_23 : swd σ 90 (kwl 23) := ⟨rfl, ⟨91, rfl, rfl, rfl, fun i hi => match i, hi with | 0, _ => rfl | 1, _ => rfl | 2, _ => rfl | i + 3, hi => absurd hi (by show ¬ i + 3 < 3; omega)⟩, rfl, by decide, by decide⟩
theorem kwd_24 : swd σ 92 (kwl 24) := ⟨rfl, ⟨93, rfl, rfl, rfl, fun i hi => match i, hi with | 0, _ => rfl | 1, _ => rfl | 2, _ => rfl | 3, _ => rfl | i + 4, hi => absurd hi (by show ¬ i + 4 < 4; omega)⟩, rfl, by decide, by decide⟩
theorem kwd_25 : swd σ 94 (kwl 25) := ⟨rfl, ⟨95, rfl, rfl, rfl, fun i hi => match i, hi with | 0, _ => rfl | 1, _ => rfl | 2, _ => rfl | 3, _ => rfl | 4, _ => rfl | i + 5, hi => absurd hi (by show ¬ i + 5 < 5; omega)⟩, rfl, by decide, by decide⟩
theorem kwd_26 : swd σ 96 (kwl 26) := ⟨rfl, ⟨97, rfl, rfl, rfl, fun i hi => match i, hi with | 0, _ => rfl | 1, _ => rfl | 2, _ => rfl | 3, _ => rfl | 4, _ => rfl | i + 5, hi => absurd hi (by show ¬ i + 5 < 5; omega)⟩, rfl, by decide, by decide⟩
theorem kwd_27 : swd σ 98 (kwl 27) := ⟨rfl, ⟨99, rfl, rfl, rfl, fun i hi => match i, hi with | 0, _ => rfl | 1, _ => rfl | 2, _ => rfl | 3, _ => rfl | i + 4, hi => absurd hi (by show ¬ i + 4 < 4; omega)⟩, rfl, by decide, by decide⟩
theorem kwd_28 : swd σ 100 (kwl 28) := ⟨rfl, ⟨101, rfl, rfl, rfl, fun i hi => match i, hi with | 0, _ => rfl | 1, _ => rfl | 2, _ => rfl | 3, _ => rfl | i + 4, hi => absurd hi (by show ¬ i + 4 < 4; omega)⟩, rfl, by decide, by decide⟩
theorem kwd_29 : swd σ 102 (kwl 29) := ⟨rfl, ⟨103, rfl, rfl, rfl, fun i hi => match i, hi with | 0, _ => rfl | 1, _ => rfl | 2, _ => rfl | 3, _ => rfl | i + 4, hi => absurd hi (by show ¬ i + 4 < 4; omega)⟩, rfl, by decide, by decide⟩
theorem kwd_30 : swd σ 104 (kwl 30) := ⟨rfl, ⟨105, rfl, rfl, rfl, fun i hi => match i, hi with | 0, _ => rfl | 1, _ => rfl | 2, _ => rfl | 3, _ => rfl | 4, _ => rfl | 5, _ => rfl | i + 6, hi => absurd hi (by show ¬ i + 6 < 6; omega)⟩, rfl, by decide, by decide⟩
theorem kwd_31 : swd σ 106 (kwl 31) := ⟨rfl, ⟨107, rfl, rfl, rfl, fun i hi => match i, hi with | 0, _ => rfl | 1, _ => rfl | 2, _ => rfl | i + 3, hi => absurd hi (by show ¬ i + 3 < 3; omega)⟩, rfl, by decide, by decide⟩
theorem kwd_e : swd σ 108 [] := ⟨rfl, ⟨109, rfl, rfl, rfl, fun i hi => absurd hi (Nat.not_lt_zero i)⟩, rfl, by decide, by decide⟩
end WORDS

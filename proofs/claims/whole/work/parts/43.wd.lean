/-! ===== the reference's docket: what always holds of its numbers ===== -/
/-- two values joined by a sign; only where they are such as it takes -/
def jM (s a b : Int) : Option Int :=
  if s = 8 then (if (a = 0 ∨ a = 1) ∧ (b = 0 ∨ b = 1) then some (b2 (a = 1 ∧ b = 1)) else none)
  else if s = 9 then (if (a = 0 ∨ a = 1) ∧ (b = 0 ∨ b = 1) then some (b2 (a = 1 ∨ b = 1)) else none)
  else if s = 14 then (if a + b ≤ 1000000 then some (a + b) else none)
  else if s = 15 then some (b2 (a < b))
  else if s = 16 then some (b2 (a = b))
  else some (b2 (b < a))
/-- a sign that joins two -/
abbrev jS (s : Int) : Prop := s = 8 ∨ s = 9 ∨ (14 ≤ s ∧ s ≤ 17)
/-- the codes of a condition on a stack (16 at most): what a sign does -/
def xM (e : Int → Int) (s : Int) (st : List Int) : Option (List Int) :=
  if s = 7 then (match st with
    | a :: r => if a = 0 ∨ a = 1 then some ((1 - a) :: r) else none
    | _ => none)
  else if jS s then (match st with
    | b :: a :: r => (match jM s a b with
      | some c => some (c :: r)
      | none => none)
    | _ => none)
  else if st.length < 16 then some (e s :: st) else none
def xMs (e : Int → Int) : List Int → List Int → Option (List Int)
  | [], st => some st
  | s :: r, st => match xM e s st with
    | none => none
    | some q => xMs e r q
/-- the n signs from i on -/
def rowL (f : Int → Int) : Nat → Int → List Int
  | 0, _ => []
  | n + 1, i => f i :: rowL f n (i + 1)
/-- what a sign asks for may be -/
def EnvOK (e : Int → Int) : Prop := (∀ s, 1 ≤ s → s ≤ 6 → e s = 0 ∨ e s = 1) ∧ (∀ s, 11 ≤ s → s ≤ 13 → 0 ≤ e s ∧ e s ≤ 1000) ∧ ∀ s, 1000 ≤ s → e s = s - 1000
/-- a condition: told by its signs, it comes to true or false, whatever is asked -/
def CondM (L : List Int) : Prop := (∀ s, s ∈ L → (1 ≤ s ∧ s ≤ 17 ∧ s ≠ 10) ∨ (1000 ≤ s ∧ s ≤ 1999)) ∧ ∀ e, EnvOK e → ∃ b, (b = 0 ∨ b = 1) ∧ xMs e L [] = some [b]
/-- what a line says -/
def sLine (sg : Nat → Int → Int) (v l w : Int) : Int := sg 6 (84 * v + 7 * l + w)
/-- a line of a law -/
def WLn (f sn : Int → Int) : Prop := 0 ≤ f 0 ∧ f 0 ≤ 7 ∧ (f 0 ≤ 1 → 0 ≤ f 1 ∧ f 1 ≤ 5 ∧ 0 ≤ f 2 ∧ f 2 ≤ 9) ∧ (f 0 = 2 → 0 ≤ f 1 ∧ f 1 ≤ 90) ∧ (f 0 = 3 → 0 ≤ f 1 ∧ f 1 ≤ 4 ∧ 0 ≤ f 2 ∧ f 2 ≤ 3 ∧ 0 ≤ f 3 ∧ f 3 ≤ f 4 ∧ f 4 ≤ 240) ∧ (f 0 = 4 ∨ f 0 = 5 → 0 ≤ f 1 ∧ f 1 ≤ 4) ∧ (4 ≤ f 0 → f 0 ≤ 6 → 0 ≤ f 5 ∧ 0 ≤ f 6 ∧ f 5 + f 6 ≤ 260 ∧ CondM (rowL sn (f 6).toNat (f 5)))
def WD (sg : Nat → Int → Int) : Prop :=
  (∀ k j, i32 (sg k j)) ∧
  (0 ≤ sg 1 0 ∧ sg 1 0 ≤ 9999) ∧
  (0 ≤ sg 1 1 ∧ sg 1 1 ≤ 8) ∧
  (0 ≤ sg 1 2 ∧ sg 1 2 ≤ 16) ∧
  (0 ≤ sg 1 3 ∧ sg 1 3 ≤ 24) ∧
  (0 ≤ sg 1 4 ∧ sg 1 4 ≤ 6) ∧
  (0 ≤ sg 1 5 ∧ sg 1 5 ≤ 16) ∧
  (0 ≤ sg 1 6 ∧ sg 1 6 ≤ 12) ∧
  (∀ i, 0 ≤ i → i < sg 1 1 → 0 ≤ sg 2 (2 * i) ∧ sg 2 (2 * i) ≤ 32759 ∧ 0 ≤ sg 2 (2 * i + 1) ∧ sg 2 (2 * i + 1) ≤ 999) ∧
  (∀ i, 0 ≤ i → i < sg 1 2 → 0 ≤ sg 3 (3 * i) ∧ sg 3 (3 * i) < sg 1 1 ∧ 0 ≤ sg 3 (3 * i + 1) ∧ sg 3 (3 * i + 1) ≤ 5 ∧ 0 ≤ sg 3 (3 * i + 2) ∧ sg 3 (3 * i + 2) ≤ sg 1 0) ∧
  (∀ i, 0 ≤ i → i < sg 1 3 → 0 ≤ sg 4 (4 * i) ∧ sg 4 (4 * i) < sg 1 2 ∧ 0 ≤ sg 4 (4 * i + 1) ∧ sg 4 (4 * i + 1) ≤ 15 ∧ 0 ≤ sg 4 (4 * i + 2) ∧ sg 4 (4 * i + 2) ≤ 1 ∧ 0 ≤ sg 4 (4 * i + 3) ∧ sg 4 (4 * i + 3) ≤ sg 1 0) ∧
  (∀ i, 0 ≤ i → i < sg 1 4 → 0 ≤ sg 5 (2 * i) ∧ sg 5 (2 * i) ≤ 12 ∧ 0 ≤ sg 5 (2 * i + 1) ∧ sg 5 (2 * i + 1) ≤ sg 1 0) ∧
  (∀ i, 0 ≤ i → i < sg 1 5 → 0 ≤ sg 8 (7 * i) ∧ sg 8 (7 * i) < sg 1 2 ∧ 0 ≤ sg 8 (7 * i + 1) ∧ sg 8 (7 * i + 1) ≤ 4 ∧ 0 ≤ sg 8 (7 * i + 2) ∧ sg 8 (7 * i + 2) ≤ 240 ∧ 0 ≤ sg 8 (7 * i + 3) ∧ sg 8 (7 * i + 3) ≤ 3 ∧ 0 ≤ sg 8 (7 * i + 4) ∧ sg 8 (7 * i + 4) ≤ 1 ∧ 0 ≤ sg 8 (7 * i + 5) ∧ sg 8 (7 * i + 5) ≤ sg 1 0 ∧ sg 8 (7 * i + 5) ≤ sg 8 (7 * i + 6) ∧ (sg 8 (7 * i + 6) ≤ sg 1 0 ∨ sg 8 (7 * i + 6) = 100000)) ∧
  (∀ i j, 0 ≤ i → i < j → j < sg 1 5 → sg 8 (7 * i) = sg 8 (7 * j) → sg 8 (7 * i + 6) ≤ sg 8 (7 * j + 5)) ∧
  (∀ i, 0 ≤ i → i < sg 1 6 → 0 ≤ sg 9 (3 * i) ∧ sg 9 (3 * i) < sg 1 1 ∧ 0 ≤ sg 9 (3 * i + 1) ∧ sg 9 (3 * i + 1) ≤ sg 9 (3 * i + 2) ∧ sg 9 (3 * i + 2) ≤ sg 1 0) ∧
  (∀ v, 0 ≤ v → v < sg 1 4 → ∀ l, 0 ≤ l → l < sg 5 (2 * v) → WLn (sLine sg v l) fun j => sg 7 (260 * v + j))
theorem WD.i {sg : Nat → Int → Int} (W : WD sg) : ∀ k j, i32 (sg k j) := W.1
theorem WD.n0 {sg : Nat → Int → Int} (W : WD sg) : 0 ≤ sg 1 0 ∧ sg 1 0 ≤ 9999 := W.2.1
theorem WD.n1 {sg : Nat → Int → Int} (W : WD sg) : 0 ≤ sg 1 1 ∧ sg 1 1 ≤ 8 := W.2.2.1
theorem WD.n2 {sg : Nat → Int → Int} (W : WD sg) : 0 ≤ sg 1 2 ∧ sg 1 2 ≤ 16 := W.2.2.2.1
theorem WD.n3 {sg : Nat → Int → Int} (W : WD sg) : 0 ≤ sg 1 3 ∧ sg 1 3 ≤ 24 := W.2.2.2.2.1
theorem WD.n4 {sg : Nat → Int → Int} (W : WD sg) : 0 ≤ sg 1 4 ∧ sg 1 4 ≤ 6 := W.2.2.2.2.2.1
theorem WD.n5 {sg : Nat → Int → Int} (W : WD sg) : 0 ≤ sg 1 5 ∧ sg 1 5 ≤ 16 := W.2.2.2.2.2.2.1
theorem WD.n6 {sg : Nat → Int → Int} (W : WD sg) : 0 ≤ sg 1 6 ∧ sg 1 6 ≤ 12 := W.2.2.2.2.2.2.2.1
theorem WD.pe {sg : Nat → Int → Int} (W : WD sg) : ∀ i, 0 ≤ i → i < sg 1 1 → 0 ≤ sg 2 (2 * i) ∧ sg 2 (2 * i) ≤ 32759 ∧ 0 ≤ sg 2 (2 * i + 1) ∧ sg 2 (2 * i + 1) ≤ 999 := W.2.2.2.2.2.2.2.2.1
theorem WD.de {sg : Nat → Int → Int} (W : WD sg) : ∀ i, 0 ≤ i → i < sg 1 2 → 0 ≤ sg 3 (3 * i) ∧ sg 3 (3 * i) < sg 1 1 ∧ 0 ≤ sg 3 (3 * i + 1) ∧ sg 3 (3 * i + 1) ≤ 5 ∧ 0 ≤ sg 3 (3 * i + 2) ∧ sg 3 (3 * i + 2) ≤ sg 1 0 := W.2.2.2.2.2.2.2.2.2.1
theorem WD.fi {sg : Nat → Int → Int} (W : WD sg) : ∀ i, 0 ≤ i → i < sg 1 3 → 0 ≤ sg 4 (4 * i) ∧ sg 4 (4 * i) < sg 1 2 ∧ 0 ≤ sg 4 (4 * i + 1) ∧ sg 4 (4 * i + 1) ≤ 15 ∧ 0 ≤ sg 4 (4 * i + 2) ∧ sg 4 (4 * i + 2) ≤ 1 ∧ 0 ≤ sg 4 (4 * i + 3) ∧ sg 4 (4 * i + 3) ≤ sg 1 0 := W.2.2.2.2.2.2.2.2.2.2.1
theorem WD.ve {sg : Nat → Int → Int} (W : WD sg) : ∀ i, 0 ≤ i → i < sg 1 4 → 0 ≤ sg 5 (2 * i) ∧ sg 5 (2 * i) ≤ 12 ∧ 0 ≤ sg 5 (2 * i + 1) ∧ sg 5 (2 * i + 1) ≤ sg 1 0 := W.2.2.2.2.2.2.2.2.2.2.2.1
theorem WD.te {sg : Nat → Int → Int} (W : WD sg) : ∀ i, 0 ≤ i → i < sg 1 5 → 0 ≤ sg 8 (7 * i) ∧ sg 8 (7 * i) < sg 1 2 ∧ 0 ≤ sg 8 (7 * i + 1) ∧ sg 8 (7 * i + 1) ≤ 4 ∧ 0 ≤ sg 8 (7 * i + 2) ∧ sg 8 (7 * i + 2) ≤ 240 ∧ 0 ≤ sg 8 (7 * i + 3) ∧ sg 8 (7 * i + 3) ≤ 3 ∧ 0 ≤ sg 8 (7 * i + 4) ∧ sg 8 (7 * i + 4) ≤ 1 ∧ 0 ≤ sg 8 (7 * i + 5) ∧ sg 8 (7 * i + 5) ≤ sg 1 0 ∧ sg 8 (7 * i + 5) ≤ sg 8 (7 * i + 6) ∧ (sg 8 (7 * i + 6) ≤ sg 1 0 ∨ sg 8 (7 * i + 6) = 100000) := W.2.2.2.2.2.2.2.2.2.2.2.2.1
theorem WD.un {sg : Nat → Int → Int} (W : WD sg) : ∀ i j, 0 ≤ i → i < j → j < sg 1 5 → sg 8 (7 * i) = sg 8 (7 * j) → sg 8 (7 * i + 6) ≤ sg 8 (7 * j + 5) := W.2.2.2.2.2.2.2.2.2.2.2.2.2.1
theorem WD.ti {sg : Nat → Int → Int} (W : WD sg) : ∀ i, 0 ≤ i → i < sg 1 6 → 0 ≤ sg 9 (3 * i) ∧ sg 9 (3 * i) < sg 1 1 ∧ 0 ≤ sg 9 (3 * i + 1) ∧ sg 9 (3 * i + 1) ≤ sg 9 (3 * i + 2) ∧ sg 9 (3 * i + 2) ≤ sg 1 0 := W.2.2.2.2.2.2.2.2.2.2.2.2.2.2.1
theorem WD.li {sg : Nat → Int → Int} (W : WD sg) : ∀ v, 0 ≤ v → v < sg 1 4 → ∀ l, 0 ≤ l → l < sg 5 (2 * v) → WLn (sLine sg v l) fun j => sg 7 (260 * v + j) := W.2.2.2.2.2.2.2.2.2.2.2.2.2.2.2

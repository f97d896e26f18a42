/-! ===== LEVEL B: numbers. Every Int32 is iI of an Int ===== -/
def iI (z : Int) : Int32 := Int32.ofInt z
theorem iI_add (a b : Int) : iI a + iI b = iI (a + b) := (Int32.ofInt_add a b).symm
theorem iI_sub (a b : Int) : iI a - iI b = iI (a - b) := (Int32.ofInt_sub a b).symm
theorem iI_mul (a b : Int) : iI a * iI b = iI (a * b) := (Int32.ofInt_mul a b).symm
theorem iI_neg (a : Int) : -iI a = iI (-a) := Int32.neg_ofInt
theorem iI_of (x : Int32) : iI x.toInt = x := Int32.ofInt_toInt x
theorem iI_on (n : Nat) : (OfNat.ofNat n : Int32) = iI (OfNat.ofNat n : Int) := (Int32.ofInt_eq_ofNat (n := n)).symm
theorem iI_0 : (0 : Int32) = iI 0 := rfl
theorem iI_1 : (1 : Int32) = iI 1 := rfl
/-- fits an int -/
abbrev i32 (z : Int) : Prop := -2147483648 ≤ z ∧ z ≤ 2147483647
theorem i32_of (x : Int32) : i32 x.toInt := ⟨Int32.le_toInt x, Int32.toInt_le x⟩
theorem iI_t {z : Int} (h : i32 z) : (iI z).toInt = z := Int32.toInt_ofInt_of_le (by have := h.1; omega) (by have := h.2; omega)
theorem iI_inj {a b : Int} (ha : i32 a) (hb : i32 b) : iI a = iI b ↔ a = b := by
  rw [← Int32.toInt_inj, iI_t ha, iI_t hb]
theorem iI_lt {a b : Int} (ha : i32 a) (hb : i32 b) : iI a < iI b ↔ a < b := by
  rw [Int32.lt_iff_toInt_lt, iI_t ha, iI_t hb]
theorem iI_le {a b : Int} (ha : i32 a) (hb : i32 b) : iI a ≤ iI b ↔ a ≤ b := by
  rw [Int32.le_iff_toInt_le, iI_t ha, iI_t hb]
theorem iI_cl {z : Int} (h : i32 z) : (iI z).toNatClampNeg = z.toNat := Int32.toNatClampNeg_ofInt_of_le (by have := h.1; omega) (by have := h.2; omega)
theorem iI_div {a b : Int} (ha : i32 a) (hb : i32 b) : iI a / iI b = iI (a.tdiv b) := (Int32.ofInt_tdiv ha.1 ha.2 hb.1 hb.2).symm
theorem iI_rem {a b : Int} (ha : i32 a) (hb : i32 b) : iI a - iI a / iI b * iI b = iI (a.tmod b) := by
  rw [← Int32.toInt_inj, rem_toInt, iI_t ha, iI_t hb, iI_t]
  have h1 : (a.tmod b).natAbs = a.natAbs % b.natAbs := Int.natAbs_tmod a b
  have h2 := Nat.mod_le a.natAbs b.natAbs
  have h3 : 0 ≤ a → 0 ≤ a.tmod b := Int.tmod_nonneg b
  have := ha.1
  have := ha.2
  by_cases h : 0 ≤ a
  · have := h3 h
    exact ⟨by omega, by omega⟩
  · exact ⟨by omega, by
      have h4 : a.tmod b = -((-a).tmod b) := by rw [Int.neg_tmod, Int.neg_neg]
      have h5 := Int.tmod_nonneg b (show 0 ≤ -a by omega)
      omega⟩
/-! reading off what a function answers -/
theorem mb_eq {α β : Type} {x : gM α} {f : α → gM β} {h : gH} {a : α} {h1 : gH} (hx : x h = some (a, h1)) : mb x f h = f a h1 := by
  simp only [mb, hx]
theorem mp_eq {α : Type} (a : α) (h : gH) : mp a h = some (a, h) := rfl
theorem ifz {α : Type} {P : Prop} [Decidable P] (x y : α) : (if (if P then (1 : Int32) else 0) = 0 then x else y) = if P then y else x := by
  by_cases h : P <;> simp [h]
theorem mz_if {P : Prop} [Decidable P] (h : gH) : mz (if P then (1 : Int32) else 0) h = some (if P then (1 : Int32) else 0, h) := by
  by_cases hp : P <;> simp [hp, mz]
theorem mv_eq {α : Type} {ts : List Nat} {a : Nat} {f : gM α} {h : gH} {t n : Nat} (ha : h.1[a]? = some (t, n)) (ht : ts.contains t = true) : mv ts a f h = f h := by
  simp only [mv, ha, ht, if_true]
theorem ap_if {α : Type} {P : Prop} [Decidable P] (f g : gM α) (h : gH) : (if P then f else g) h = if P then f h else g h := by
  by_cases hp : P <;> simp [hp]

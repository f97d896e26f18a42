/-! ===== the reference's small readers ===== -/
theorem OKM.m {M : Nat} {sg : Nat → Int → Int} {h : gH} {α β : Type} (hM : OKM M h) (g : gM α) (f : α → gM β) : mb (mv [11] M g) f (mK M sg h) = mb g f (mK M sg h) := by
  unfold mb
  rw [hM.v]
theorem mb_div {α : Type} {a b : Int} (f : Int32 → gM α) (h : gH) (ha : i32 a) (hb : i32 b) (h0 : b ≠ 0) : mb (gDiv (iI a) (iI b)) f h = f (iI (a.tdiv b)) h := by
  refine mb_eq ?_
  unfold gDiv
  rw [if_neg (by rw [iI_0, iI_inj hb ⟨by omega, by omega⟩]; exact h0), iI_div ha hb]
theorem mb_rem {α : Type} {a b : Int} (f : Int32 → gM α) (h : gH) (ha : i32 a) (hb : i32 b) (h0 : b ≠ 0) : mb (gRem (iI a) (iI b)) f h = f (iI (a.tmod b)) h := by
  refine mb_eq ?_
  unfold gRem
  rw [if_neg (by rw [iI_0, iI_inj hb ⟨by omega, by omega⟩]; exact h0), iI_rem ha hb]
theorem B_in {a l m : Int} (ha : i32 a) (hl : i32 l) (hm : i32 m) (s : gH) : m12_in (iI a) (iI l) (iI m) s = some (iI (b2 (l ≤ a ∧ a ≤ m)), s) := by
  unfold m12_in m12_in_p14 m12_in_p15
  simp only [ap_if, iI_on, iI_lt ha hl, iI_lt hm ha, mz_0, mz_1]
  by_cases h1 : a < l
  · rw [if_pos h1, b2_f (by omega)]
  · rw [if_neg h1]
    by_cases h2 : m < a
    · rw [if_pos h2, b2_f (by omega)]
    · rw [if_neg h2, b2_t (by omega)]
theorem B_isDay {a : Int} (ha : i32 a) (s : gH) : m12_isDay (iI a) s = some (iI (b2 (0 ≤ a ∧ a ≤ 9999)), s) := by
  unfold m12_isDay
  simp only [iI_on]
  rw [mb_eq (B_in ha ⟨by omega, by omega⟩ ⟨by omega, by omega⟩ s), mz_b]
theorem B_orNone {a : Int} (ha : i32 a) (s : gH) : m12_orNone (iI a) s = some (iI (if a < 0 then -3 else a), s) := by
  unfold m12_orNone m12_orNone_p10
  simp (disch := first | assumption | (refine ⟨?_, ?_⟩ <;> omega)) only [ap_if, iI_on, iI_neg, iI_le, mp_eq]
  split <;> split <;> first | rfl | omega
theorem sLine_i {sg : Nat → Int → Int} (W : WD sg) (v l w : Int) : i32 (sLine sg v l w) := W.i _ _
section RD1
variable {M : Nat} {sg : Nat → Int → Int} {h : gH}
theorem B_isPerson (hM : OKM M h) (W : WD sg) {a : Int} (ha : i32 a) : m12_isPerson M (iI a) (mK M sg h) = some (iI (b2 (0 ≤ a ∧ a < sg 1 1)), mK M sg h) := by
  have := W.n1
  unfold m12_isPerson
  simp (disch := omega) only [hM.a1, iI_on, hM.l1, iI_sub]
  rw [mb_eq (B_in ha ⟨by omega, by omega⟩ ⟨by omega, by omega⟩ _), mz_b, b2_c (Q := 0 ≤ a ∧ a < sg 1 1) (by omega)]
theorem B_isDeed (hM : OKM M h) (W : WD sg) {a : Int} (ha : i32 a) : m12_isDeed M (iI a) (mK M sg h) = some (iI (b2 (0 ≤ a ∧ a < sg 1 2)), mK M sg h) := by
  have := W.n2
  unfold m12_isDeed
  simp (disch := omega) only [hM.a1, iI_on, hM.l1, iI_sub]
  rw [mb_eq (B_in ha ⟨by omega, by omega⟩ ⟨by omega, by omega⟩ _), mz_b, b2_c (Q := 0 ≤ a ∧ a < sg 1 2) (by omega)]
theorem B_isVersion (hM : OKM M h) (W : WD sg) {a : Int} (ha : i32 a) : m12_isVersion M (iI a) (mK M sg h) = some (iI (b2 (0 ≤ a ∧ a < sg 1 4)), mK M sg h) := by
  have := W.n4
  unfold m12_isVersion
  simp (disch := omega) only [hM.a1, iI_on, hM.l1, iI_sub]
  rw [mb_eq (B_in ha ⟨by omega, by omega⟩ ⟨by omega, by omega⟩ _), mz_b, b2_c (Q := 0 ≤ a ∧ a < sg 1 4) (by omega)]
theorem B_isTerm (hM : OKM M h) (W : WD sg) {a : Int} (ha : i32 a) : m12_isTerm M (iI a) (mK M sg h) = some (iI (b2 (0 ≤ a ∧ a < sg 1 5)), mK M sg h) := by
  have := W.n5
  unfold m12_isTerm
  simp (disch := omega) only [hM.a1, iI_on, hM.l1, iI_sub]
  rw [mb_eq (B_in ha ⟨by omega, by omega⟩ ⟨by omega, by omega⟩ _), mz_b, b2_c (Q := 0 ≤ a ∧ a < sg 1 5) (by omega)]
theorem B_of (hM : OKM M h) {t w : Int} (h0 : 0 ≤ 7 * t + w) (h1 : 7 * t + w < 112) : m12_of M (iI t) (iI w) (mK M sg h) = some (iI (sg 8 (7 * t + w)), mK M sg h) := by
  unfold m12_of
  simp (disch := omega) only [iI_on, iI_mul, iI_add, hM.a8, hM.l8, mp_eq]
theorem B_dayOf (hM : OKM M h) {d : Int} (h0 : 0 ≤ d) (h1 : d < 16) : m12_dayOf M (iI d) (mK M sg h) = some (iI (sg 3 (3 * d + 2)), mK M sg h) := by
  unfold m12_dayOf
  simp (disch := omega) only [iI_on, iI_mul, iI_add, hM.a3, hM.l3, mp_eq]
theorem B_ofLine (hM : OKM M h) {v l w : Int} (h0 : 0 ≤ 84 * v + 7 * l + w) (h1 : 84 * v + 7 * l + w < 504) : m12_ofLine M (iI v) (iI l) (iI w) (mK M sg h) = some (iI (sLine sg v l w), mK M sg h) := by
  unfold m12_ofLine sLine
  simp (disch := omega) only [iI_on, iI_mul, iI_add, hM.a6, hM.l6, mp_eq]
theorem B_whose (hM : OKM M h) (W : WD sg) {t : Int} (h0 : 0 ≤ t) (h1 : t < sg 1 5) : m12_whose M (iI t) (mK M sg h) = some (iI (sg 3 (3 * sg 8 (7 * t))), mK M sg h) := by
  have := W.te t h0 h1
  have := W.n2
  have := W.n5
  unfold m12_whose
  simp (disch := omega) only [iI_on, iI_mul, iI_add, hM.a3, hM.m, mb_eq (B_of hM _ _), Int.add_zero, hM.l3, mp_eq]
def sAgeOn (sg : Nat → Int → Int) (p d : Int) : Int := (sg 2 (2 * p) + d) / 360
theorem B_ageOn (hM : OKM M h) (W : WD sg) {p d : Int} (h0 : 0 ≤ p) (h1 : p < sg 1 1) (h2 : 0 ≤ d) (h3 : d ≤ 9999) : m12_ageOn M (iI p) (iI d) (mK M sg h) = some (iI (sAgeOn sg p d), mK M sg h) := by
  have := W.pe p h0 h1
  have := W.n1
  unfold m12_ageOn sAgeOn
  simp (disch := omega) only [iI_on, iI_mul, iI_add, hM.a2, hM.l2]
  rw [mb_div _ _ ⟨by omega, by omega⟩ ⟨by omega, by omega⟩ (by omega), mp_eq, Int.tdiv_eq_ediv_of_nonneg (by omega)]
def sAge (sg : Nat → Int → Int) (d : Int) : Int := sAgeOn sg (sg 3 (3 * d)) (sg 3 (3 * d + 2))
theorem sAge_b (W : WD sg) {d : Int} (h0 : 0 ≤ d) (h1 : d < sg 1 2) : 0 ≤ sAge sg d ∧ sAge sg d ≤ 118 := by
  have a := W.de d h0 h1
  have := W.pe _ a.1 a.2.1
  have := W.n0
  unfold sAge sAgeOn
  omega
theorem B_ageAt (hM : OKM M h) (W : WD sg) {d : Int} (h0 : 0 ≤ d) (h1 : d < sg 1 2) : m12_ageAt M (iI d) (mK M sg h) = some (iI (sAge sg d), mK M sg h) := by
  have a := W.de d h0 h1
  have := W.n2
  have := W.n0
  unfold m12_ageAt sAge
  simp (disch := omega) only [iI_on, iI_mul, hM.a3, hM.l3, hM.m, mb_eq (B_dayOf hM _ _), mb_eq (B_ageOn hM W _ _ _ _), mp_eq]
theorem B_isYoung (hM : OKM M h) (W : WD sg) {d : Int} (h0 : 0 ≤ d) (h1 : d < sg 1 2) : m12_isYoung M (iI d) (mK M sg h) = some (iI (b2 (sAge sg d < 18)), mK M sg h) := by
  have := sAge_b W h0 h1
  unfold m12_isYoung m12_isYoung_p15
  simp (config := { maxSteps := 1000000 }) (disch := first | assumption | exact W.i _ _ | exact sLine_i W _ _ _ | exact W1.i _ _ | exact hg _ _ | exact W3.i _ _ | (refine ⟨?_, ?_⟩ <;> omega) | omega) only [Int.reduceEq, Int.reduceLT, Int.reduceLE, Int.reduceNeg, Int.reduceAdd, Int.reduceSub, Int.reduceMul, if_true, if_false, not_true, not_false_eq_true, iI_on, iI_mul, iI_add, iI_sub, iI_neg, ap_if, mp_eq, mz_0, mz_1, mz_b, b2_0, b2_1, iI_lt, iI_le, iI_inj, mb_div, mb_rem, hM.m, hM.a1, hM.a2, hM.a3, hM.a4, hM.a5, hM.a6, hM.a7, hM.a8, hM.a9, hM.a10, hM.a11, hM.a12, hM.a13, hM.a14, hM.a15, hM.a16, hM.a17, hM.a18, hM.a19, hM.a20, hM.a21, hM.a22, hM.a23, hM.a24, hM.a25, hM.a26, hM.a27, hM.a28, hM.l1, hM.l2, hM.l3, hM.l4, hM.l5, hM.l6, hM.l7, hM.l8, hM.l9, hM.l10, hM.l11, hM.l12, hM.l13, hM.l14, hM.l15, hM.l16, hM.l17, hM.l18, hM.l19, hM.l20, hM.l21, hM.l22, hM.l23, hM.l24, hM.l25, hM.l26, hM.l27, hM.l28, hM.c10, hM.c11, hM.c12, hM.c13, hM.c14, hM.c15, hM.c19, hM.c20, hM.c23, hM.c27, hM.c36, hM.c37, hM.c38, hM.c40, hM.c41, hM.c42, hM.c44, mb_eq (B_ageAt hM W _ _)]
  split
  · rw [b2_f (by omega)]
  · rw [b2_t (by omega)]
abbrev sStands (sg : Nat → Int → Int) (t k : Int) : Prop := sg 8 (7 * t + 5) ≤ k ∧ k < sg 8 (7 * t + 6)
theorem B_stands (hM : OKM M h) (W : WD sg) {t k : Int} (h0 : 0 ≤ t) (h1 : t < 16) (hk : i32 k) : m12_stands M (iI t) (iI k) (mK M sg h) = some (iI (b2 (sStands sg t k)), mK M sg h) := by
  unfold m12_stands m12_stands_p25 m12_stands_p26
  simp (config := { maxSteps := 1000000 }) (disch := first | assumption | exact W.i _ _ | exact sLine_i W _ _ _ | exact W1.i _ _ | exact hg _ _ | exact W3.i _ _ | (refine ⟨?_, ?_⟩ <;> omega) | omega) only [Int.reduceEq, Int.reduceLT, Int.reduceLE, Int.reduceNeg, Int.reduceAdd, Int.reduceSub, Int.reduceMul, if_true, if_false, not_true, not_false_eq_true, iI_on, iI_mul, iI_add, iI_sub, iI_neg, ap_if, mp_eq, mz_0, mz_1, mz_b, b2_0, b2_1, iI_lt, iI_le, iI_inj, mb_div, mb_rem, hM.m, hM.a1, hM.a2, hM.a3, hM.a4, hM.a5, hM.a6, hM.a7, hM.a8, hM.a9, hM.a10, hM.a11, hM.a12, hM.a13, hM.a14, hM.a15, hM.a16, hM.a17, hM.a18, hM.a19, hM.a20, hM.a21, hM.a22, hM.a23, hM.a24, hM.a25, hM.a26, hM.a27, hM.a28, hM.l1, hM.l2, hM.l3, hM.l4, hM.l5, hM.l6, hM.l7, hM.l8, hM.l9, hM.l10, hM.l11, hM.l12, hM.l13, hM.l14, hM.l15, hM.l16, hM.l17, hM.l18, hM.l19, hM.l20, hM.l21, hM.l22, hM.l23, hM.l24, hM.l25, hM.l26, hM.l27, hM.l28, hM.c10, hM.c11, hM.c12, hM.c13, hM.c14, hM.c15, hM.c19, hM.c20, hM.c23, hM.c27, hM.c36, hM.c37, hM.c38, hM.c40, hM.c41, hM.c42, hM.c44, mb_eq (B_of hM _ _)]
  split
  · rw [b2_f (by omega)]
  · split
    · rw [b2_f (by omega)]
    · rw [b2_t (by omega)]
end RD1

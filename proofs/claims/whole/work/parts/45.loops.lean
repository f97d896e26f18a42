/-! ===== the reference's readers that go through rows ===== -/
section RD2
variable {M : Nat} {sg : Nat → Int → Int} {h : gH}
def sFound (sg : Nat → Int → Int) (d k : Int) : Int := lst (fun f => sg 4 (4 * f) = d ∧ sg 4 (4 * f + 3) ≤ k) (sg 1 3).toNat
theorem B_foundOf (hM : OKM M h) (W : WD sg) {d k : Int} (hd : i32 d) (hk : i32 k) : m12_foundOf M (iI d) (iI k) (mK M sg h) = some (iI (sFound sg d k), mK M sg h) := by
  have n3 := W.n3
  unfold m12_foundOf sFound lst
  simp (config := { maxSteps := 1000000 }) (disch := first | assumption | exact W.i _ _ | exact sLine_i W _ _ _ | exact W1.i _ _ | exact hg _ _ | exact W3.i _ _ | (refine ⟨?_, ?_⟩ <;> omega) | omega) only [Int.reduceEq, Int.reduceLT, Int.reduceLE, Int.reduceNeg, Int.reduceAdd, Int.reduceSub, Int.reduceMul, if_true, if_false, not_true, not_false_eq_true, iI_on, iI_mul, iI_add, iI_sub, iI_neg, ap_if, mp_eq, mz_0, mz_1, mz_b, b2_0, b2_1, iI_lt, iI_le, iI_inj, mb_div, mb_rem]
  refine (lop (F := fun n a i => m12_foundOf_p5 n M (iI d) (iI k) (iI a) (iI i) (mK M sg h)) (K := fun a => some (iI a, mK M sg h)) (N := sg 1 3) (I := fun _ _ => True) (fun n a _ => ?_) (fun n a i _ h0 h1 => ⟨?_, trivial⟩) (sg 1 3).toNat FU (-1) 0 trivial (by omega) (by omega) (FU_lt (by omega))).1
  · show m12_foundOf_p5 (n + 1) M (iI d) (iI k) (iI a) (iI (sg 1 3)) (mK M sg h) = some (iI a, mK M sg h)
    rw [m12_foundOf_p5]
    simp (config := { maxSteps := 1000000 }) (disch := first | assumption | exact W.i _ _ | exact sLine_i W _ _ _ | exact W1.i _ _ | exact hg _ _ | exact W3.i _ _ | (refine ⟨?_, ?_⟩ <;> omega) | omega) only [Int.reduceEq, Int.reduceLT, Int.reduceLE, Int.reduceNeg, Int.reduceAdd, Int.reduceSub, Int.reduceMul, if_true, if_false, not_true, not_false_eq_true, iI_on, iI_mul, iI_add, iI_sub, iI_neg, ap_if, mp_eq, mz_0, mz_1, mz_b, b2_0, b2_1, iI_lt, iI_le, iI_inj, mb_div, mb_rem, hM.m, hM.a1, hM.a2, hM.a3, hM.a4, hM.a5, hM.a6, hM.a7, hM.a8, hM.a9, hM.a10, hM.a11, hM.a12, hM.a13, hM.a14, hM.a15, hM.a16, hM.a17, hM.a18, hM.a19, hM.a20, hM.a21, hM.a22, hM.a23, hM.a24, hM.a25, hM.a26, hM.a27, hM.a28, hM.l1, hM.l2, hM.l3, hM.l4, hM.l5, hM.l6, hM.l7, hM.l8, hM.l9, hM.l10, hM.l11, hM.l12, hM.l13, hM.l14, hM.l15, hM.l16, hM.l17, hM.l18, hM.l19, hM.l20, hM.l21, hM.l22, hM.l23, hM.l24, hM.l25, hM.l26, hM.l27, hM.l28, hM.c10, hM.c11, hM.c12, hM.c13, hM.c14, hM.c15, hM.c19, hM.c20, hM.c23, hM.c27, hM.c36, hM.c37, hM.c38, hM.c40, hM.c41, hM.c42, hM.c44]
    simp
  · show m12_foundOf_p5 (n + 1) M (iI d) (iI k) (iI a) (iI i) (mK M sg h) = m12_foundOf_p5 n M (iI d) (iI k) (iI (if sg 4 (4 * i) = d ∧ sg 4 (4 * i + 3) ≤ k then i else a)) (iI (i + 1)) (mK M sg h)
    have := W.fi i h0 h1
    rw [m12_foundOf_p5]
    simp (config := { maxSteps := 1000000 }) (disch := first | assumption | exact W.i _ _ | exact sLine_i W _ _ _ | exact W1.i _ _ | exact hg _ _ | exact W3.i _ _ | (refine ⟨?_, ?_⟩ <;> omega) | omega) only [Int.reduceEq, Int.reduceLT, Int.reduceLE, Int.reduceNeg, Int.reduceAdd, Int.reduceSub, Int.reduceMul, if_true, if_false, not_true, not_false_eq_true, iI_on, iI_mul, iI_add, iI_sub, iI_neg, ap_if, mp_eq, mz_0, mz_1, mz_b, b2_0, b2_1, iI_lt, iI_le, iI_inj, mb_div, mb_rem, hM.m, hM.a1, hM.a2, hM.a3, hM.a4, hM.a5, hM.a6, hM.a7, hM.a8, hM.a9, hM.a10, hM.a11, hM.a12, hM.a13, hM.a14, hM.a15, hM.a16, hM.a17, hM.a18, hM.a19, hM.a20, hM.a21, hM.a22, hM.a23, hM.a24, hM.a25, hM.a26, hM.a27, hM.a28, hM.l1, hM.l2, hM.l3, hM.l4, hM.l5, hM.l6, hM.l7, hM.l8, hM.l9, hM.l10, hM.l11, hM.l12, hM.l13, hM.l14, hM.l15, hM.l16, hM.l17, hM.l18, hM.l19, hM.l20, hM.l21, hM.l22, hM.l23, hM.l24, hM.l25, hM.l26, hM.l27, hM.l28, hM.c10, hM.c11, hM.c12, hM.c13, hM.c14, hM.c15, hM.c19, hM.c20, hM.c23, hM.c27, hM.c36, hM.c37, hM.c38, hM.c40, hM.c41, hM.c42, hM.c44, m12_foundOf_p49, m12_foundOf_p50]
    (repeat' split) <;> first | rfl | omega
theorem sFound_b (W : WD sg) (d k : Int) : -1 ≤ sFound sg d k ∧ sFound sg d k < sg 1 3 := by
  have := lst_le (fun f => sg 4 (4 * f) = d ∧ sg 4 (4 * f + 3) ≤ k) (sg 1 3).toNat
  have := W.n3
  unfold sFound
  omega
def sFacts (sg : Nat → Int → Int) (d k : Int) : Int := if 0 ≤ sFound sg d k then sg 4 (4 * sFound sg d k + 1) else 0
theorem B_factsOf (hM : OKM M h) (W : WD sg) {d k : Int} (hd : i32 d) (hk : i32 k) : m12_factsOf M (iI d) (iI k) (mK M sg h) = some (iI (sFacts sg d k), mK M sg h) := by
  have n3 := W.n3
  have := sFound_b W d k
  unfold m12_factsOf sFacts
  simp (config := { maxSteps := 1000000 }) (disch := first | assumption | exact W.i _ _ | exact sLine_i W _ _ _ | exact W1.i _ _ | exact hg _ _ | exact W3.i _ _ | (refine ⟨?_, ?_⟩ <;> omega) | omega) only [Int.reduceEq, Int.reduceLT, Int.reduceLE, Int.reduceNeg, Int.reduceAdd, Int.reduceSub, Int.reduceMul, if_true, if_false, not_true, not_false_eq_true, iI_on, iI_mul, iI_add, iI_sub, iI_neg, ap_if, mp_eq, mz_0, mz_1, mz_b, b2_0, b2_1, iI_lt, iI_le, iI_inj, mb_div, mb_rem, hM.m, hM.a1, hM.a2, hM.a3, hM.a4, hM.a5, hM.a6, hM.a7, hM.a8, hM.a9, hM.a10, hM.a11, hM.a12, hM.a13, hM.a14, hM.a15, hM.a16, hM.a17, hM.a18, hM.a19, hM.a20, hM.a21, hM.a22, hM.a23, hM.a24, hM.a25, hM.a26, hM.a27, hM.a28, hM.l1, hM.l2, hM.l3, hM.l4, hM.l5, hM.l6, hM.l7, hM.l8, hM.l9, hM.l10, hM.l11, hM.l12, hM.l13, hM.l14, hM.l15, hM.l16, hM.l17, hM.l18, hM.l19, hM.l20, hM.l21, hM.l22, hM.l23, hM.l24, hM.l25, hM.l26, hM.l27, hM.l28, hM.c10, hM.c11, hM.c12, hM.c13, hM.c14, hM.c15, hM.c19, hM.c20, hM.c23, hM.c27, hM.c36, hM.c37, hM.c38, hM.c40, hM.c41, hM.c42, hM.c44, mb_eq (B_foundOf hM W _ _)]
  split
  · simp (config := { maxSteps := 1000000 }) (disch := first | assumption | exact W.i _ _ | exact sLine_i W _ _ _ | exact W1.i _ _ | exact hg _ _ | exact W3.i _ _ | (refine ⟨?_, ?_⟩ <;> omega) | omega) only [Int.reduceEq, Int.reduceLT, Int.reduceLE, Int.reduceNeg, Int.reduceAdd, Int.reduceSub, Int.reduceMul, if_true, if_false, not_true, not_false_eq_true, iI_on, iI_mul, iI_add, iI_sub, iI_neg, ap_if, mp_eq, mz_0, mz_1, mz_b, b2_0, b2_1, iI_lt, iI_le, iI_inj, mb_div, mb_rem, hM.m, hM.a1, hM.a2, hM.a3, hM.a4, hM.a5, hM.a6, hM.a7, hM.a8, hM.a9, hM.a10, hM.a11, hM.a12, hM.a13, hM.a14, hM.a15, hM.a16, hM.a17, hM.a18, hM.a19, hM.a20, hM.a21, hM.a22, hM.a23, hM.a24, hM.a25, hM.a26, hM.a27, hM.a28, hM.l1, hM.l2, hM.l3, hM.l4, hM.l5, hM.l6, hM.l7, hM.l8, hM.l9, hM.l10, hM.l11, hM.l12, hM.l13, hM.l14, hM.l15, hM.l16, hM.l17, hM.l18, hM.l19, hM.l20, hM.l21, hM.l22, hM.l23, hM.l24, hM.l25, hM.l26, hM.l27, hM.l28, hM.c10, hM.c11, hM.c12, hM.c13, hM.c14, hM.c15, hM.c19, hM.c20, hM.c23, hM.c27, hM.c36, hM.c37, hM.c38, hM.c40, hM.c41, hM.c42, hM.c44, m12_factsOf_p25]
  · simp (config := { maxSteps := 1000000 }) (disch := first | assumption | exact W.i _ _ | exact sLine_i W _ _ _ | exact W1.i _ _ | exact hg _ _ | exact W3.i _ _ | (refine ⟨?_, ?_⟩ <;> omega) | omega) only [Int.reduceEq, Int.reduceLT, Int.reduceLE, Int.reduceNeg, Int.reduceAdd, Int.reduceSub, Int.reduceMul, if_true, if_false, not_true, not_false_eq_true, iI_on, iI_mul, iI_add, iI_sub, iI_neg, ap_if, mp_eq, mz_0, mz_1, mz_b, b2_0, b2_1, iI_lt, iI_le, iI_inj, mb_div, mb_rem, hM.m, hM.a1, hM.a2, hM.a3, hM.a4, hM.a5, hM.a6, hM.a7, hM.a8, hM.a9, hM.a10, hM.a11, hM.a12, hM.a13, hM.a14, hM.a15, hM.a16, hM.a17, hM.a18, hM.a19, hM.a20, hM.a21, hM.a22, hM.a23, hM.a24, hM.a25, hM.a26, hM.a27, hM.a28, hM.l1, hM.l2, hM.l3, hM.l4, hM.l5, hM.l6, hM.l7, hM.l8, hM.l9, hM.l10, hM.l11, hM.l12, hM.l13, hM.l14, hM.l15, hM.l16, hM.l17, hM.l18, hM.l19, hM.l20, hM.l21, hM.l22, hM.l23, hM.l24, hM.l25, hM.l26, hM.l27, hM.l28, hM.c10, hM.c11, hM.c12, hM.c13, hM.c14, hM.c15, hM.c19, hM.c20, hM.c23, hM.c27, hM.c36, hM.c37, hM.c38, hM.c40, hM.c41, hM.c42, hM.c44, m12_factsOf_p25]
theorem sFacts_b (W : WD sg) (d k : Int) : 0 ≤ sFacts sg d k ∧ sFacts sg d k ≤ 15 := by
  have := sFound_b W d k
  unfold sFacts
  split
  · have := W.fi (sFound sg d k) (by omega) (by omega)
    omega
  · omega
abbrev sPlead (sg : Nat → Int → Int) (d k : Int) : Prop := 0 ≤ sFound sg d k ∧ sg 4 (4 * sFound sg d k + 2) = 1
theorem B_isPleaded (hM : OKM M h) (W : WD sg) {d k : Int} (hd : i32 d) (hk : i32 k) : m12_isPleaded M (iI d) (iI k) (mK M sg h) = some (iI (b2 (sPlead sg d k)), mK M sg h) := by
  have n3 := W.n3
  have := sFound_b W d k
  unfold m12_isPleaded m12_isPleaded_p29 m12_isPleaded_p30
  simp (config := { maxSteps := 1000000 }) (disch := first | assumption | exact W.i _ _ | exact sLine_i W _ _ _ | exact W1.i _ _ | exact hg _ _ | exact W3.i _ _ | (refine ⟨?_, ?_⟩ <;> omega) | omega) only [Int.reduceEq, Int.reduceLT, Int.reduceLE, Int.reduceNeg, Int.reduceAdd, Int.reduceSub, Int.reduceMul, if_true, if_false, not_true, not_false_eq_true, iI_on, iI_mul, iI_add, iI_sub, iI_neg, ap_if, mp_eq, mz_0, mz_1, mz_b, b2_0, b2_1, iI_lt, iI_le, iI_inj, mb_div, mb_rem, hM.m, hM.a1, hM.a2, hM.a3, hM.a4, hM.a5, hM.a6, hM.a7, hM.a8, hM.a9, hM.a10, hM.a11, hM.a12, hM.a13, hM.a14, hM.a15, hM.a16, hM.a17, hM.a18, hM.a19, hM.a20, hM.a21, hM.a22, hM.a23, hM.a24, hM.a25, hM.a26, hM.a27, hM.a28, hM.l1, hM.l2, hM.l3, hM.l4, hM.l5, hM.l6, hM.l7, hM.l8, hM.l9, hM.l10, hM.l11, hM.l12, hM.l13, hM.l14, hM.l15, hM.l16, hM.l17, hM.l18, hM.l19, hM.l20, hM.l21, hM.l22, hM.l23, hM.l24, hM.l25, hM.l26, hM.l27, hM.l28, hM.c10, hM.c11, hM.c12, hM.c13, hM.c14, hM.c15, hM.c19, hM.c20, hM.c23, hM.c27, hM.c36, hM.c37, hM.c38, hM.c40, hM.c41, hM.c42, hM.c44, mb_eq (B_foundOf hM W _ _)]
  split
  · rw [b2_f (by omega)]
  · simp (config := { maxSteps := 1000000 }) (disch := first | assumption | exact W.i _ _ | exact sLine_i W _ _ _ | exact W1.i _ _ | exact hg _ _ | exact W3.i _ _ | (refine ⟨?_, ?_⟩ <;> omega) | omega) only [Int.reduceEq, Int.reduceLT, Int.reduceLE, Int.reduceNeg, Int.reduceAdd, Int.reduceSub, Int.reduceMul, if_true, if_false, not_true, not_false_eq_true, iI_on, iI_mul, iI_add, iI_sub, iI_neg, ap_if, mp_eq, mz_0, mz_1, mz_b, b2_0, b2_1, iI_lt, iI_le, iI_inj, mb_div, mb_rem, hM.m, hM.a1, hM.a2, hM.a3, hM.a4, hM.a5, hM.a6, hM.a7, hM.a8, hM.a9, hM.a10, hM.a11, hM.a12, hM.a13, hM.a14, hM.a15, hM.a16, hM.a17, hM.a18, hM.a19, hM.a20, hM.a21, hM.a22, hM.a23, hM.a24, hM.a25, hM.a26, hM.a27, hM.a28, hM.l1, hM.l2, hM.l3, hM.l4, hM.l5, hM.l6, hM.l7, hM.l8, hM.l9, hM.l10, hM.l11, hM.l12, hM.l13, hM.l14, hM.l15, hM.l16, hM.l17, hM.l18, hM.l19, hM.l20, hM.l21, hM.l22, hM.l23, hM.l24, hM.l25, hM.l26, hM.l27, hM.l28, hM.c10, hM.c11, hM.c12, hM.c13, hM.c14, hM.c15, hM.c19, hM.c20, hM.c23, hM.c27, hM.c36, hM.c37, hM.c38, hM.c40, hM.c41, hM.c42, hM.c44]
    split
    · rw [b2_t (by omega)]
    · rw [b2_f (by omega)]
def sTerm (sg : Nat → Int → Int) (d k : Int) : Int := lst (fun t => sg 8 (7 * t) = d ∧ sStands sg t k) (sg 1 5).toNat
theorem B_termOf (hM : OKM M h) (W : WD sg) {d k : Int} (hd : i32 d) (hk : i32 k) : m12_termOf M (iI d) (iI k) (mK M sg h) = some (iI (sTerm sg d k), mK M sg h) := by
  have n5 := W.n5
  unfold m12_termOf sTerm lst
  simp (config := { maxSteps := 1000000 }) (disch := first | assumption | exact W.i _ _ | exact sLine_i W _ _ _ | exact W1.i _ _ | exact hg _ _ | exact W3.i _ _ | (refine ⟨?_, ?_⟩ <;> omega) | omega) only [Int.reduceEq, Int.reduceLT, Int.reduceLE, Int.reduceNeg, Int.reduceAdd, Int.reduceSub, Int.reduceMul, if_true, if_false, not_true, not_false_eq_true, iI_on, iI_mul, iI_add, iI_sub, iI_neg, ap_if, mp_eq, mz_0, mz_1, mz_b, b2_0, b2_1, iI_lt, iI_le, iI_inj, mb_div, mb_rem]
  refine (lop (F := fun n a i => m12_termOf_p5 n M (iI d) (iI k) (iI a) (iI i) (mK M sg h)) (K := fun a => some (iI a, mK M sg h)) (N := sg 1 5) (I := fun _ _ => True) (fun n a _ => ?_) (fun n a i _ h0 h1 => ⟨?_, trivial⟩) (sg 1 5).toNat FU (-1) 0 trivial (by omega) (by omega) (FU_lt (by omega))).1
  · show m12_termOf_p5 (n + 1) M (iI d) (iI k) (iI a) (iI (sg 1 5)) (mK M sg h) = some (iI a, mK M sg h)
    rw [m12_termOf_p5]
    simp (config := { maxSteps := 1000000 }) (disch := first | assumption | exact W.i _ _ | exact sLine_i W _ _ _ | exact W1.i _ _ | exact hg _ _ | exact W3.i _ _ | (refine ⟨?_, ?_⟩ <;> omega) | omega) only [Int.reduceEq, Int.reduceLT, Int.reduceLE, Int.reduceNeg, Int.reduceAdd, Int.reduceSub, Int.reduceMul, if_true, if_false, not_true, not_false_eq_true, iI_on, iI_mul, iI_add, iI_sub, iI_neg, ap_if, mp_eq, mz_0, mz_1, mz_b, b2_0, b2_1, iI_lt, iI_le, iI_inj, mb_div, mb_rem, hM.m, hM.a1, hM.a2, hM.a3, hM.a4, hM.a5, hM.a6, hM.a7, hM.a8, hM.a9, hM.a10, hM.a11, hM.a12, hM.a13, hM.a14, hM.a15, hM.a16, hM.a17, hM.a18, hM.a19, hM.a20, hM.a21, hM.a22, hM.a23, hM.a24, hM.a25, hM.a26, hM.a27, hM.a28, hM.l1, hM.l2, hM.l3, hM.l4, hM.l5, hM.l6, hM.l7, hM.l8, hM.l9, hM.l10, hM.l11, hM.l12, hM.l13, hM.l14, hM.l15, hM.l16, hM.l17, hM.l18, hM.l19, hM.l20, hM.l21, hM.l22, hM.l23, hM.l24, hM.l25, hM.l26, hM.l27, hM.l28, hM.c10, hM.c11, hM.c12, hM.c13, hM.c14, hM.c15, hM.c19, hM.c20, hM.c23, hM.c27, hM.c36, hM.c37, hM.c38, hM.c40, hM.c41, hM.c42, hM.c44]
    simp
  · show m12_termOf_p5 (n + 1) M (iI d) (iI k) (iI a) (iI i) (mK M sg h) = m12_termOf_p5 n M (iI d) (iI k) (iI (if sg 8 (7 * i) = d ∧ sStands sg i k then i else a)) (iI (i + 1)) (mK M sg h)
    rw [m12_termOf_p5]
    simp (config := { maxSteps := 1000000 }) (disch := first | assumption | exact W.i _ _ | exact sLine_i W _ _ _ | exact W1.i _ _ | exact hg _ _ | exact W3.i _ _ | (refine ⟨?_, ?_⟩ <;> omega) | omega) only [Int.reduceEq, Int.reduceLT, Int.reduceLE, Int.reduceNeg, Int.reduceAdd, Int.reduceSub, Int.reduceMul, if_true, if_false, not_true, not_false_eq_true, iI_on, iI_mul, iI_add, iI_sub, iI_neg, ap_if, mp_eq, mz_0, mz_1, mz_b, b2_0, b2_1, iI_lt, iI_le, iI_inj, mb_div, mb_rem, hM.m, hM.a1, hM.a2, hM.a3, hM.a4, hM.a5, hM.a6, hM.a7, hM.a8, hM.a9, hM.a10, hM.a11, hM.a12, hM.a13, hM.a14, hM.a15, hM.a16, hM.a17, hM.a18, hM.a19, hM.a20, hM.a21, hM.a22, hM.a23, hM.a24, hM.a25, hM.a26, hM.a27, hM.a28, hM.l1, hM.l2, hM.l3, hM.l4, hM.l5, hM.l6, hM.l7, hM.l8, hM.l9, hM.l10, hM.l11, hM.l12, hM.l13, hM.l14, hM.l15, hM.l16, hM.l17, hM.l18, hM.l19, hM.l20, hM.l21, hM.l22, hM.l23, hM.l24, hM.l25, hM.l26, hM.l27, hM.l28, hM.c10, hM.c11, hM.c12, hM.c13, hM.c14, hM.c15, hM.c19, hM.c20, hM.c23, hM.c27, hM.c36, hM.c37, hM.c38, hM.c40, hM.c41, hM.c42, hM.c44, mb_eq (B_of hM _ _), mb_eq (B_stands hM W _ _ _), m12_termOf_p42, m12_termOf_p43, Int.add_zero]
    (repeat' split) <;> first | rfl | omega
theorem sTerm_b (W : WD sg) (d k : Int) : -1 ≤ sTerm sg d k ∧ sTerm sg d k < sg 1 5 := by
  have := lst_le (fun t => sg 8 (7 * t) = d ∧ sStands sg t k) (sg 1 5).toNat
  have := W.n5
  unfold sTerm
  omega
abbrev sBack (sg : Nat → Int → Int) (v : Int) : Prop := 0 ≤ lst (fun l => sLine sg v l 0 = 7) (sg 5 (2 * v)).toNat
theorem fo_back (sg : Nat → Int → Int) (v : Int) : ∀ n : Nat, fo (fun a i => if a = 1 ∨ sLine sg v i 0 = 7 then 1 else 0) n 0 0 = b2 (0 ≤ lst (fun l => sLine sg v l 0 = 7) n)
  | 0 => rfl
  | n + 1 => by
    rw [fo_succ, fo_back sg v n, lst_s, Int.zero_add]
    unfold b2
    split <;> split <;> split <;> first | rfl | omega | simp_all
theorem B_looksBack (hM : OKM M h) (W : WD sg) {v : Int} (h0 : 0 ≤ v) (h1 : v < sg 1 4) : m12_looksBack M (iI v) (mK M sg h) = some (iI (b2 (sBack sg v)), mK M sg h) := by
  have n4 := W.n4
  have nv := W.ve v h0 h1
  unfold m12_looksBack sBack
  rw [← fo_back]
  simp (config := { maxSteps := 1000000 }) (disch := first | assumption | exact W.i _ _ | exact sLine_i W _ _ _ | exact W1.i _ _ | exact hg _ _ | exact W3.i _ _ | (refine ⟨?_, ?_⟩ <;> omega) | omega) only [Int.reduceEq, Int.reduceLT, Int.reduceLE, Int.reduceNeg, Int.reduceAdd, Int.reduceSub, Int.reduceMul, if_true, if_false, not_true, not_false_eq_true, iI_on, iI_mul, iI_add, iI_sub, iI_neg, ap_if, mp_eq, mz_0, mz_1, mz_b, b2_0, b2_1, iI_lt, iI_le, iI_inj, mb_div, mb_rem]
  refine (lop (F := fun n a i => m12_looksBack_p4 n M (iI v) (iI a) (iI i) (mK M sg h)) (K := fun a => some (iI a, mK M sg h)) (N := sg 5 (2 * v)) (I := fun a _ => a = 0 ∨ a = 1) (fun n a ha => ?_) (fun n a i ha h0 h1 => ⟨?_, ?_⟩) (sg 5 (2 * v)).toNat FU 0 0 (Or.inl rfl) (by omega) (by omega) (FU_lt (by omega))).1
  · show m12_looksBack_p4 (n + 1) M (iI v) (iI a) (iI (sg 5 (2 * v))) (mK M sg h) = some (iI a, mK M sg h)
    rw [m12_looksBack_p4]
    rcases ha with rfl | rfl <;> simp (config := { maxSteps := 1000000 }) (disch := first | assumption | exact W.i _ _ | exact sLine_i W _ _ _ | exact W1.i _ _ | exact hg _ _ | exact W3.i _ _ | (refine ⟨?_, ?_⟩ <;> omega) | omega) only [Int.reduceEq, Int.reduceLT, Int.reduceLE, Int.reduceNeg, Int.reduceAdd, Int.reduceSub, Int.reduceMul, if_true, if_false, not_true, not_false_eq_true, iI_on, iI_mul, iI_add, iI_sub, iI_neg, ap_if, mp_eq, mz_0, mz_1, mz_b, b2_0, b2_1, iI_lt, iI_le, iI_inj, mb_div, mb_rem, hM.m, hM.a1, hM.a2, hM.a3, hM.a4, hM.a5, hM.a6, hM.a7, hM.a8, hM.a9, hM.a10, hM.a11, hM.a12, hM.a13, hM.a14, hM.a15, hM.a16, hM.a17, hM.a18, hM.a19, hM.a20, hM.a21, hM.a22, hM.a23, hM.a24, hM.a25, hM.a26, hM.a27, hM.a28, hM.l1, hM.l2, hM.l3, hM.l4, hM.l5, hM.l6, hM.l7, hM.l8, hM.l9, hM.l10, hM.l11, hM.l12, hM.l13, hM.l14, hM.l15, hM.l16, hM.l17, hM.l18, hM.l19, hM.l20, hM.l21, hM.l22, hM.l23, hM.l24, hM.l25, hM.l26, hM.l27, hM.l28, hM.c10, hM.c11, hM.c12, hM.c13, hM.c14, hM.c15, hM.c19, hM.c20, hM.c23, hM.c27, hM.c36, hM.c37, hM.c38, hM.c40, hM.c41, hM.c42, hM.c44] <;> simp
  · show m12_looksBack_p4 (n + 1) M (iI v) (iI a) (iI i) (mK M sg h) = m12_looksBack_p4 n M (iI v) (iI (if a = 1 ∨ sLine sg v i 0 = 7 then 1 else 0)) (iI (i + 1)) (mK M sg h)
    rw [m12_looksBack_p4]
    simp (config := { maxSteps := 1000000 }) (disch := first | assumption | exact W.i _ _ | exact sLine_i W _ _ _ | exact W1.i _ _ | exact hg _ _ | exact W3.i _ _ | (refine ⟨?_, ?_⟩ <;> omega) | omega) only [Int.reduceEq, Int.reduceLT, Int.reduceLE, Int.reduceNeg, Int.reduceAdd, Int.reduceSub, Int.reduceMul, if_true, if_false, not_true, not_false_eq_true, iI_on, iI_mul, iI_add, iI_sub, iI_neg, ap_if, mp_eq, mz_0, mz_1, mz_b, b2_0, b2_1, iI_lt, iI_le, iI_inj, mb_div, mb_rem, hM.m, hM.a1, hM.a2, hM.a3, hM.a4, hM.a5, hM.a6, hM.a7, hM.a8, hM.a9, hM.a10, hM.a11, hM.a12, hM.a13, hM.a14, hM.a15, hM.a16, hM.a17, hM.a18, hM.a19, hM.a20, hM.a21, hM.a22, hM.a23, hM.a24, hM.a25, hM.a26, hM.a27, hM.a28, hM.l1, hM.l2, hM.l3, hM.l4, hM.l5, hM.l6, hM.l7, hM.l8, hM.l9, hM.l10, hM.l11, hM.l12, hM.l13, hM.l14, hM.l15, hM.l16, hM.l17, hM.l18, hM.l19, hM.l20, hM.l21, hM.l22, hM.l23, hM.l24, hM.l25, hM.l26, hM.l27, hM.l28, hM.c10, hM.c11, hM.c12, hM.c13, hM.c14, hM.c15, hM.c19, hM.c20, hM.c23, hM.c27, hM.c36, hM.c37, hM.c38, hM.c40, hM.c41, hM.c42, hM.c44, mb_eq (B_ofLine hM _ _), m12_looksBack_p32, m12_looksBack_p37]
    (repeat' split) <;> first | rfl | omega
  · split <;> simp
theorem lst_neg (P : Int → Prop) [DecidablePred P] (n : Nat) (c : Int) (h : c = -1) : lst P n = fo (fun a i => if P i then i else a) n c 0 := by
  subst h; rfl
/-- the last that is such, or another -/
def sLaw (sg : Nat → Int → Int) (d j : Int) : Int :=
  if 0 ≤ lst (fun v => (sg 3 (3 * d + 2) < sg 5 (2 * v + 1) ∧ sg 5 (2 * v + 1) ≤ j) ∧ sBack sg v) (sg 1 4).toNat then lst (fun v => (sg 3 (3 * d + 2) < sg 5 (2 * v + 1) ∧ sg 5 (2 * v + 1) ≤ j) ∧ sBack sg v) (sg 1 4).toNat
  else lst (fun v => sg 5 (2 * v + 1) ≤ sg 3 (3 * d + 2)) (sg 1 4).toNat
theorem sLaw_b (W : WD sg) (d j : Int) : -1 ≤ sLaw sg d j ∧ sLaw sg d j < sg 1 4 := by
  have h1 := lst_le (fun v => (sg 3 (3 * d + 2) < sg 5 (2 * v + 1) ∧ sg 5 (2 * v + 1) ≤ j) ∧ sBack sg v) (sg 1 4).toNat
  have h2 := lst_le (fun v => sg 5 (2 * v + 1) ≤ sg 3 (3 * d + 2)) (sg 1 4).toNat
  have := W.n4
  unfold sLaw
  split <;> omega
theorem fo_two (P Q : Int → Prop) [DecidablePred P] [DecidablePred Q] : ∀ (n : Nat) (a b i : Int), fo (fun (x : Int × Int) i => (if P i then i else x.1, if Q i then i else x.2)) n (a, b) i = (fo (fun a i => if P i then i else a) n a i, fo (fun a i => if Q i then i else a) n b i)
  | 0, _, _, _ => rfl
  | n + 1, a, b, i => by
    rw [fo, fo_two P Q n]; rfl
theorem B_lawOf (hM : OKM M h) (W : WD sg) {d j : Int} (h0 : 0 ≤ d) (h1 : d < sg 1 2) (hj : i32 j) : m12_lawOf M (iI d) (iI j) (mK M sg h) = some (iI (sLaw sg d j), mK M sg h) := by
  have n4 := W.n4
  have n2 := W.n2
  unfold m12_lawOf
  simp (config := { maxSteps := 1000000 }) (disch := first | assumption | exact W.i _ _ | exact sLine_i W _ _ _ | exact W1.i _ _ | exact hg _ _ | exact W3.i _ _ | (refine ⟨?_, ?_⟩ <;> omega) | omega) only [Int.reduceEq, Int.reduceLT, Int.reduceLE, Int.reduceNeg, Int.reduceAdd, Int.reduceSub, Int.reduceMul, if_true, if_false, not_true, not_false_eq_true, iI_on, iI_mul, iI_add, iI_sub, iI_neg, ap_if, mp_eq, mz_0, mz_1, mz_b, b2_0, b2_1, iI_lt, iI_le, iI_inj, mb_div, mb_rem]
  refine (lop (F := fun n (a : Int × Int) i => m12_lawOf_p8 n M (iI d) (iI j) (iI a.1) (iI a.2) (iI i) (mK M sg h)) (K := fun a => some (iI (if a.2 < 0 then a.1 else a.2), mK M sg h)) (N := sg 1 4) (st := fun x i => (if sg 5 (2 * i + 1) ≤ sg 3 (3 * d + 2) then i else x.1, if (sg 3 (3 * d + 2) < sg 5 (2 * i + 1) ∧ sg 5 (2 * i + 1) ≤ j) ∧ sBack sg i then i else x.2)) (I := fun a i => -1 ≤ a.2 ∧ a.2 < i) (fun n a ha => ?_) (fun n a i ha h0 h1 => ⟨?_, ?_⟩) (sg 1 4).toNat FU (-1, -1) 0 (by omega) (by omega) (by omega) (FU_lt (by omega))).1.trans ?_
  · show m12_lawOf_p8 (n + 1) M (iI d) (iI j) (iI a.1) (iI a.2) (iI (sg 1 4)) (mK M sg h) = some (iI (if a.2 < 0 then a.1 else a.2), mK M sg h)
    rw [m12_lawOf_p8]
    simp (config := { maxSteps := 1000000 }) (disch := first | assumption | exact W.i _ _ | exact sLine_i W _ _ _ | exact W1.i _ _ | exact hg _ _ | exact W3.i _ _ | (refine ⟨?_, ?_⟩ <;> omega) | omega) only [Int.reduceEq, Int.reduceLT, Int.reduceLE, Int.reduceNeg, Int.reduceAdd, Int.reduceSub, Int.reduceMul, if_true, if_false, not_true, not_false_eq_true, iI_on, iI_mul, iI_add, iI_sub, iI_neg, ap_if, mp_eq, mz_0, mz_1, mz_b, b2_0, b2_1, iI_lt, iI_le, iI_inj, mb_div, mb_rem, hM.m, hM.a1, hM.a2, hM.a3, hM.a4, hM.a5, hM.a6, hM.a7, hM.a8, hM.a9, hM.a10, hM.a11, hM.a12, hM.a13, hM.a14, hM.a15, hM.a16, hM.a17, hM.a18, hM.a19, hM.a20, hM.a21, hM.a22, hM.a23, hM.a24, hM.a25, hM.a26, hM.a27, hM.a28, hM.l1, hM.l2, hM.l3, hM.l4, hM.l5, hM.l6, hM.l7, hM.l8, hM.l9, hM.l10, hM.l11, hM.l12, hM.l13, hM.l14, hM.l15, hM.l16, hM.l17, hM.l18, hM.l19, hM.l20, hM.l21, hM.l22, hM.l23, hM.l24, hM.l25, hM.l26, hM.l27, hM.l28, hM.c10, hM.c11, hM.c12, hM.c13, hM.c14, hM.c15, hM.c19, hM.c20, hM.c23, hM.c27, hM.c36, hM.c37, hM.c38, hM.c40, hM.c41, hM.c42, hM.c44, m12_lawOf_p100]
    (repeat' split) <;> first | rfl | omega
  · show m12_lawOf_p8 (n + 1) M (iI d) (iI j) (iI a.1) (iI a.2) (iI i) (mK M sg h) = m12_lawOf_p8 n M (iI d) (iI j) (iI (if sg 5 (2 * i + 1) ≤ sg 3 (3 * d + 2) then i else a.1)) (iI (if (sg 3 (3 * d + 2) < sg 5 (2 * i + 1) ∧ sg 5 (2 * i + 1) ≤ j) ∧ sBack sg i then i else a.2)) (iI (i + 1)) (mK M sg h)
    rw [m12_lawOf_p8]
    simp (config := { maxSteps := 1000000 }) (disch := first | assumption | exact W.i _ _ | exact sLine_i W _ _ _ | exact W1.i _ _ | exact hg _ _ | exact W3.i _ _ | (refine ⟨?_, ?_⟩ <;> omega) | omega) only [Int.reduceEq, Int.reduceLT, Int.reduceLE, Int.reduceNeg, Int.reduceAdd, Int.reduceSub, Int.reduceMul, if_true, if_false, not_true, not_false_eq_true, iI_on, iI_mul, iI_add, iI_sub, iI_neg, ap_if, mp_eq, mz_0, mz_1, mz_b, b2_0, b2_1, iI_lt, iI_le, iI_inj, mb_div, mb_rem, hM.m, hM.a1, hM.a2, hM.a3, hM.a4, hM.a5, hM.a6, hM.a7, hM.a8, hM.a9, hM.a10, hM.a11, hM.a12, hM.a13, hM.a14, hM.a15, hM.a16, hM.a17, hM.a18, hM.a19, hM.a20, hM.a21, hM.a22, hM.a23, hM.a24, hM.a25, hM.a26, hM.a27, hM.a28, hM.l1, hM.l2, hM.l3, hM.l4, hM.l5, hM.l6, hM.l7, hM.l8, hM.l9, hM.l10, hM.l11, hM.l12, hM.l13, hM.l14, hM.l15, hM.l16, hM.l17, hM.l18, hM.l19, hM.l20, hM.l21, hM.l22, hM.l23, hM.l24, hM.l25, hM.l26, hM.l27, hM.l28, hM.c10, hM.c11, hM.c12, hM.c13, hM.c14, hM.c15, hM.c19, hM.c20, hM.c23, hM.c27, hM.c36, hM.c37, hM.c38, hM.c40, hM.c41, hM.c42, hM.c44, mb_eq (B_dayOf hM _ _), m12_lawOf_p48, m12_lawOf_p79, m12_lawOf_p81, mb_eq (B_looksBack hM W _ _)]
    by_cases hb : sBack sg i
    · simp only [hb, not_true, if_false, and_true]
      (repeat' split) <;> first | rfl | omega
    · simp only [hb, not_false_eq_true, if_true, and_false, if_false]
      (repeat' split) <;> first | rfl | omega
  · show -1 ≤ (if _ then _ else _ : Int) ∧ (if _ then _ else _ : Int) < _
    split <;> omega
  · rw [fo_two]
    unfold sLaw lst
    dsimp only
    split <;> split <;> first | rfl | omega
def sTold (sg : Nat → Int → Int) (v s k : Int) : Int := fo (fun a l => if sLine sg v l 0 = s ∧ sLine sg v l 1 = k then sLine sg v l 2 else a) (sg 5 (2 * v)).toNat 0 0
theorem B_toldOf (hM : OKM M h) (W : WD sg) {v s k : Int} (h0 : 0 ≤ v) (h1 : v < sg 1 4) (hs : i32 s) (hk : i32 k) : m12_toldOf M (iI v) (iI s) (iI k) (mK M sg h) = some (iI (sTold sg v s k), mK M sg h) := by
  have n4 := W.n4
  have nv := W.ve v h0 h1
  unfold m12_toldOf sTold
  simp (config := { maxSteps := 1000000 }) (disch := first | assumption | exact W.i _ _ | exact sLine_i W _ _ _ | exact W1.i _ _ | exact hg _ _ | exact W3.i _ _ | (refine ⟨?_, ?_⟩ <;> omega) | omega) only [Int.reduceEq, Int.reduceLT, Int.reduceLE, Int.reduceNeg, Int.reduceAdd, Int.reduceSub, Int.reduceMul, if_true, if_false, not_true, not_false_eq_true, iI_on, iI_mul, iI_add, iI_sub, iI_neg, ap_if, mp_eq, mz_0, mz_1, mz_b, b2_0, b2_1, iI_lt, iI_le, iI_inj, mb_div, mb_rem]
  refine (lop (F := fun n a i => m12_toldOf_p6 n M (iI v) (iI s) (iI k) (iI a) (iI i) (mK M sg h)) (K := fun a => some (iI a, mK M sg h)) (N := sg 5 (2 * v)) (I := fun a _ => True) (fun n a _ => ?_) (fun n a i _ h0 h1 => ⟨?_, trivial⟩) (sg 5 (2 * v)).toNat FU 0 0 trivial (by omega) (by omega) (FU_lt (by omega))).1
  · show m12_toldOf_p6 (n + 1) M (iI v) (iI s) (iI k) (iI a) (iI (sg 5 (2 * v))) (mK M sg h) = some (iI a, mK M sg h)
    rw [m12_toldOf_p6]
    simp (config := { maxSteps := 1000000 }) (disch := first | assumption | exact W.i _ _ | exact sLine_i W _ _ _ | exact W1.i _ _ | exact hg _ _ | exact W3.i _ _ | (refine ⟨?_, ?_⟩ <;> omega) | omega) only [Int.reduceEq, Int.reduceLT, Int.reduceLE, Int.reduceNeg, Int.reduceAdd, Int.reduceSub, Int.reduceMul, if_true, if_false, not_true, not_false_eq_true, iI_on, iI_mul, iI_add, iI_sub, iI_neg, ap_if, mp_eq, mz_0, mz_1, mz_b, b2_0, b2_1, iI_lt, iI_le, iI_inj, mb_div, mb_rem, hM.m, hM.a1, hM.a2, hM.a3, hM.a4, hM.a5, hM.a6, hM.a7, hM.a8, hM.a9, hM.a10, hM.a11, hM.a12, hM.a13, hM.a14, hM.a15, hM.a16, hM.a17, hM.a18, hM.a19, hM.a20, hM.a21, hM.a22, hM.a23, hM.a24, hM.a25, hM.a26, hM.a27, hM.a28, hM.l1, hM.l2, hM.l3, hM.l4, hM.l5, hM.l6, hM.l7, hM.l8, hM.l9, hM.l10, hM.l11, hM.l12, hM.l13, hM.l14, hM.l15, hM.l16, hM.l17, hM.l18, hM.l19, hM.l20, hM.l21, hM.l22, hM.l23, hM.l24, hM.l25, hM.l26, hM.l27, hM.l28, hM.c10, hM.c11, hM.c12, hM.c13, hM.c14, hM.c15, hM.c19, hM.c20, hM.c23, hM.c27, hM.c36, hM.c37, hM.c38, hM.c40, hM.c41, hM.c42, hM.c44]
    simp
  · show m12_toldOf_p6 (n + 1) M (iI v) (iI s) (iI k) (iI a) (iI i) (mK M sg h) = m12_toldOf_p6 n M (iI v) (iI s) (iI k) (iI (if sLine sg v i 0 = s ∧ sLine sg v i 1 = k then sLine sg v i 2 else a)) (iI (i + 1)) (mK M sg h)
    rw [m12_toldOf_p6]
    simp (config := { maxSteps := 1000000 }) (disch := first | assumption | exact W.i _ _ | exact sLine_i W _ _ _ | exact W1.i _ _ | exact hg _ _ | exact W3.i _ _ | (refine ⟨?_, ?_⟩ <;> omega) | omega) only [Int.reduceEq, Int.reduceLT, Int.reduceLE, Int.reduceNeg, Int.reduceAdd, Int.reduceSub, Int.reduceMul, if_true, if_false, not_true, not_false_eq_true, iI_on, iI_mul, iI_add, iI_sub, iI_neg, ap_if, mp_eq, mz_0, mz_1, mz_b, b2_0, b2_1, iI_lt, iI_le, iI_inj, mb_div, mb_rem, hM.m, hM.a1, hM.a2, hM.a3, hM.a4, hM.a5, hM.a6, hM.a7, hM.a8, hM.a9, hM.a10, hM.a11, hM.a12, hM.a13, hM.a14, hM.a15, hM.a16, hM.a17, hM.a18, hM.a19, hM.a20, hM.a21, hM.a22, hM.a23, hM.a24, hM.a25, hM.a26, hM.a27, hM.a28, hM.l1, hM.l2, hM.l3, hM.l4, hM.l5, hM.l6, hM.l7, hM.l8, hM.l9, hM.l10, hM.l11, hM.l12, hM.l13, hM.l14, hM.l15, hM.l16, hM.l17, hM.l18, hM.l19, hM.l20, hM.l21, hM.l22, hM.l23, hM.l24, hM.l25, hM.l26, hM.l27, hM.l28, hM.c10, hM.c11, hM.c12, hM.c13, hM.c14, hM.c15, hM.c19, hM.c20, hM.c23, hM.c27, hM.c36, hM.c37, hM.c38, hM.c40, hM.c41, hM.c42, hM.c44, mb_eq (B_ofLine hM _ _), m12_toldOf_p54, m12_toldOf_p56]
    (repeat' split) <;> first | rfl | omega
def sOld (sg : Nat → Int → Int) (v : Int) : Int := fo (fun a l => if sLine sg v l 0 = 2 then sLine sg v l 1 else a) (sg 5 (2 * v)).toNat 90 0
theorem B_oldOf (hM : OKM M h) (W : WD sg) {v : Int} (h0 : 0 ≤ v) (h1 : v < sg 1 4) : m12_oldOf M (iI v) (mK M sg h) = some (iI (sOld sg v), mK M sg h) := by
  have n4 := W.n4
  have nv := W.ve v h0 h1
  unfold m12_oldOf sOld
  simp (config := { maxSteps := 1000000 }) (disch := first | assumption | exact W.i _ _ | exact sLine_i W _ _ _ | exact W1.i _ _ | exact hg _ _ | exact W3.i _ _ | (refine ⟨?_, ?_⟩ <;> omega) | omega) only [Int.reduceEq, Int.reduceLT, Int.reduceLE, Int.reduceNeg, Int.reduceAdd, Int.reduceSub, Int.reduceMul, if_true, if_false, not_true, not_false_eq_true, iI_on, iI_mul, iI_add, iI_sub, iI_neg, ap_if, mp_eq, mz_0, mz_1, mz_b, b2_0, b2_1, iI_lt, iI_le, iI_inj, mb_div, mb_rem]
  refine (lop (F := fun n a i => m12_oldOf_p5 n M (iI v) (iI a) (iI i) (mK M sg h)) (K := fun a => some (iI a, mK M sg h)) (N := sg 5 (2 * v)) (I := fun a _ => True) (fun n a _ => ?_) (fun n a i _ h0 h1 => ⟨?_, trivial⟩) (sg 5 (2 * v)).toNat FU 90 0 trivial (by omega) (by omega) (FU_lt (by omega))).1
  · show m12_oldOf_p5 (n + 1) M (iI v) (iI a) (iI (sg 5 (2 * v))) (mK M sg h) = some (iI a, mK M sg h)
    rw [m12_oldOf_p5]
    simp (config := { maxSteps := 1000000 }) (disch := first | assumption | exact W.i _ _ | exact sLine_i W _ _ _ | exact W1.i _ _ | exact hg _ _ | exact W3.i _ _ | (refine ⟨?_, ?_⟩ <;> omega) | omega) only [Int.reduceEq, Int.reduceLT, Int.reduceLE, Int.reduceNeg, Int.reduceAdd, Int.reduceSub, Int.reduceMul, if_true, if_false, not_true, not_false_eq_true, iI_on, iI_mul, iI_add, iI_sub, iI_neg, ap_if, mp_eq, mz_0, mz_1, mz_b, b2_0, b2_1, iI_lt, iI_le, iI_inj, mb_div, mb_rem, hM.m, hM.a1, hM.a2, hM.a3, hM.a4, hM.a5, hM.a6, hM.a7, hM.a8, hM.a9, hM.a10, hM.a11, hM.a12, hM.a13, hM.a14, hM.a15, hM.a16, hM.a17, hM.a18, hM.a19, hM.a20, hM.a21, hM.a22, hM.a23, hM.a24, hM.a25, hM.a26, hM.a27, hM.a28, hM.l1, hM.l2, hM.l3, hM.l4, hM.l5, hM.l6, hM.l7, hM.l8, hM.l9, hM.l10, hM.l11, hM.l12, hM.l13, hM.l14, hM.l15, hM.l16, hM.l17, hM.l18, hM.l19, hM.l20, hM.l21, hM.l22, hM.l23, hM.l24, hM.l25, hM.l26, hM.l27, hM.l28, hM.c10, hM.c11, hM.c12, hM.c13, hM.c14, hM.c15, hM.c19, hM.c20, hM.c23, hM.c27, hM.c36, hM.c37, hM.c38, hM.c40, hM.c41, hM.c42, hM.c44]
    simp
  · show m12_oldOf_p5 (n + 1) M (iI v) (iI a) (iI i) (mK M sg h) = m12_oldOf_p5 n M (iI v) (iI (if sLine sg v i 0 = 2 then sLine sg v i 1 else a)) (iI (i + 1)) (mK M sg h)
    rw [m12_oldOf_p5]
    simp (config := { maxSteps := 1000000 }) (disch := first | assumption | exact W.i _ _ | exact sLine_i W _ _ _ | exact W1.i _ _ | exact hg _ _ | exact W3.i _ _ | (refine ⟨?_, ?_⟩ <;> omega) | omega) only [Int.reduceEq, Int.reduceLT, Int.reduceLE, Int.reduceNeg, Int.reduceAdd, Int.reduceSub, Int.reduceMul, if_true, if_false, not_true, not_false_eq_true, iI_on, iI_mul, iI_add, iI_sub, iI_neg, ap_if, mp_eq, mz_0, mz_1, mz_b, b2_0, b2_1, iI_lt, iI_le, iI_inj, mb_div, mb_rem, hM.m, hM.a1, hM.a2, hM.a3, hM.a4, hM.a5, hM.a6, hM.a7, hM.a8, hM.a9, hM.a10, hM.a11, hM.a12, hM.a13, hM.a14, hM.a15, hM.a16, hM.a17, hM.a18, hM.a19, hM.a20, hM.a21, hM.a22, hM.a23, hM.a24, hM.a25, hM.a26, hM.a27, hM.a28, hM.l1, hM.l2, hM.l3, hM.l4, hM.l5, hM.l6, hM.l7, hM.l8, hM.l9, hM.l10, hM.l11, hM.l12, hM.l13, hM.l14, hM.l15, hM.l16, hM.l17, hM.l18, hM.l19, hM.l20, hM.l21, hM.l22, hM.l23, hM.l24, hM.l25, hM.l26, hM.l27, hM.l28, hM.c10, hM.c11, hM.c12, hM.c13, hM.c14, hM.c15, hM.c19, hM.c20, hM.c23, hM.c27, hM.c36, hM.c37, hM.c38, hM.c40, hM.c41, hM.c42, hM.c44, mb_eq (B_ofLine hM _ _), m12_oldOf_p39]
    (repeat' split) <;> first | rfl | omega
end RD2

/-! ===== spread: the reference counts ways ===== -/
section WAYS
variable {M : Nat} {sg : Nat → Int → Int} {h : gH}
/-- drawn, and it stands -/
abbrev drw (sg : Nat → Int → Int) (t k : Int) : Prop := sg 8 (7 * t + 4) = 1 ∧ sStands sg t k
def drE (sg : Nat → Int → Int) (k t : Int) : Int := if drw sg t k then sg 8 (7 * t + 2) else -1
theorem drE_b (W : WD sg) {k t : Int} (h0 : 0 ≤ t) (h1 : t < sg 1 5) : -1 ≤ drE sg k t ∧ drE sg k t ≤ 240 := by
  have nt := W.te t h0 h1
  unfold drE
  split <;> omega
theorem B_isDrawn (hM : OKM M h) (W : WD sg) {t k : Int} (h0 : 0 ≤ t) (h1 : t < 16) (hk : i32 k) : m12_isDrawn M (iI t) (iI k) (mK M sg h) = some (iI (b2 (drw sg t k)), mK M sg h) := by
  have i32t : i32 t := ⟨by omega, by omega⟩
  unfold m12_isDrawn m12_isDrawn_p23 m12_isDrawn_p24
  by_cases c : sg 8 (7 * t + 4) = 1
  · by_cases c2 : sStands sg t k
    · rw [b2_t ⟨c, c2⟩]
      simp (config := { maxSteps := 1000000 }) (disch := first | assumption | exact W.i _ _ | exact sLine_i W _ _ _ | exact W1.i _ _ | exact hg _ _ | exact W3.i _ _ | (refine ⟨?_, ?_⟩ <;> omega) | omega | (simp only [sW_1, sW_2, sW_3, sW_4, sW_5, sW_8] <;> first | assumption | omega | (refine ⟨?_, ?_⟩ <;> omega)) | (simp only [sT_1, sT_2, sT_3, sT_4, sT_5, sT_8] <;> first | assumption | omega | (refine ⟨?_, ?_⟩ <;> omega)) | (simp only [List.length_append, List.length_cons, List.length_nil, Nat.reduceAdd] <;> omega)) only [Int.reduceEq, Int.reduceLT, Int.reduceLE, Int.reduceNeg, Int.reduceAdd, Int.reduceSub, Int.reduceMul, if_true, if_false, not_true, not_false_eq_true, false_or, or_false, true_or, or_true, true_and, and_true, false_and, and_false, iI_on, iI_mul, iI_add, iI_sub, iI_neg, ap_if, mp_eq, mz_0, mz_1, mz_b, b2_0, b2_1, iI_lt, iI_le, iI_inj, mb_div, mb_rem, hM.m, hM.a1, hM.a2, hM.a3, hM.a4, hM.a5, hM.a6, hM.a7, hM.a8, hM.a9, hM.a10, hM.a11, hM.a12, hM.a13, hM.a14, hM.a15, hM.a16, hM.a17, hM.a18, hM.a19, hM.a20, hM.a21, hM.a22, hM.a23, hM.a24, hM.a25, hM.a26, hM.a27, hM.a28, hM.l1, hM.l2, hM.l3, hM.l4, hM.l5, hM.l6, hM.l7, hM.l8, hM.l9, hM.l10, hM.l11, hM.l12, hM.l13, hM.l14, hM.l15, hM.l16, hM.l17, hM.l18, hM.l19, hM.l20, hM.l21, hM.l22, hM.l23, hM.l24, hM.l25, hM.l26, hM.l27, hM.l28, hM.c10, hM.c11, hM.c12, hM.c13, hM.c14, hM.c15, hM.c19, hM.c20, hM.c23, hM.c27, hM.c36, hM.c37, hM.c38, hM.c40, hM.c41, hM.c42, hM.c44, mb_eq (B_of hM _ _), mb_eq (B_stands hM W _ _ _), c, b2_t c2]
    · rw [b2_f (fun z => c2 z.2)]
      simp (config := { maxSteps := 1000000 }) (disch := first | assumption | exact W.i _ _ | exact sLine_i W _ _ _ | exact W1.i _ _ | exact hg _ _ | exact W3.i _ _ | (refine ⟨?_, ?_⟩ <;> omega) | omega | (simp only [sW_1, sW_2, sW_3, sW_4, sW_5, sW_8] <;> first | assumption | omega | (refine ⟨?_, ?_⟩ <;> omega)) | (simp only [sT_1, sT_2, sT_3, sT_4, sT_5, sT_8] <;> first | assumption | omega | (refine ⟨?_, ?_⟩ <;> omega)) | (simp only [List.length_append, List.length_cons, List.length_nil, Nat.reduceAdd] <;> omega)) only [Int.reduceEq, Int.reduceLT, Int.reduceLE, Int.reduceNeg, Int.reduceAdd, Int.reduceSub, Int.reduceMul, if_true, if_false, not_true, not_false_eq_true, false_or, or_false, true_or, or_true, true_and, and_true, false_and, and_false, iI_on, iI_mul, iI_add, iI_sub, iI_neg, ap_if, mp_eq, mz_0, mz_1, mz_b, b2_0, b2_1, iI_lt, iI_le, iI_inj, mb_div, mb_rem, hM.m, hM.a1, hM.a2, hM.a3, hM.a4, hM.a5, hM.a6, hM.a7, hM.a8, hM.a9, hM.a10, hM.a11, hM.a12, hM.a13, hM.a14, hM.a15, hM.a16, hM.a17, hM.a18, hM.a19, hM.a20, hM.a21, hM.a22, hM.a23, hM.a24, hM.a25, hM.a26, hM.a27, hM.a28, hM.l1, hM.l2, hM.l3, hM.l4, hM.l5, hM.l6, hM.l7, hM.l8, hM.l9, hM.l10, hM.l11, hM.l12, hM.l13, hM.l14, hM.l15, hM.l16, hM.l17, hM.l18, hM.l19, hM.l20, hM.l21, hM.l22, hM.l23, hM.l24, hM.l25, hM.l26, hM.l27, hM.l28, hM.c10, hM.c11, hM.c12, hM.c13, hM.c14, hM.c15, hM.c19, hM.c20, hM.c23, hM.c27, hM.c36, hM.c37, hM.c38, hM.c40, hM.c41, hM.c42, hM.c44, mb_eq (B_of hM _ _), mb_eq (B_stands hM W _ _ _), c, b2_f c2]
  · rw [b2_f (fun z => c z.1)]
    simp (config := { maxSteps := 1000000 }) (disch := first | assumption | exact W.i _ _ | exact sLine_i W _ _ _ | exact W1.i _ _ | exact hg _ _ | exact W3.i _ _ | (refine ⟨?_, ?_⟩ <;> omega) | omega | (simp only [sW_1, sW_2, sW_3, sW_4, sW_5, sW_8] <;> first | assumption | omega | (refine ⟨?_, ?_⟩ <;> omega)) | (simp only [sT_1, sT_2, sT_3, sT_4, sT_5, sT_8] <;> first | assumption | omega | (refine ⟨?_, ?_⟩ <;> omega)) | (simp only [List.length_append, List.length_cons, List.length_nil, Nat.reduceAdd] <;> omega)) only [Int.reduceEq, Int.reduceLT, Int.reduceLE, Int.reduceNeg, Int.reduceAdd, Int.reduceSub, Int.reduceMul, if_true, if_false, not_true, not_false_eq_true, false_or, or_false, true_or, or_true, true_and, and_true, false_and, and_false, iI_on, iI_mul, iI_add, iI_sub, iI_neg, ap_if, mp_eq, mz_0, mz_1, mz_b, b2_0, b2_1, iI_lt, iI_le, iI_inj, mb_div, mb_rem, hM.m, hM.a1, hM.a2, hM.a3, hM.a4, hM.a5, hM.a6, hM.a7, hM.a8, hM.a9, hM.a10, hM.a11, hM.a12, hM.a13, hM.a14, hM.a15, hM.a16, hM.a17, hM.a18, hM.a19, hM.a20, hM.a21, hM.a22, hM.a23, hM.a24, hM.a25, hM.a26, hM.a27, hM.a28, hM.l1, hM.l2, hM.l3, hM.l4, hM.l5, hM.l6, hM.l7, hM.l8, hM.l9, hM.l10, hM.l11, hM.l12, hM.l13, hM.l14, hM.l15, hM.l16, hM.l17, hM.l18, hM.l19, hM.l20, hM.l21, hM.l22, hM.l23, hM.l24, hM.l25, hM.l26, hM.l27, hM.l28, hM.c10, hM.c11, hM.c12, hM.c13, hM.c14, hM.c15, hM.c19, hM.c20, hM.c23, hM.c27, hM.c36, hM.c37, hM.c38, hM.c40, hM.c41, hM.c42, hM.c44, mb_eq (B_of hM _ _), c]
/-- the row of ways is g -/
def s20 (sg : Nat → Int → Int) (g : Int → Int) : Nat → Int → Int := fun k => if k = 20 then g else sg k
theorem s20_o {g : Int → Int} {q : Nat} (hq : q ≠ 20) : s20 sg g q = sg q := by unfold s20; rw [if_neg hq]
theorem s20_at {g : Int → Int} : s20 sg g 20 = g := by unfold s20; rw [if_pos rfl]
theorem s20_s {g : Int → Int} {j v : Int} : s3 (s20 sg g) 20 j v = s20 sg (fun j' => if j' = j then v else g j') := by
  funext q j'
  unfold s3 s20
  by_cases c : q = 20
  · subst c
    simp
  · simp [c]
theorem s20_g {g g' : Int → Int} (e : ∀ j, g j = g' j) : s20 sg g = s20 sg g' := by rw [funext e]
theorem s20_w (W : WD sg) {g : Int → Int} (hg : ∀ j, i32 (g j)) : WD (s20 sg g) := W.c9 (fun q q0 q1 => s20_o (by omega)) (fun q j => by
  unfold s20
  split
  · exact hg j
  · exact W.i q j)
theorem L_clear (hM : OKM M h) {v1 v2 v3 : Int32} : ∀ (m fu : Nat) (i : Int) (g : Int → Int), 0 ≤ i → i + m = 65280 → m < fu → m12_waysOf_p3 fu M v1 v2 v3 (iI i) (mK M (s20 sg g) h) = m12_waysOf_p34 FU M v1 v2 v3 (iI 0) (mK M (s20 sg (fun j => if j = 0 then 1 else if i ≤ j ∧ j < 65280 then 0 else g j)) h)
  | 0, fu + 1, i, g, h0, h1, h2 => by
    have c : 65280 ≤ i := by omega
    have e : s20 sg (fun j => if j = 0 then 1 else if i ≤ j ∧ j < 65280 then 0 else g j) = s3 (s20 sg g) 20 0 1 := by
      rw [s20_s]
      refine s20_g (fun j => ?_)
      rw [if_neg (show ¬ (i ≤ j ∧ j < 65280) by omega)]
    rw [m12_waysOf_p3, e]
    simp (config := { maxSteps := 1000000 }) (disch := first | assumption | exact W.i _ _ | exact sLine_i W _ _ _ | exact W1.i _ _ | exact hg _ _ | exact W3.i _ _ | (refine ⟨?_, ?_⟩ <;> omega) | omega | (simp only [sW_1, sW_2, sW_3, sW_4, sW_5, sW_8] <;> first | assumption | omega | (refine ⟨?_, ?_⟩ <;> omega)) | (simp only [sT_1, sT_2, sT_3, sT_4, sT_5, sT_8] <;> first | assumption | omega | (refine ⟨?_, ?_⟩ <;> omega)) | (simp only [List.length_append, List.length_cons, List.length_nil, Nat.reduceAdd] <;> omega)) only [Int.reduceEq, Int.reduceLT, Int.reduceLE, Int.reduceNeg, Int.reduceAdd, Int.reduceSub, Int.reduceMul, if_true, if_false, not_true, not_false_eq_true, false_or, or_false, true_or, or_true, true_and, and_true, false_and, and_false, iI_on, iI_mul, iI_add, iI_sub, iI_neg, ap_if, mp_eq, mz_0, mz_1, mz_b, b2_0, b2_1, iI_lt, iI_le, iI_inj, mb_div, mb_rem, hM.m, hM.a1, hM.a2, hM.a3, hM.a4, hM.a5, hM.a6, hM.a7, hM.a8, hM.a9, hM.a10, hM.a11, hM.a12, hM.a13, hM.a14, hM.a15, hM.a16, hM.a17, hM.a18, hM.a19, hM.a20, hM.a21, hM.a22, hM.a23, hM.a24, hM.a25, hM.a26, hM.a27, hM.a28, hM.l1, hM.l2, hM.l3, hM.l4, hM.l5, hM.l6, hM.l7, hM.l8, hM.l9, hM.l10, hM.l11, hM.l12, hM.l13, hM.l14, hM.l15, hM.l16, hM.l17, hM.l18, hM.l19, hM.l20, hM.l21, hM.l22, hM.l23, hM.l24, hM.l25, hM.l26, hM.l27, hM.l28, hM.c10, hM.c11, hM.c12, hM.c13, hM.c14, hM.c15, hM.c19, hM.c20, hM.c23, hM.c27, hM.c36, hM.c37, hM.c38, hM.c40, hM.c41, hM.c42, hM.c44, hM.w1, hM.w2, hM.w3, hM.w4, hM.w5, hM.w6, hM.w7, hM.w8, hM.w9, hM.w10, hM.w11, hM.w12, hM.w13, hM.w14, hM.w15, hM.w16, hM.w17, hM.w18, hM.w19, hM.w20, hM.w21, hM.w22, hM.w23, hM.w24, hM.w25, hM.w26, hM.w27, hM.w28, hM.p10, hM.p11, hM.p12, hM.p13, hM.p14, hM.p15, hM.p19, hM.p20, hM.p23, hM.p27, hM.p36, hM.p37, hM.p38, hM.p40, hM.p41, hM.p42, hM.p44, s3_at, s3_nk, s3_nj, c]
  | m + 1, fu + 1, i, g, h0, h1, h2 => by
    have c : ¬ 65280 ≤ i := by omega
    have c2 : i < 65280 := by omega
    have ih := L_clear hM (v1 := v1) (v2 := v2) (v3 := v3) m fu (i + 1) (fun j' => if j' = i then 0 else g j') (by omega) (by omega) (by omega)
    have e : s20 sg (fun j => if j = 0 then 1 else if i ≤ j ∧ j < 65280 then 0 else g j) = s20 sg (fun j => if j = 0 then 1 else if i + 1 ≤ j ∧ j < 65280 then 0 else if j = i then 0 else g j) := by
      refine s20_g (fun j => ?_)
      by_cases q0 : j = 0
      · rw [if_pos q0, if_pos q0]
      · rw [if_neg q0, if_neg q0]
        by_cases q1 : j = i
        · rw [if_pos ⟨by omega, by omega⟩, if_neg (show ¬ (i + 1 ≤ j ∧ j < 65280) by omega), if_pos q1]
        · by_cases q2 : i + 1 ≤ j ∧ j < 65280
          · rw [if_pos ⟨by omega, by omega⟩, if_pos q2]
          · rw [if_neg (show ¬ (i ≤ j ∧ j < 65280) by omega), if_neg q2, if_neg q1]
    rw [e, ← ih, ← s20_s, m12_waysOf_p3]
    simp (config := { maxSteps := 1000000 }) (disch := first | assumption | exact W.i _ _ | exact sLine_i W _ _ _ | exact W1.i _ _ | exact hg _ _ | exact W3.i _ _ | (refine ⟨?_, ?_⟩ <;> omega) | omega | (simp only [sW_1, sW_2, sW_3, sW_4, sW_5, sW_8] <;> first | assumption | omega | (refine ⟨?_, ?_⟩ <;> omega)) | (simp only [sT_1, sT_2, sT_3, sT_4, sT_5, sT_8] <;> first | assumption | omega | (refine ⟨?_, ?_⟩ <;> omega)) | (simp only [List.length_append, List.length_cons, List.length_nil, Nat.reduceAdd] <;> omega)) only [Int.reduceEq, Int.reduceLT, Int.reduceLE, Int.reduceNeg, Int.reduceAdd, Int.reduceSub, Int.reduceMul, if_true, if_false, not_true, not_false_eq_true, false_or, or_false, true_or, or_true, true_and, and_true, false_and, and_false, iI_on, iI_mul, iI_add, iI_sub, iI_neg, ap_if, mp_eq, mz_0, mz_1, mz_b, b2_0, b2_1, iI_lt, iI_le, iI_inj, mb_div, mb_rem, hM.m, hM.a1, hM.a2, hM.a3, hM.a4, hM.a5, hM.a6, hM.a7, hM.a8, hM.a9, hM.a10, hM.a11, hM.a12, hM.a13, hM.a14, hM.a15, hM.a16, hM.a17, hM.a18, hM.a19, hM.a20, hM.a21, hM.a22, hM.a23, hM.a24, hM.a25, hM.a26, hM.a27, hM.a28, hM.l1, hM.l2, hM.l3, hM.l4, hM.l5, hM.l6, hM.l7, hM.l8, hM.l9, hM.l10, hM.l11, hM.l12, hM.l13, hM.l14, hM.l15, hM.l16, hM.l17, hM.l18, hM.l19, hM.l20, hM.l21, hM.l22, hM.l23, hM.l24, hM.l25, hM.l26, hM.l27, hM.l28, hM.c10, hM.c11, hM.c12, hM.c13, hM.c14, hM.c15, hM.c19, hM.c20, hM.c23, hM.c27, hM.c36, hM.c37, hM.c38, hM.c40, hM.c41, hM.c42, hM.c44, hM.w1, hM.w2, hM.w3, hM.w4, hM.w5, hM.w6, hM.w7, hM.w8, hM.w9, hM.w10, hM.w11, hM.w12, hM.w13, hM.w14, hM.w15, hM.w16, hM.w17, hM.w18, hM.w19, hM.w20, hM.w21, hM.w22, hM.w23, hM.w24, hM.w25, hM.w26, hM.w27, hM.w28, hM.p10, hM.p11, hM.p12, hM.p13, hM.p14, hM.p15, hM.p19, hM.p20, hM.p23, hM.p27, hM.p36, hM.p37, hM.p38, hM.p40, hM.p41, hM.p42, hM.p44, s3_at, s3_nk, s3_nj, c]
theorem L_inner (hM : OKM M h) {v1 v2 v3 v4 : Int32} {mo c : Int} (m0 : 0 ≤ mo) (m1 : mo ≤ 240) (c0 : 1 ≤ c) (c1 : c ≤ 14) {K : Nat → Int32 → Int32 → Int32 → Int32 → Int32 → Int32 → gM Int32} : ∀ (q fu : Nat) (s : Int) (g : Int → Int), s + 1 = mo + q → s ≤ 3839 → q < fu →
    m12_waysOf_p86 K fu M v1 v2 v3 v4 (iI mo) (iI c) (iI s) (mK M (s20 sg g) h) = K M v1 v2 v3 v4 (iI mo) (iI (c + -1)) (mK M (s20 sg (fun j => if 3840 * c + mo ≤ j ∧ j ≤ 3840 * c + s then g j + g (j - 3840 - mo) else g j)) h)
  | 0, fu + 1, s, g, h0, h1, h2 => by
    have q : s < mo := by omega
    have e : s20 sg (fun j => if 3840 * c + mo ≤ j ∧ j ≤ 3840 * c + s then g j + g (j - 3840 - mo) else g j) = s20 sg g := s20_g (fun j => if_neg (by omega))
    rw [m12_waysOf_p86, e]
    simp (config := { maxSteps := 1000000 }) (disch := first | assumption | exact W.i _ _ | exact sLine_i W _ _ _ | exact W1.i _ _ | exact hg _ _ | exact W3.i _ _ | (refine ⟨?_, ?_⟩ <;> omega) | omega | (simp only [sW_1, sW_2, sW_3, sW_4, sW_5, sW_8] <;> first | assumption | omega | (refine ⟨?_, ?_⟩ <;> omega)) | (simp only [sT_1, sT_2, sT_3, sT_4, sT_5, sT_8] <;> first | assumption | omega | (refine ⟨?_, ?_⟩ <;> omega)) | (simp only [List.length_append, List.length_cons, List.length_nil, Nat.reduceAdd] <;> omega)) only [Int.reduceEq, Int.reduceLT, Int.reduceLE, Int.reduceNeg, Int.reduceAdd, Int.reduceSub, Int.reduceMul, if_true, if_false, not_true, not_false_eq_true, false_or, or_false, true_or, or_true, true_and, and_true, false_and, and_false, iI_on, iI_mul, iI_add, iI_sub, iI_neg, ap_if, mp_eq, mz_0, mz_1, mz_b, b2_0, b2_1, iI_lt, iI_le, iI_inj, mb_div, mb_rem, hM.m, hM.a1, hM.a2, hM.a3, hM.a4, hM.a5, hM.a6, hM.a7, hM.a8, hM.a9, hM.a10, hM.a11, hM.a12, hM.a13, hM.a14, hM.a15, hM.a16, hM.a17, hM.a18, hM.a19, hM.a20, hM.a21, hM.a22, hM.a23, hM.a24, hM.a25, hM.a26, hM.a27, hM.a28, hM.l1, hM.l2, hM.l3, hM.l4, hM.l5, hM.l6, hM.l7, hM.l8, hM.l9, hM.l10, hM.l11, hM.l12, hM.l13, hM.l14, hM.l15, hM.l16, hM.l17, hM.l18, hM.l19, hM.l20, hM.l21, hM.l22, hM.l23, hM.l24, hM.l25, hM.l26, hM.l27, hM.l28, hM.c10, hM.c11, hM.c12, hM.c13, hM.c14, hM.c15, hM.c19, hM.c20, hM.c23, hM.c27, hM.c36, hM.c37, hM.c38, hM.c40, hM.c41, hM.c42, hM.c44, q]
  | q + 1, fu + 1, s, g, h0, h1, h2 => by
    have c2 : ¬ s < mo := by omega
    have ih := L_inner hM (v1 := v1) (v2 := v2) (v3 := v3) (v4 := v4) m0 m1 c0 c1 (K := K) q fu (s + -1) (fun j' => if j' = 3840 * c + s then g (3840 * c + s) + g (3840 * c - 3840 + s - mo) else g j') (by omega) (by omega) (by omega)
    have e : s20 sg (fun j => if 3840 * c + mo ≤ j ∧ j ≤ 3840 * c + s then g j + g (j - 3840 - mo) else g j) = s20 sg (fun j => if 3840 * c + mo ≤ j ∧ j ≤ 3840 * c + (s + -1) then (if j = 3840 * c + s then g (3840 * c + s) + g (3840 * c - 3840 + s - mo) else g j) + (if j - 3840 - mo = 3840 * c + s then g (3840 * c + s) + g (3840 * c - 3840 + s - mo) else g (j - 3840 - mo)) else (if j = 3840 * c + s then g (3840 * c + s) + g (3840 * c - 3840 + s - mo) else g j)) := by
      refine s20_g (fun j => ?_)
      by_cases q1 : j = 3840 * c + s
      · rw [if_pos ⟨by omega, by omega⟩, if_neg (show ¬ (3840 * c + mo ≤ j ∧ j ≤ 3840 * c + (s + -1)) by omega), if_pos q1, q1]
        have : 3840 * c + s - 3840 - mo = 3840 * c - 3840 + s - mo := by omega
        rw [this]
      · by_cases q2 : 3840 * c + mo ≤ j ∧ j ≤ 3840 * c + (s + -1)
        · rw [if_pos ⟨by omega, by omega⟩, if_pos q2, if_neg q1, if_neg (show ¬ j - 3840 - mo = 3840 * c + s by omega)]
        · rw [if_neg (show ¬ (3840 * c + mo ≤ j ∧ j ≤ 3840 * c + s) by omega), if_neg q2, if_neg q1]
    have r1 : s20 sg g 20 = g := s20_at
    rw [e, ← ih, ← s20_s, m12_waysOf_p86]
    simp (config := { maxSteps := 1000000 }) (disch := first | assumption | exact W.i _ _ | exact sLine_i W _ _ _ | exact W1.i _ _ | exact hg _ _ | exact W3.i _ _ | (refine ⟨?_, ?_⟩ <;> omega) | omega | (simp only [sW_1, sW_2, sW_3, sW_4, sW_5, sW_8] <;> first | assumption | omega | (refine ⟨?_, ?_⟩ <;> omega)) | (simp only [sT_1, sT_2, sT_3, sT_4, sT_5, sT_8] <;> first | assumption | omega | (refine ⟨?_, ?_⟩ <;> omega)) | (simp only [List.length_append, List.length_cons, List.length_nil, Nat.reduceAdd] <;> omega)) only [Int.reduceEq, Int.reduceLT, Int.reduceLE, Int.reduceNeg, Int.reduceAdd, Int.reduceSub, Int.reduceMul, if_true, if_false, not_true, not_false_eq_true, false_or, or_false, true_or, or_true, true_and, and_true, false_and, and_false, iI_on, iI_mul, iI_add, iI_sub, iI_neg, ap_if, mp_eq, mz_0, mz_1, mz_b, b2_0, b2_1, iI_lt, iI_le, iI_inj, mb_div, mb_rem, hM.m, hM.a1, hM.a2, hM.a3, hM.a4, hM.a5, hM.a6, hM.a7, hM.a8, hM.a9, hM.a10, hM.a11, hM.a12, hM.a13, hM.a14, hM.a15, hM.a16, hM.a17, hM.a18, hM.a19, hM.a20, hM.a21, hM.a22, hM.a23, hM.a24, hM.a25, hM.a26, hM.a27, hM.a28, hM.l1, hM.l2, hM.l3, hM.l4, hM.l5, hM.l6, hM.l7, hM.l8, hM.l9, hM.l10, hM.l11, hM.l12, hM.l13, hM.l14, hM.l15, hM.l16, hM.l17, hM.l18, hM.l19, hM.l20, hM.l21, hM.l22, hM.l23, hM.l24, hM.l25, hM.l26, hM.l27, hM.l28, hM.c10, hM.c11, hM.c12, hM.c13, hM.c14, hM.c15, hM.c19, hM.c20, hM.c23, hM.c27, hM.c36, hM.c37, hM.c38, hM.c40, hM.c41, hM.c42, hM.c44, hM.w1, hM.w2, hM.w3, hM.w4, hM.w5, hM.w6, hM.w7, hM.w8, hM.w9, hM.w10, hM.w11, hM.w12, hM.w13, hM.w14, hM.w15, hM.w16, hM.w17, hM.w18, hM.w19, hM.w20, hM.w21, hM.w22, hM.w23, hM.w24, hM.w25, hM.w26, hM.w27, hM.w28, hM.p10, hM.p11, hM.p12, hM.p13, hM.p14, hM.p15, hM.p19, hM.p20, hM.p23, hM.p27, hM.p36, hM.p37, hM.p38, hM.p40, hM.p41, hM.p42, hM.p44, s3_at, s3_nk, s3_nj, c2, r1]
theorem L_outer (hM : OKM M h) {v1 v2 v3 v4 : Int32} {mo : Int} (m0 : 0 ≤ mo) (m1 : mo ≤ 240) {K : Nat → Int32 → Int32 → Int32 → Int32 → gM Int32} : ∀ (c fu : Nat) (g : Int → Int), c ≤ 14 → c < fu →
    m12_waysOf_p71 K fu M v1 v2 v3 v4 (iI mo) (iI (c : Int)) (mK M (s20 sg g) h) = K M v1 v2 v3 (v4 + 1) (mK M (s20 sg (fun j => if 3840 ≤ j ∧ j < 3840 * (c : Int) + 3840 ∧ mo ≤ j % 3840 then g j + g (j - 3840 - mo) else g j)) h)
  | 0, fu + 1, g, h0, h1 => by
    have e : s20 sg (fun j => if 3840 ≤ j ∧ j < 3840 * ((0 : Nat) : Int) + 3840 ∧ mo ≤ j % 3840 then g j + g (j - 3840 - mo) else g j) = s20 sg g := s20_g (fun j => if_neg (by omega))
    have q : ((0 : Nat) : Int) ≤ 0 := by omega
    have q' : iI ((0 : Nat) : Int) ≤ 0 := by
      rw [iI_0, iI_le ⟨by omega, by omega⟩ ⟨by omega, by omega⟩]
      exact q
    rw [m12_waysOf_p71, e, if_pos q']
    rfl
  | c + 1, fu + 1, g, h0, h1 => by
    have q : ¬ ((c + 1 : Nat) : Int) ≤ 0 := by omega
    have q2 : ¬ mo < 0 := by omega
    have inn := L_inner (sg := sg) hM (v1 := v1) (v2 := v2) (v3 := v3) (v4 := v4) m0 m1 (c := ((c + 1 : Nat) : Int)) (by omega) (by omega) (K := m12_waysOf_p71 K fu) (3840 - mo).toNat FU 3839 g (by omega) (by omega) (FU_lt (by omega))
    have ec : ((c + 1 : Nat) : Int) + -1 = (c : Int) := by omega
    rw [ec] at inn
    have ih := L_outer hM (v1 := v1) (v2 := v2) (v3 := v3) (v4 := v4) m0 m1 (K := K) c fu (fun j => if 3840 * ((c + 1 : Nat) : Int) + mo ≤ j ∧ j ≤ 3840 * ((c + 1 : Nat) : Int) + 3839 then g j + g (j - 3840 - mo) else g j) (by omega) (by omega)
    have q' : ¬ iI ((c + 1 : Nat) : Int) ≤ 0 := by
      rw [iI_0, iI_le ⟨by omega, by omega⟩ ⟨by omega, by omega⟩]
      exact q
    have q2' : ¬ iI mo < 0 := by
      rw [iI_0, iI_lt ⟨by omega, by omega⟩ ⟨by omega, by omega⟩]
      exact q2
    rw [m12_waysOf_p71, if_neg q', if_neg q2']
    refine (inn.trans ih).trans (congrArg (fun z => K M v1 v2 v3 (v4 + 1) (mK M z h)) (s20_g (fun j => ?_)))
    by_cases a : 3840 ≤ j ∧ j < 3840 * (c : Int) + 3840 ∧ mo ≤ j % 3840
    · rw [if_pos a, if_pos (show 3840 ≤ j ∧ j < 3840 * ((c + 1 : Nat) : Int) + 3840 ∧ mo ≤ j % 3840 by omega), if_neg (by omega), if_neg (by omega)]
    · rw [if_neg a]
      by_cases b : 3840 * ((c + 1 : Nat) : Int) + mo ≤ j ∧ j ≤ 3840 * ((c + 1 : Nat) : Int) + 3839
      · rw [if_pos b, if_pos (by omega)]
      · rw [if_neg b, if_neg (by omega)]
/-! how many sets of c of the first t have the sum s -/
def wEx (e : Int → Int) : Nat → Nat → Int → Int
  | 0, c, s => if c = 0 ∧ s = 0 then 1 else 0
  | t + 1, 0, s => wEx e t 0 s
  | t + 1, c + 1, s => wEx e t (c + 1) s + if 0 ≤ e t then wEx e t c (s - e t) else 0
theorem wEx_neg (e : Int → Int) : ∀ (t c : Nat) (s : Int), s < 0 → wEx e t c s = 0
  | 0, c, s, h => if_neg (by omega)
  | t + 1, 0, s, h => wEx_neg e t 0 s h
  | t + 1, c + 1, s, h => by
    show wEx e t (c + 1) s + (if 0 ≤ e t then wEx e t c (s - e t) else 0) = 0
    rw [wEx_neg e t (c + 1) s h]
    split
    · rw [wEx_neg e t c _ (by omega)]
      rfl
    · rfl
theorem wEx_b (e : Int → Int) : ∀ (t c : Nat) (s : Int), 0 ≤ wEx e t c s ∧ wEx e t c s ≤ (2 ^ t : Nat)
  | 0, c, s => by
    unfold wEx
    split
    · exact ⟨by omega, by decide⟩
    · exact ⟨by omega, by decide⟩
  | t + 1, 0, s => by
    have := wEx_b e t 0 s
    have := tw_s t
    show 0 ≤ wEx e t 0 s ∧ wEx e t 0 s ≤ _
    omega
  | t + 1, c + 1, s => by
    have h1 := wEx_b e t (c + 1) s
    have h2 := wEx_b e t c (s - e t)
    have := tw_s t
    show 0 ≤ wEx e t (c + 1) s + (if 0 ≤ e t then wEx e t c (s - e t) else 0) ∧ wEx e t (c + 1) s + (if 0 ≤ e t then wEx e t c (s - e t) else 0) ≤ _
    split <;> omega
/-- the table, after t terms -/
def tbl (e : Int → Int) (t : Nat) (N : Int) (g : Int → Int) : Prop := (∀ c s, 0 ≤ c → c ≤ N → 0 ≤ s → s < 3840 → g (3840 * c + s) = wEx e t c.toNat s) ∧ ∀ j, i32 (g j)
theorem wEx_i (e : Int → Int) {t : Nat} (ht : t ≤ 16) (c : Nat) (s : Int) : 0 ≤ wEx e t c s ∧ wEx e t c s ≤ 65536 := by
  have h1 := wEx_b e t c s
  have h2 := tw_le ht
  have h3 : (2 : Nat) ^ 16 = 65536 := rfl
  omega
theorem tbl_step {e : Int → Int} {t : Nat} {N : Int} {g : Int → Int} (H : tbl e t N g) (ht : t < 16) (hN : 0 ≤ N ∧ N ≤ 14) (m0 : 0 ≤ e t) (m1 : e t ≤ 240) : tbl e (t + 1) N (fun j => if 3840 ≤ j ∧ j < 3840 * N + 3840 ∧ e t ≤ j % 3840 then g j + g (j - 3840 - e t) else g j) := by
  have key : ∀ c s, 0 ≤ c → c ≤ N → 0 ≤ s → s < 3840 → (if 3840 ≤ 3840 * c + s ∧ 3840 * c + s < 3840 * N + 3840 ∧ e t ≤ (3840 * c + s) % 3840 then g (3840 * c + s) + g (3840 * c + s - 3840 - e t) else g (3840 * c + s)) = wEx e (t + 1) c.toNat s := fun c s c0 c1 s0 s1 => by
    have h1 := H.1 c s c0 c1 s0 s1
    by_cases c2 : c = 0
    · subst c2
      rw [if_neg (by omega), h1]
      rfl
    · have ec : c.toNat = (c - 1).toNat + 1 := by omega
      rw [ec]
      show _ = wEx e t ((c - 1).toNat + 1) s + if 0 ≤ e t then wEx e t (c - 1).toNat (s - e t) else 0
      rw [if_pos m0, ← ec, ← h1]
      by_cases c3 : e t ≤ s
      · rw [if_pos (by omega)]
        have h2 := H.1 (c - 1) (s - e t) (by omega) (by omega) (by omega) (by omega)
        have e2 : 3840 * (c - 1) + (s - e t) = 3840 * c + s - 3840 - e t := by omega
        rw [← h2, e2]
      · rw [if_neg (by omega), wEx_neg e t _ _ (by omega)]
        omega
  refine ⟨key, fun j => ?_⟩
  show i32 (if 3840 ≤ j ∧ j < 3840 * N + 3840 ∧ e t ≤ j % 3840 then g j + g (j - 3840 - e t) else g j)
  by_cases c : 3840 ≤ j ∧ j < 3840 * N + 3840 ∧ e t ≤ j % 3840
  · have k := key (j / 3840) (j % 3840) (by omega) (by omega) (by omega) (by omega)
    have ej : 3840 * (j / 3840) + j % 3840 = j := by omega
    rw [ej] at k
    rw [k]
    have := wEx_i e (t := t + 1) (by omega) (j / 3840).toNat (j % 3840)
    exact ⟨by omega, by omega⟩
  · rw [if_neg c]
    exact H.2 j
theorem tbl_skip {e : Int → Int} {t : Nat} {N : Int} {g : Int → Int} (H : tbl e t N g) (m0 : e t < 0) : tbl e (t + 1) N g := by
  refine ⟨fun c s c0 c1 s0 s1 => ?_, H.2⟩
  rw [H.1 c s c0 c1 s0 s1]
  cases c.toNat with
  | zero => rfl
  | succ c =>
    show _ = wEx e t (c + 1) s + if 0 ≤ e t then wEx e t c (s - e t) else 0
    rw [if_neg (by omega)]
    omega
theorem L_terms (hM : OKM M h) (W : WD sg) {N k : Int} (hN : 0 ≤ N ∧ N ≤ 14) (hk : i32 k) {tr : Int} (ht : i32 tr) : ∀ (m fu t : Nat) (g : Int → Int), (t : Int) + m = sg 1 5 → tbl (drE sg k) t N g → m < fu →
    ∃ g', tbl (drE sg k) (sg 1 5).toNat N g' ∧ m12_waysOf_p34 fu M (iI N) (iI k) (iI tr) (iI (t : Int)) (mK M (s20 sg g) h) = m12_waysOf_p163 FU M (iI N) (iI 0) (iI (if 0 ≤ tr then tr else 0)) (mK M (s20 sg g') h)
  | 0, fu + 1, t, g, h0, H, h2 => by
    have e : t = (sg 1 5).toNat := by omega
    have c : sg 1 5 ≤ (t : Int) := by omega
    have r1 : s20 sg g 1 = sg 1 := s20_o (by omega)
    have n5 := W.n5
    rw [e] at H
    refine ⟨g, H, ?_⟩
    rw [m12_waysOf_p34]
    by_cases c2 : 0 ≤ tr
    · rw [if_pos c2]
      simp (config := { maxSteps := 1000000 }) (disch := first | assumption | exact W.i _ _ | exact sLine_i W _ _ _ | exact W1.i _ _ | exact hg _ _ | exact W3.i _ _ | (refine ⟨?_, ?_⟩ <;> omega) | omega | (simp only [sW_1, sW_2, sW_3, sW_4, sW_5, sW_8] <;> first | assumption | omega | (refine ⟨?_, ?_⟩ <;> omega)) | (simp only [sT_1, sT_2, sT_3, sT_4, sT_5, sT_8] <;> first | assumption | omega | (refine ⟨?_, ?_⟩ <;> omega)) | (simp only [List.length_append, List.length_cons, List.length_nil, Nat.reduceAdd] <;> omega)) only [Int.reduceEq, Int.reduceLT, Int.reduceLE, Int.reduceNeg, Int.reduceAdd, Int.reduceSub, Int.reduceMul, if_true, if_false, not_true, not_false_eq_true, false_or, or_false, true_or, or_true, true_and, and_true, false_and, and_false, iI_on, iI_mul, iI_add, iI_sub, iI_neg, ap_if, mp_eq, mz_0, mz_1, mz_b, b2_0, b2_1, iI_lt, iI_le, iI_inj, mb_div, mb_rem, hM.m, hM.a1, hM.a2, hM.a3, hM.a4, hM.a5, hM.a6, hM.a7, hM.a8, hM.a9, hM.a10, hM.a11, hM.a12, hM.a13, hM.a14, hM.a15, hM.a16, hM.a17, hM.a18, hM.a19, hM.a20, hM.a21, hM.a22, hM.a23, hM.a24, hM.a25, hM.a26, hM.a27, hM.a28, hM.l1, hM.l2, hM.l3, hM.l4, hM.l5, hM.l6, hM.l7, hM.l8, hM.l9, hM.l10, hM.l11, hM.l12, hM.l13, hM.l14, hM.l15, hM.l16, hM.l17, hM.l18, hM.l19, hM.l20, hM.l21, hM.l22, hM.l23, hM.l24, hM.l25, hM.l26, hM.l27, hM.l28, hM.c10, hM.c11, hM.c12, hM.c13, hM.c14, hM.c15, hM.c19, hM.c20, hM.c23, hM.c27, hM.c36, hM.c37, hM.c38, hM.c40, hM.c41, hM.c42, hM.c44, r1, c, c2, m12_waysOf_p161]
    · rw [if_neg c2]
      simp (config := { maxSteps := 1000000 }) (disch := first | assumption | exact W.i _ _ | exact sLine_i W _ _ _ | exact W1.i _ _ | exact hg _ _ | exact W3.i _ _ | (refine ⟨?_, ?_⟩ <;> omega) | omega | (simp only [sW_1, sW_2, sW_3, sW_4, sW_5, sW_8] <;> first | assumption | omega | (refine ⟨?_, ?_⟩ <;> omega)) | (simp only [sT_1, sT_2, sT_3, sT_4, sT_5, sT_8] <;> first | assumption | omega | (refine ⟨?_, ?_⟩ <;> omega)) | (simp only [List.length_append, List.length_cons, List.length_nil, Nat.reduceAdd] <;> omega)) only [Int.reduceEq, Int.reduceLT, Int.reduceLE, Int.reduceNeg, Int.reduceAdd, Int.reduceSub, Int.reduceMul, if_true, if_false, not_true, not_false_eq_true, false_or, or_false, true_or, or_true, true_and, and_true, false_and, and_false, iI_on, iI_mul, iI_add, iI_sub, iI_neg, ap_if, mp_eq, mz_0, mz_1, mz_b, b2_0, b2_1, iI_lt, iI_le, iI_inj, mb_div, mb_rem, hM.m, hM.a1, hM.a2, hM.a3, hM.a4, hM.a5, hM.a6, hM.a7, hM.a8, hM.a9, hM.a10, hM.a11, hM.a12, hM.a13, hM.a14, hM.a15, hM.a16, hM.a17, hM.a18, hM.a19, hM.a20, hM.a21, hM.a22, hM.a23, hM.a24, hM.a25, hM.a26, hM.a27, hM.a28, hM.l1, hM.l2, hM.l3, hM.l4, hM.l5, hM.l6, hM.l7, hM.l8, hM.l9, hM.l10, hM.l11, hM.l12, hM.l13, hM.l14, hM.l15, hM.l16, hM.l17, hM.l18, hM.l19, hM.l20, hM.l21, hM.l22, hM.l23, hM.l24, hM.l25, hM.l26, hM.l27, hM.l28, hM.c10, hM.c11, hM.c12, hM.c13, hM.c14, hM.c15, hM.c19, hM.c20, hM.c23, hM.c27, hM.c36, hM.c37, hM.c38, hM.c40, hM.c41, hM.c42, hM.c44, r1, c, c2, m12_waysOf_p161]
  | m + 1, fu + 1, t, g, h0, H, h2 => by
    have c : ¬ sg 1 5 ≤ (t : Int) := by omega
    have r1 : s20 sg g 1 = sg 1 := s20_o (by omega)
    have r8 : s20 sg g 8 = sg 8 := s20_o (by omega)
    have n5 := W.n5
    have W1 := s20_w W H.2
    have dr : m12_isDrawn M (iI (t : Int)) (iI k) (mK M (s20 sg g) h) = some (iI (b2 (drw sg t k)), mK M (s20 sg g) h) := B_isDrawn hM W1 (by omega) (by omega) hk
    have db := drE_b W (k := k) (t := (t : Int)) (by omega) (by omega)
    have et : iI (t : Int) + 1 = iI ((t + 1 : Nat) : Int) := by
      rw [iI_1, iI_add]
      congr 1
    by_cases cd : drw sg t k
    · have ed : drE sg k t = sg 8 (7 * t + 2) := by unfold drE; rw [if_pos cd]
      have ob : m12_of M (iI (t : Int)) 2 (mK M (s20 sg g) h) = some (iI (drE sg k t), mK M (s20 sg g) h) := by
        have ob0 := B_of (sg := s20 sg g) hM (t := (t : Int)) (w := 2) (by omega) (by omega)
        rw [r8] at ob0
        rw [show (2 : Int32) = iI 2 from rfl, ed]
        exact ob0
      rw [ed] at db
      have m0 : 0 ≤ drE sg k t := by
        have nt := W.te t (by omega) (by omega)
        omega
      have st := tbl_step H (by omega) hN m0 (by rw [ed]; omega)
      obtain ⟨g', H', e'⟩ := L_terms hM W hN hk ht m fu (t + 1) _ (by omega) st (by omega)
      refine ⟨g', H', ?_⟩
      rw [← e']
      have out := L_outer (sg := sg) hM (v1 := iI N) (v2 := iI k) (v3 := iI tr) (v4 := iI (t : Int)) (mo := drE sg k t) m0 (by rw [ed]; omega) (K := m12_waysOf_p34 fu) N.toNat FU g (by omega) (FU_lt (by omega))
      rw [Int.toNat_of_nonneg hN.1, et] at out
      rw [← out, m12_waysOf_p34]
      have d1 : b2 (drw sg t k) = 1 := b2_t cd
      have x1 : mb (gGetR [11] M 0) (fun r7 => mb (gLdI 100 r7 5) fun x8 => if x8 ≤ iI (t : Int) then (if 0 ≤ iI tr then m12_waysOf_p161 M (iI N) 0 (iI tr) else m12_waysOf_p161 M (iI N) 0 0) else mb (mv [11] M (m12_isDrawn M (iI (t : Int)) (iI k))) fun x9 => if x9 = 0 then m12_waysOf_p66 (m12_waysOf_p34 fu) M (iI N) (iI k) (iI tr) (iI (t : Int)) (-1) else mb (mv [11] M (m12_of M (iI (t : Int)) 2)) fun x10 => m12_waysOf_p66 (m12_waysOf_p34 fu) M (iI N) (iI k) (iI tr) (iI (t : Int)) x10) (mK M (s20 sg g) h) = (if iI (sg 1 5) ≤ iI (t : Int) then (if 0 ≤ iI tr then m12_waysOf_p161 M (iI N) 0 (iI tr) else m12_waysOf_p161 M (iI N) 0 0) else mb (mv [11] M (m12_isDrawn M (iI (t : Int)) (iI k))) fun x9 => if x9 = 0 then m12_waysOf_p66 (m12_waysOf_p34 fu) M (iI N) (iI k) (iI tr) (iI (t : Int)) (-1) else mb (mv [11] M (m12_of M (iI (t : Int)) 2)) fun x10 => m12_waysOf_p66 (m12_waysOf_p34 fu) M (iI N) (iI k) (iI tr) (iI (t : Int)) x10) (mK M (s20 sg g) h) := by
        rw [hM.a1, show (5 : Int32) = iI 5 from rfl, hM.l1 (by omega) (by omega), r1]
      rw [x1, if_neg (fun z => c ((iI_le (W.i 1 5) ⟨by omega, by omega⟩).mp z)), hM.m, mb_eq dr, d1, if_neg (show ¬ iI 1 = 0 by decide), hM.m, mb_eq ob]
      rfl
    · have ed : drE sg k t = -1 := by unfold drE; rw [if_neg cd]
      obtain ⟨g', H', e'⟩ := L_terms hM W hN hk ht m fu (t + 1) g (by omega) (tbl_skip H (by omega)) (by omega)
      refine ⟨g', H', ?_⟩
      rw [← e', m12_waysOf_p34]
      have d1 : b2 (drw sg t k) = 0 := b2_f cd
      have x1 : mb (gGetR [11] M 0) (fun r7 => mb (gLdI 100 r7 5) fun x8 => if x8 ≤ iI (t : Int) then (if 0 ≤ iI tr then m12_waysOf_p161 M (iI N) 0 (iI tr) else m12_waysOf_p161 M (iI N) 0 0) else mb (mv [11] M (m12_isDrawn M (iI (t : Int)) (iI k))) fun x9 => if x9 = 0 then m12_waysOf_p66 (m12_waysOf_p34 fu) M (iI N) (iI k) (iI tr) (iI (t : Int)) (-1) else mb (mv [11] M (m12_of M (iI (t : Int)) 2)) fun x10 => m12_waysOf_p66 (m12_waysOf_p34 fu) M (iI N) (iI k) (iI tr) (iI (t : Int)) x10) (mK M (s20 sg g) h) = (if iI (sg 1 5) ≤ iI (t : Int) then (if 0 ≤ iI tr then m12_waysOf_p161 M (iI N) 0 (iI tr) else m12_waysOf_p161 M (iI N) 0 0) else mb (mv [11] M (m12_isDrawn M (iI (t : Int)) (iI k))) fun x9 => if x9 = 0 then m12_waysOf_p66 (m12_waysOf_p34 fu) M (iI N) (iI k) (iI tr) (iI (t : Int)) (-1) else mb (mv [11] M (m12_of M (iI (t : Int)) 2)) fun x10 => m12_waysOf_p66 (m12_waysOf_p34 fu) M (iI N) (iI k) (iI tr) (iI (t : Int)) x10) (mK M (s20 sg g) h) := by
        rw [hM.a1, show (5 : Int32) = iI 5 from rfl, hM.l1 (by omega) (by omega), r1]
      rw [x1, if_neg (fun z => c ((iI_le (W.i 1 5) ⟨by omega, by omega⟩).mp z)), hM.m, mb_eq dr, d1, if_pos (show iI 0 = 0 by decide)]
      unfold m12_waysOf_p66
      have f1 : FU = 99999 + 1 := rfl
      rw [f1, m12_waysOf_p71]
      unfold m12_waysOf_p143
      rw [if_pos (show (-1 : Int32) < 0 by decide), ite_self, et]
/-! the sum over a stretch -/
def tsm (f : Int → Int) : Nat → Int → Int
  | 0, _ => 0
  | k + 1, a => f a + tsm f k (a + 1)
theorem tsm_c {f g : Int → Int} : ∀ (k : Nat) (a b : Int), (∀ i : Int, 0 ≤ i → i < k → f (a + i) = g (b + i)) → tsm f k a = tsm g k b
  | 0, _, _, _ => rfl
  | k + 1, a, b, h => by
    show f a + tsm f k (a + 1) = g b + tsm g k (b + 1)
    have h0 := h 0 (by omega) (by omega)
    rw [Int.add_zero, Int.add_zero] at h0
    rw [h0, tsm_c k (a + 1) (b + 1) (fun i i0 i1 => by
      have := h (i + 1) (by omega) (by omega)
      have e1 : a + 1 + i = a + (i + 1) := by omega
      have e2 : b + 1 + i = b + (i + 1) := by omega
      rw [e1, e2]; exact this)]
theorem tsm_add (f g : Int → Int) : ∀ (k : Nat) (a : Int), tsm (fun s => f s + g s) k a = tsm f k a + tsm g k a
  | 0, _ => rfl
  | k + 1, a => by
    show f a + g a + tsm _ k (a + 1) = f a + tsm f k (a + 1) + (g a + tsm g k (a + 1))
    rw [tsm_add f g k (a + 1)]
    omega
theorem tsm_1 : ∀ (k : Nat) (a : Int), tsm (fun s => if s = 0 then 1 else 0) k a = if a ≤ 0 ∧ 0 < a + k then 1 else 0
  | 0, a => by
    rw [if_neg (by omega)]
    rfl
  | k + 1, a => by
    show (if a = 0 then (1 : Int) else 0) + tsm _ k (a + 1) = _
    rw [tsm_1 k (a + 1)]
    by_cases c : a = 0
    · rw [if_pos c, if_neg (by omega), if_pos (by omega)]
      rfl
    · rw [if_neg c]
      by_cases c2 : a + 1 ≤ 0 ∧ 0 < a + 1 + (k : Int)
      · rw [if_pos c2, if_pos (by omega)]
        rfl
      · rw [if_neg c2, if_neg (by omega)]
        rfl
theorem tsm_0 : ∀ (k : Nat) (a : Int), tsm (fun _ => 0) k a = 0
  | 0, _ => rfl
  | k + 1, a => by
    show 0 + tsm _ k (a + 1) = 0
    rw [tsm_0 k (a + 1)]
    rfl
theorem L_sum (hM : OKM M h) {N : Int} (hN : 0 ≤ N ∧ N ≤ 14) {g : Int → Int} : ∀ (m fu : Nat) (s acc : Int), 0 ≤ s → s + m = 3840 → m < fu → m12_waysOf_p163 fu M (iI N) (iI acc) (iI s) (mK M (s20 sg g) h) = some (iI (acc + tsm (fun s => g (3840 * N + s)) m s), mK M (s20 sg g) h)
  | 0, fu + 1, s, acc, h0, h1, h2 => by
    have c : 3840 ≤ s := by omega
    rw [m12_waysOf_p163]
    simp (config := { maxSteps := 1000000 }) (disch := first | assumption | exact W.i _ _ | exact sLine_i W _ _ _ | exact W1.i _ _ | exact hg _ _ | exact W3.i _ _ | (refine ⟨?_, ?_⟩ <;> omega) | omega | (simp only [sW_1, sW_2, sW_3, sW_4, sW_5, sW_8] <;> first | assumption | omega | (refine ⟨?_, ?_⟩ <;> omega)) | (simp only [sT_1, sT_2, sT_3, sT_4, sT_5, sT_8] <;> first | assumption | omega | (refine ⟨?_, ?_⟩ <;> omega)) | (simp only [List.length_append, List.length_cons, List.length_nil, Nat.reduceAdd] <;> omega)) only [Int.reduceEq, Int.reduceLT, Int.reduceLE, Int.reduceNeg, Int.reduceAdd, Int.reduceSub, Int.reduceMul, if_true, if_false, not_true, not_false_eq_true, false_or, or_false, true_or, or_true, true_and, and_true, false_and, and_false, iI_on, iI_mul, iI_add, iI_sub, iI_neg, ap_if, mp_eq, mz_0, mz_1, mz_b, b2_0, b2_1, iI_lt, iI_le, iI_inj, mb_div, mb_rem, hM.m, hM.a1, hM.a2, hM.a3, hM.a4, hM.a5, hM.a6, hM.a7, hM.a8, hM.a9, hM.a10, hM.a11, hM.a12, hM.a13, hM.a14, hM.a15, hM.a16, hM.a17, hM.a18, hM.a19, hM.a20, hM.a21, hM.a22, hM.a23, hM.a24, hM.a25, hM.a26, hM.a27, hM.a28, hM.l1, hM.l2, hM.l3, hM.l4, hM.l5, hM.l6, hM.l7, hM.l8, hM.l9, hM.l10, hM.l11, hM.l12, hM.l13, hM.l14, hM.l15, hM.l16, hM.l17, hM.l18, hM.l19, hM.l20, hM.l21, hM.l22, hM.l23, hM.l24, hM.l25, hM.l26, hM.l27, hM.l28, hM.c10, hM.c11, hM.c12, hM.c13, hM.c14, hM.c15, hM.c19, hM.c20, hM.c23, hM.c27, hM.c36, hM.c37, hM.c38, hM.c40, hM.c41, hM.c42, hM.c44, c, tsm, Int.add_zero]
  | m + 1, fu + 1, s, acc, h0, h1, h2 => by
    have c : ¬ 3840 ≤ s := by omega
    have ih := L_sum hM hN (g := g) m fu (s + 1) (acc + g (3840 * N + s)) (by omega) (by omega) (by omega)
    have r1 : s20 sg g 20 = g := s20_at
    have e : acc + tsm (fun s => g (3840 * N + s)) (m + 1) s = acc + g (3840 * N + s) + tsm (fun s => g (3840 * N + s)) m (s + 1) := by
      show acc + (g (3840 * N + s) + _) = _
      omega
    rw [e, ← ih, m12_waysOf_p163]
    simp (config := { maxSteps := 1000000 }) (disch := first | assumption | exact W.i _ _ | exact sLine_i W _ _ _ | exact W1.i _ _ | exact hg _ _ | exact W3.i _ _ | (refine ⟨?_, ?_⟩ <;> omega) | omega | (simp only [sW_1, sW_2, sW_3, sW_4, sW_5, sW_8] <;> first | assumption | omega | (refine ⟨?_, ?_⟩ <;> omega)) | (simp only [sT_1, sT_2, sT_3, sT_4, sT_5, sT_8] <;> first | assumption | omega | (refine ⟨?_, ?_⟩ <;> omega)) | (simp only [List.length_append, List.length_cons, List.length_nil, Nat.reduceAdd] <;> omega)) only [Int.reduceEq, Int.reduceLT, Int.reduceLE, Int.reduceNeg, Int.reduceAdd, Int.reduceSub, Int.reduceMul, if_true, if_false, not_true, not_false_eq_true, false_or, or_false, true_or, or_true, true_and, and_true, false_and, and_false, iI_on, iI_mul, iI_add, iI_sub, iI_neg, ap_if, mp_eq, mz_0, mz_1, mz_b, b2_0, b2_1, iI_lt, iI_le, iI_inj, mb_div, mb_rem, hM.m, hM.a1, hM.a2, hM.a3, hM.a4, hM.a5, hM.a6, hM.a7, hM.a8, hM.a9, hM.a10, hM.a11, hM.a12, hM.a13, hM.a14, hM.a15, hM.a16, hM.a17, hM.a18, hM.a19, hM.a20, hM.a21, hM.a22, hM.a23, hM.a24, hM.a25, hM.a26, hM.a27, hM.a28, hM.l1, hM.l2, hM.l3, hM.l4, hM.l5, hM.l6, hM.l7, hM.l8, hM.l9, hM.l10, hM.l11, hM.l12, hM.l13, hM.l14, hM.l15, hM.l16, hM.l17, hM.l18, hM.l19, hM.l20, hM.l21, hM.l22, hM.l23, hM.l24, hM.l25, hM.l26, hM.l27, hM.l28, hM.c10, hM.c11, hM.c12, hM.c13, hM.c14, hM.c15, hM.c19, hM.c20, hM.c23, hM.c27, hM.c36, hM.c37, hM.c38, hM.c40, hM.c41, hM.c42, hM.c44, c, r1]
/-- the drawn terms' months, the latest first -/
def rlD (e : Int → Int) : Nat → List Int
  | 0 => []
  | t + 1 => if 0 ≤ e t then e t :: rlD e t else rlD e t
theorem tsm_way {e : Int → Int} : ∀ (t c : Nat) (a : Int) (k : Nat), (∀ i : Nat, i < t → e i ≤ 240) → 240 * (c : Int) < a + k → tsm (wEx e t c) k a = yWay (rlD e t) c a
  | 0, 0, a, k, _, h => by
    have e1 : tsm (wEx e 0 0) k a = tsm (fun s => if s = 0 then 1 else 0) k a := tsm_c k a a (fun i _ _ => by
      show (if 0 = 0 ∧ a + i = 0 then (1 : Int) else 0) = _
      by_cases c : a + i = 0
      · rw [if_pos ⟨rfl, c⟩, if_pos c]
      · rw [if_neg (fun z => c z.2), if_neg c])
    rw [e1, tsm_1, yWay_0]
    by_cases c : a ≤ 0
    · rw [if_pos ⟨c, by omega⟩, if_pos c]
    · rw [if_neg (fun z => c z.1), if_neg c]
  | 0, c + 1, a, k, _, h => by
    have e1 : tsm (wEx e 0 (c + 1)) k a = tsm (fun _ => 0) k a := tsm_c k a a (fun i _ _ => if_neg (by omega))
    rw [e1, tsm_0]
    rfl
  | t + 1, 0, a, k, he, h => by
    show tsm (wEx e t 0) k a = yWay (rlD e (t + 1)) 0 a
    rw [tsm_way t 0 a k (fun i hi => he i (by omega)) h, yWay_0, yWay_0]
  | t + 1, c + 1, a, k, he, h => by
    have i1 := tsm_way (e := e) t (c + 1) a k (fun i hi => he i (by omega)) h
    have ht := he t (by omega)
    by_cases q : 0 ≤ e t
    · have i2 := tsm_way (e := e) t c (a - e t) k (fun i hi => he i (by omega)) (by omega)
      have e1 : tsm (wEx e (t + 1) (c + 1)) k a = tsm (fun s => wEx e t (c + 1) s + wEx e t c (s - e t)) k a := tsm_c k a a (fun i _ _ => by
        show wEx e t (c + 1) (a + i) + (if 0 ≤ e t then wEx e t c (a + i - e t) else 0) = _
        rw [if_pos q])
      have e2 : tsm (fun s => wEx e t c (s - e t)) k a = tsm (wEx e t c) k (a - e t) := tsm_c k a (a - e t) (fun i _ _ => by
        show wEx e t c (a + i - e t) = wEx e t c (a - e t + i)
        have : a + i - e t = a - e t + i := by omega
        rw [this])
      have e3 : rlD e (t + 1) = e t :: rlD e t := if_pos q
      rw [e1, tsm_add, e2, i1, i2, e3]
      rfl
    · have e1 : tsm (wEx e (t + 1) (c + 1)) k a = tsm (wEx e t (c + 1)) k a := tsm_c k a a (fun i _ _ => by
        show wEx e t (c + 1) (a + i) + (if 0 ≤ e t then wEx e t c (a + i - e t) else 0) = _
        rw [if_neg q]
        omega)
      have e3 : rlD e (t + 1) = rlD e t := if_neg q
      rw [e1, i1, e3]
theorem B_waysOf (hM : OKM M h) (W : WD sg) {N k tr : Int} (hN : 0 ≤ N ∧ N ≤ 14) (hk : i32 k) (ht : 0 ≤ tr ∧ tr ≤ 3840) : ∃ g', (∀ j, i32 (g' j)) ∧ m12_waysOf M (iI N) (iI k) (iI tr) (mK M sg h) = some (iI (yWay (rlD (drE sg k) (sg 1 5).toNat) N.toNat tr), mK M (s20 sg g') h) := by
  have n5 := W.n5
  have e0 : s20 sg (sg 20) = sg := by
    funext q
    unfold s20
    split
    · rename_i c; rw [c]
    · rfl
  have cl := L_clear (sg := sg) (h := h) hM (v1 := iI N) (v2 := iI k) (v3 := iI tr) 65280 FU 0 (sg 20) (by omega) (by omega) (FU_lt (by omega))
  rw [e0] at cl
  have T0 : tbl (drE sg k) 0 N (fun j => if j = 0 then 1 else if 0 ≤ j ∧ j < 65280 then 0 else sg 20 j) := by
    refine ⟨fun c s c0 c1 s0 s1 => ?_, fun j => ?_⟩
    · show (if 3840 * c + s = 0 then (1 : Int) else if 0 ≤ 3840 * c + s ∧ 3840 * c + s < 65280 then 0 else sg 20 (3840 * c + s)) = if c.toNat = 0 ∧ s = 0 then 1 else 0
      by_cases q : c = 0 ∧ s = 0
      · rw [if_pos (by omega), if_pos (by omega)]
      · rw [if_neg (by omega), if_pos (by omega), if_neg (by omega)]
    · show i32 (if j = 0 then (1 : Int) else if 0 ≤ j ∧ j < 65280 then 0 else sg 20 j)
      split
      · exact ⟨by omega, by omega⟩
      · split
        · exact ⟨by omega, by omega⟩
        · exact W.i 20 j
  obtain ⟨g', H', e'⟩ := L_terms hM W hN hk (tr := tr) ⟨by omega, by omega⟩ (sg 1 5).toNat FU 0 _ (by omega) T0 (FU_lt (by omega))
  refine ⟨g', H'.2, ?_⟩
  have sm := L_sum (sg := sg) hM hN (g := g') (3840 - tr).toNat FU tr 0 ht.1 (by omega) (FU_lt (by omega))
  have ec : tsm (fun s => g' (3840 * N + s)) (3840 - tr).toNat tr = yWay (rlD (drE sg k) (sg 1 5).toNat) N.toNat tr := by
    rw [← tsm_way (sg 1 5).toNat N.toNat tr (3840 - tr).toNat (fun i hi => (drE_b W (by omega) (by omega)).2) (by omega)]
    exact tsm_c _ _ _ (fun i i0 i1 => H'.1 N (tr + i) hN.1 (Int.le_refl _) (by omega) (by omega))
  rw [Int.zero_add, ec] at sm
  rw [if_pos ht.1] at e'
  unfold m12_waysOf
  exact (cl.trans e').trans sm
end WAYS

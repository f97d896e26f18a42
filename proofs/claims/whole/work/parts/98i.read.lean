/-! ===== a call on both: read ===== -/
section READ
variable {M : Nat} {sg rho : Nat → Int → Int} {h : gH}
/-- reading touches the reader's rows alone -/
theorem read_inv (I : Inv sg rho h) {sg' rho' : Nat → Int → Int} (k1 : ∀ q, q ≠ 0 → q ≠ 11 → q ≠ 12 → q ≠ 13 → sg' q = sg q) (k10 : sg' 0 10 = 0) (k0 : ∀ j, j < 10 ∨ 20 < j → sg' 0 j = sg 0 j) (gs : okG sg') (kr : ∀ q, q < 29 ∨ 37 < q ∨ q = 35 → rho' q = rho q) (r0 : rho' 29 0 = 0) (gr : okG rho') : CI sg' rho' h ∧ WD sg' ∧ WX sg' ∧ WY sg' := by
  obtain ⟨x1, x2, x3, x4, x5⟩ := I.1.2.2.2.2.2.2
  obtain ⟨w1, w2, w3, w4⟩ := I.2.2.1
  obtain ⟨y1, y2, y3, y4, y5⟩ := I.2.2.2.1
  have ek : kG sg' = kG sg := by
    funext q z
    unfold kG
    rw [k1 28 (by omega) (by omega) (by omega) (by omega)]
  refine ⟨I.1.ho (fun q q0 q1 => k1 q (by omega) (by omega) (by omega) (by omega)) (k1 28 (by omega) (by omega) (by omega) (by omega)) (k0 42 (by omega)) (fun q hq => kr q (by omega)) gr ?_ ?_ ?_ ?_ ?_, I.2.1.c9 (fun q q0 q1 => k1 q (by omega) (by omega) (by omega) (by omega)) gs, ?_, ?_⟩
  · unfold XR
    rw [k0 27 (by omega), k1 19 (by omega) (by omega) (by omega) (by omega), kr 38 (by omega), kr 39 (by omega)]; exact x1
  · unfold XT
    rw [k10, r0]; exact ⟨rfl, fun j j0 j1 => by omega⟩
  · intro t t0 t1
    rw [k1 21 (by omega) (by omega) (by omega) (by omega), k1 22 (by omega) (by omega) (by omega) (by omega), k1 23 (by omega) (by omega) (by omega) (by omega), kr 47 (by omega), kr 48 (by omega), kr (43 + t.toNat) (by omega)]
    exact x3 t t0 t1
  · unfold XH
    rw [k1 24 (by omega) (by omega) (by omega) (by omega), k1 25 (by omega) (by omega) (by omega) (by omega), k1 26 (by omega) (by omega) (by omega) (by omega), kr 49 (by omega), kr 50 (by omega), kr 51 (by omega), kr 52 (by omega)]; exact x4
  · unfold XB
    rw [k0 40 (by omega), k1 27 (by omega) (by omega) (by omega) (by omega), kr 40 (by omega), kr 41 (by omega), kr 54 (by omega)]; exact x5
  · refine ⟨by rw [k0 27 (by omega)]; exact w1, ?_, ?_, by rw [k0 40 (by omega)]; exact w4⟩
    · rw [k1 21 (by omega) (by omega) (by omega) (by omega), k1 22 (by omega) (by omega) (by omega) (by omega)]; exact w2
    · rw [k1 24 (by omega) (by omega) (by omega) (by omega)]; exact w3
  · refine ⟨by rw [k10]; omega, by rw [k1 10 (by omega) (by omega) (by omega) (by omega)]; exact y2, by rw [k1 14 (by omega) (by omega) (by omega) (by omega)]; exact y3, ?_, ?_⟩
    · rw [k0 42 (by omega), ek]; exact y4
    · exact fun q j h1 h2 h3 => by rw [k1 q (by omega) (by omega) (by omega) (by omega)]; exact y5 q j h1 h2 h3
theorem R_begin (hM : OKM M h) (B : BR sg) : m12_read M (mK M (s3 sg 0 20 0) h) = m12_read_p21 FU M (iI 0) (mK M (rSt sg (sg 13) (-1) 0 [] []) h) := by
  have n10 := B.n
  have e10 : s3 (s3 (s3 (s3 sg 0 20 0) 0 15 (-1)) 0 13 0) 0 19 0 0 10 = sg 0 10 := by simp (disch := omega) only [s3_nj]
  have e13 : s3 (s3 (s3 (s3 sg 0 20 0) 0 15 (-1)) 0 13 0) 0 19 0 0 13 = 0 := by simp (disch := omega) only [s3_nj, s3_at]
  have eo : ∀ q, q ≠ 0 → s3 (s3 (s3 (s3 sg 0 20 0) 0 15 (-1)) 0 13 0) 0 19 0 q = sg q := fun q q0 => by rw [s3_o (by omega), s3_o (by omega), s3_o (by omega), s3_o (by omega)]
  have g0 : okG (s3 (s3 (s3 (s3 sg 0 20 0) 0 15 (-1)) 0 13 0) 0 19 0) := (((B.1.s ⟨by omega, by omega⟩).s ⟨by omega, by omega⟩).s ⟨by omega, by omega⟩).s ⟨by omega, by omega⟩
  have T0 : TY (s3 (s3 (s3 (s3 sg 0 20 0) 0 15 (-1)) 0 13 0) 0 19 0) := by
    unfold TY
    rw [e10, eo 10 (by omega), eo 14 (by omega)]
    exact B.2
  have adv := B_advance (h := h) hM g0 T0 (by omega) (by omega)
  rw [e10, e13, eo 10 (by omega)] at adv
  have eS : sAt (s3 (s3 (s3 (s3 sg 0 20 0) 0 15 (-1)) 0 13 0) 0 19 0) (sk (sg 10) (sg 0 10) 0) = rSt sg (sg 13) (-1) 0 [] [] := by
    funext q j
    unfold sAt rSt
    rw [PL_0 (sg 10) n10.1, e10, eo 10 (by omega)]
    by_cases q0 : q = 0
    · rw [if_pos q0, if_pos q0]
      by_cases c1 : j = 11
      · rw [if_pos c1, if_pos c1]
      · by_cases c2 : j = 12
        · rw [if_neg c1, if_pos c2, if_neg c1, if_pos c2]
        · by_cases c3 : j = 13
          · rw [if_neg c1, if_neg c2, if_pos c3, if_neg c1, if_neg c2, if_pos c3]
          · by_cases c4 : j = 14
            · rw [if_neg c1, if_neg c2, if_neg c3, if_pos c4, if_neg c1, if_neg c2, if_neg c3, if_pos c4]
            · rw [if_neg c1, if_neg c2, if_neg c3, if_neg c4, if_neg c1, if_neg c2, if_neg c3, if_neg c4]
              by_cases c5 : j = 19
              · rw [c5, s3_at, if_neg (by omega), if_pos rfl]; rfl
              · rw [s3_nj c5, s3_nj c3]
                by_cases c6 : j = 15
                · rw [c6, s3_at, if_pos rfl]
                · rw [s3_nj c6, if_neg c6, if_neg c5]
                  by_cases c7 : j = 20
                  · rw [c7, s3_at, if_pos rfl]; rfl
                  · rw [s3_nj c7, if_neg c7]
    · rw [if_neg q0, if_neg q0, eo q q0]
      have e0 : (([] : List Int).length : Int) = 0 := rfl
      rw [e0, if_neg (show ¬ (0 ≤ j ∧ j < 0) by omega)]
      by_cases c1 : q = 12
      · rw [if_pos c1, c1]
      · rw [if_neg c1]
        by_cases c2 : q = 13
        · rw [if_pos c2, if_neg (by omega), c2]
        · rw [if_neg c2]
  rw [eS] at adv
  unfold m12_read
  simp (config := { maxSteps := 1000000 }) (disch := first | assumption | exact W.i _ _ | exact sLine_i W _ _ _ | exact W1.i _ _ | exact hg _ _ | exact W3.i _ _ | (refine ⟨?_, ?_⟩ <;> omega) | omega | (simp only [sW_1, sW_2, sW_3, sW_4, sW_5, sW_8] <;> first | assumption | omega | (refine ⟨?_, ?_⟩ <;> omega)) | (simp only [sT_1, sT_2, sT_3, sT_4, sT_5, sT_8] <;> first | assumption | omega | (refine ⟨?_, ?_⟩ <;> omega)) | (simp only [List.length_append, List.length_cons, List.length_nil, Nat.reduceAdd] <;> omega)) only [Int.reduceEq, Int.reduceLT, Int.reduceLE, Int.reduceNeg, Int.reduceAdd, Int.reduceSub, Int.reduceMul, if_true, if_false, not_true, not_false_eq_true, false_or, or_false, true_or, or_true, true_and, and_true, false_and, and_false, iI_on, iI_mul, iI_add, iI_sub, iI_neg, ap_if, mp_eq, mz_0, mz_1, mz_b, b2_0, b2_1, iI_lt, iI_le, iI_inj, mb_div, mb_rem, hM.m, hM.a1, hM.a2, hM.a3, hM.a4, hM.a5, hM.a6, hM.a7, hM.a8, hM.a9, hM.a10, hM.a11, hM.a12, hM.a13, hM.a14, hM.a15, hM.a16, hM.a17, hM.a18, hM.a19, hM.a20, hM.a21, hM.a22, hM.a23, hM.a24, hM.a25, hM.a26, hM.a27, hM.a28, hM.l1, hM.l2, hM.l3, hM.l4, hM.l5, hM.l6, hM.l7, hM.l8, hM.l9, hM.l10, hM.l11, hM.l12, hM.l13, hM.l14, hM.l15, hM.l16, hM.l17, hM.l18, hM.l19, hM.l20, hM.l21, hM.l22, hM.l23, hM.l24, hM.l25, hM.l26, hM.l27, hM.l28, hM.c10, hM.c11, hM.c12, hM.c13, hM.c14, hM.c15, hM.c19, hM.c20, hM.c23, hM.c27, hM.c36, hM.c37, hM.c38, hM.c40, hM.c41, hM.c42, hM.c44, hM.w1, hM.w2, hM.w3, hM.w4, hM.w5, hM.w6, hM.w7, hM.w8, hM.w9, hM.w10, hM.w11, hM.w12, hM.w13, hM.w14, hM.w15, hM.w16, hM.w17, hM.w18, hM.w19, hM.w20, hM.w21, hM.w22, hM.w23, hM.w24, hM.w25, hM.w26, hM.w27, hM.w28, hM.p10, hM.p11, hM.p12, hM.p13, hM.p14, hM.p15, hM.p19, hM.p20, hM.p23, hM.p27, hM.p36, hM.p37, hM.p38, hM.p40, hM.p41, hM.p42, hM.p44, s3_at, s3_nk, s3_nj, mb_eq adv]
theorem R_good_ {Z : Nat → Int → Int} {f : Int} (hM : OKM M h) (e : Z 0 15 = f) (i0 : i32 f) : m12_isGood M (mK M Z h) = some (iI (b2 (f < 0)), mK M Z h) := by
  unfold m12_isGood m12_isGood_p12
  by_cases c : 0 ≤ f
  · rw [b2_f (by omega)]
    simp (config := { maxSteps := 1000000 }) (disch := first | assumption | exact W.i _ _ | exact sLine_i W _ _ _ | exact W1.i _ _ | exact hg _ _ | exact W3.i _ _ | (refine ⟨?_, ?_⟩ <;> omega) | omega | (simp only [sW_1, sW_2, sW_3, sW_4, sW_5, sW_8] <;> first | assumption | omega | (refine ⟨?_, ?_⟩ <;> omega)) | (simp only [sT_1, sT_2, sT_3, sT_4, sT_5, sT_8] <;> first | assumption | omega | (refine ⟨?_, ?_⟩ <;> omega)) | (simp only [List.length_append, List.length_cons, List.length_nil, Nat.reduceAdd] <;> omega)) only [Int.reduceEq, Int.reduceLT, Int.reduceLE, Int.reduceNeg, Int.reduceAdd, Int.reduceSub, Int.reduceMul, if_true, if_false, not_true, not_false_eq_true, false_or, or_false, true_or, or_true, true_and, and_true, false_and, and_false, iI_on, iI_mul, iI_add, iI_sub, iI_neg, ap_if, mp_eq, mz_0, mz_1, mz_b, b2_0, b2_1, iI_lt, iI_le, iI_inj, mb_div, mb_rem, hM.m, hM.a1, hM.a2, hM.a3, hM.a4, hM.a5, hM.a6, hM.a7, hM.a8, hM.a9, hM.a10, hM.a11, hM.a12, hM.a13, hM.a14, hM.a15, hM.a16, hM.a17, hM.a18, hM.a19, hM.a20, hM.a21, hM.a22, hM.a23, hM.a24, hM.a25, hM.a26, hM.a27, hM.a28, hM.l1, hM.l2, hM.l3, hM.l4, hM.l5, hM.l6, hM.l7, hM.l8, hM.l9, hM.l10, hM.l11, hM.l12, hM.l13, hM.l14, hM.l15, hM.l16, hM.l17, hM.l18, hM.l19, hM.l20, hM.l21, hM.l22, hM.l23, hM.l24, hM.l25, hM.l26, hM.l27, hM.l28, hM.c10, hM.c11, hM.c12, hM.c13, hM.c14, hM.c15, hM.c19, hM.c20, hM.c23, hM.c27, hM.c36, hM.c37, hM.c38, hM.c40, hM.c41, hM.c42, hM.c44, hM.w1, hM.w2, hM.w3, hM.w4, hM.w5, hM.w6, hM.w7, hM.w8, hM.w9, hM.w10, hM.w11, hM.w12, hM.w13, hM.w14, hM.w15, hM.w16, hM.w17, hM.w18, hM.w19, hM.w20, hM.w21, hM.w22, hM.w23, hM.w24, hM.w25, hM.w26, hM.w27, hM.w28, hM.p10, hM.p11, hM.p12, hM.p13, hM.p14, hM.p15, hM.p19, hM.p20, hM.p23, hM.p27, hM.p36, hM.p37, hM.p38, hM.p40, hM.p41, hM.p42, hM.p44, s3_at, s3_nk, s3_nj, e, hM.sc 15, c]
  · rw [b2_t (by omega)]
    simp (config := { maxSteps := 1000000 }) (disch := first | assumption | exact W.i _ _ | exact sLine_i W _ _ _ | exact W1.i _ _ | exact hg _ _ | exact W3.i _ _ | (refine ⟨?_, ?_⟩ <;> omega) | omega | (simp only [sW_1, sW_2, sW_3, sW_4, sW_5, sW_8] <;> first | assumption | omega | (refine ⟨?_, ?_⟩ <;> omega)) | (simp only [sT_1, sT_2, sT_3, sT_4, sT_5, sT_8] <;> first | assumption | omega | (refine ⟨?_, ?_⟩ <;> omega)) | (simp only [List.length_append, List.length_cons, List.length_nil, Nat.reduceAdd] <;> omega)) only [Int.reduceEq, Int.reduceLT, Int.reduceLE, Int.reduceNeg, Int.reduceAdd, Int.reduceSub, Int.reduceMul, if_true, if_false, not_true, not_false_eq_true, false_or, or_false, true_or, or_true, true_and, and_true, false_and, and_false, iI_on, iI_mul, iI_add, iI_sub, iI_neg, ap_if, mp_eq, mz_0, mz_1, mz_b, b2_0, b2_1, iI_lt, iI_le, iI_inj, mb_div, mb_rem, hM.m, hM.a1, hM.a2, hM.a3, hM.a4, hM.a5, hM.a6, hM.a7, hM.a8, hM.a9, hM.a10, hM.a11, hM.a12, hM.a13, hM.a14, hM.a15, hM.a16, hM.a17, hM.a18, hM.a19, hM.a20, hM.a21, hM.a22, hM.a23, hM.a24, hM.a25, hM.a26, hM.a27, hM.a28, hM.l1, hM.l2, hM.l3, hM.l4, hM.l5, hM.l6, hM.l7, hM.l8, hM.l9, hM.l10, hM.l11, hM.l12, hM.l13, hM.l14, hM.l15, hM.l16, hM.l17, hM.l18, hM.l19, hM.l20, hM.l21, hM.l22, hM.l23, hM.l24, hM.l25, hM.l26, hM.l27, hM.l28, hM.c10, hM.c11, hM.c12, hM.c13, hM.c14, hM.c15, hM.c19, hM.c20, hM.c23, hM.c27, hM.c36, hM.c37, hM.c38, hM.c40, hM.c41, hM.c42, hM.c44, hM.w1, hM.w2, hM.w3, hM.w4, hM.w5, hM.w6, hM.w7, hM.w8, hM.w9, hM.w10, hM.w11, hM.w12, hM.w13, hM.w14, hM.w15, hM.w16, hM.w17, hM.w18, hM.w19, hM.w20, hM.w21, hM.w22, hM.w23, hM.w24, hM.w25, hM.w26, hM.w27, hM.w28, hM.p10, hM.p11, hM.p12, hM.p13, hM.p14, hM.p15, hM.p19, hM.p20, hM.p23, hM.p27, hM.p36, hM.p37, hM.p38, hM.p40, hM.p41, hM.p42, hM.p44, s3_at, s3_nk, s3_nj, e, hM.sc 15, c]
theorem R_p46bad {Z : Nat → Int → Int} {f l : Int} (hM : OKM M h) (e : Z 0 15 = f) (hf : 0 ≤ f ∧ f ≤ 1000) : m12_read_p46 M (iI l) (mK M Z h) = some (iI (-100 - f), mK M (s3 Z 0 10 0) h) := by
  have e' : s3 Z 0 10 0 0 15 = f := (s3_nj (by omega)).trans e
  have hq := R_good_ hM e' ⟨by omega, by omega⟩
  rw [b2_f (by omega)] at hq
  unfold m12_read_p46
  simp (config := { maxSteps := 1000000 }) (disch := first | assumption | exact W.i _ _ | exact sLine_i W _ _ _ | exact W1.i _ _ | exact hg _ _ | exact W3.i _ _ | (refine ⟨?_, ?_⟩ <;> omega) | omega | (simp only [sW_1, sW_2, sW_3, sW_4, sW_5, sW_8] <;> first | assumption | omega | (refine ⟨?_, ?_⟩ <;> omega)) | (simp only [sT_1, sT_2, sT_3, sT_4, sT_5, sT_8] <;> first | assumption | omega | (refine ⟨?_, ?_⟩ <;> omega)) | (simp only [List.length_append, List.length_cons, List.length_nil, Nat.reduceAdd] <;> omega)) only [Int.reduceEq, Int.reduceLT, Int.reduceLE, Int.reduceNeg, Int.reduceAdd, Int.reduceSub, Int.reduceMul, if_true, if_false, not_true, not_false_eq_true, false_or, or_false, true_or, or_true, true_and, and_true, false_and, and_false, iI_on, iI_mul, iI_add, iI_sub, iI_neg, ap_if, mp_eq, mz_0, mz_1, mz_b, b2_0, b2_1, iI_lt, iI_le, iI_inj, mb_div, mb_rem, hM.m, hM.a1, hM.a2, hM.a3, hM.a4, hM.a5, hM.a6, hM.a7, hM.a8, hM.a9, hM.a10, hM.a11, hM.a12, hM.a13, hM.a14, hM.a15, hM.a16, hM.a17, hM.a18, hM.a19, hM.a20, hM.a21, hM.a22, hM.a23, hM.a24, hM.a25, hM.a26, hM.a27, hM.a28, hM.l1, hM.l2, hM.l3, hM.l4, hM.l5, hM.l6, hM.l7, hM.l8, hM.l9, hM.l10, hM.l11, hM.l12, hM.l13, hM.l14, hM.l15, hM.l16, hM.l17, hM.l18, hM.l19, hM.l20, hM.l21, hM.l22, hM.l23, hM.l24, hM.l25, hM.l26, hM.l27, hM.l28, hM.c10, hM.c11, hM.c12, hM.c13, hM.c14, hM.c15, hM.c19, hM.c20, hM.c23, hM.c27, hM.c36, hM.c37, hM.c38, hM.c40, hM.c41, hM.c42, hM.c44, hM.w1, hM.w2, hM.w3, hM.w4, hM.w5, hM.w6, hM.w7, hM.w8, hM.w9, hM.w10, hM.w11, hM.w12, hM.w13, hM.w14, hM.w15, hM.w16, hM.w17, hM.w18, hM.w19, hM.w20, hM.w21, hM.w22, hM.w23, hM.w24, hM.w25, hM.w26, hM.w27, hM.w28, hM.p10, hM.p11, hM.p12, hM.p13, hM.p14, hM.p15, hM.p19, hM.p20, hM.p23, hM.p27, hM.p36, hM.p37, hM.p38, hM.p40, hM.p41, hM.p42, hM.p44, s3_at, s3_nk, s3_nj, mb_eq hq, e', e, hM.sc 15]
theorem R_p46full {Z : Nat → Int → Int} {l : Int} (hM : OKM M h) (e : Z 0 15 = -1) (e1 : Z 1 4 = 6) : m12_read_p46 M (iI l) (mK M Z h) = some (iI (-2), mK M (s3 Z 0 10 0) h) := by
  have e' : s3 Z 0 10 0 0 15 = -1 := (s3_nj (by omega)).trans e
  have hq := R_good_ hM e' ⟨by omega, by omega⟩
  rw [b2_t (by omega)] at hq
  unfold m12_read_p46
  simp (config := { maxSteps := 1000000 }) (disch := first | assumption | exact W.i _ _ | exact sLine_i W _ _ _ | exact W1.i _ _ | exact hg _ _ | exact W3.i _ _ | (refine ⟨?_, ?_⟩ <;> omega) | omega | (simp only [sW_1, sW_2, sW_3, sW_4, sW_5, sW_8] <;> first | assumption | omega | (refine ⟨?_, ?_⟩ <;> omega)) | (simp only [sT_1, sT_2, sT_3, sT_4, sT_5, sT_8] <;> first | assumption | omega | (refine ⟨?_, ?_⟩ <;> omega)) | (simp only [List.length_append, List.length_cons, List.length_nil, Nat.reduceAdd] <;> omega)) only [Int.reduceEq, Int.reduceLT, Int.reduceLE, Int.reduceNeg, Int.reduceAdd, Int.reduceSub, Int.reduceMul, if_true, if_false, not_true, not_false_eq_true, false_or, or_false, true_or, or_true, true_and, and_true, false_and, and_false, iI_on, iI_mul, iI_add, iI_sub, iI_neg, ap_if, mp_eq, mz_0, mz_1, mz_b, b2_0, b2_1, iI_lt, iI_le, iI_inj, mb_div, mb_rem, hM.m, hM.a1, hM.a2, hM.a3, hM.a4, hM.a5, hM.a6, hM.a7, hM.a8, hM.a9, hM.a10, hM.a11, hM.a12, hM.a13, hM.a14, hM.a15, hM.a16, hM.a17, hM.a18, hM.a19, hM.a20, hM.a21, hM.a22, hM.a23, hM.a24, hM.a25, hM.a26, hM.a27, hM.a28, hM.l1, hM.l2, hM.l3, hM.l4, hM.l5, hM.l6, hM.l7, hM.l8, hM.l9, hM.l10, hM.l11, hM.l12, hM.l13, hM.l14, hM.l15, hM.l16, hM.l17, hM.l18, hM.l19, hM.l20, hM.l21, hM.l22, hM.l23, hM.l24, hM.l25, hM.l26, hM.l27, hM.l28, hM.c10, hM.c11, hM.c12, hM.c13, hM.c14, hM.c15, hM.c19, hM.c20, hM.c23, hM.c27, hM.c36, hM.c37, hM.c38, hM.c40, hM.c41, hM.c42, hM.c44, hM.w1, hM.w2, hM.w3, hM.w4, hM.w5, hM.w6, hM.w7, hM.w8, hM.w9, hM.w10, hM.w11, hM.w12, hM.w13, hM.w14, hM.w15, hM.w16, hM.w17, hM.w18, hM.w19, hM.w20, hM.w21, hM.w22, hM.w23, hM.w24, hM.w25, hM.w26, hM.w27, hM.w28, hM.p10, hM.p11, hM.p12, hM.p13, hM.p14, hM.p15, hM.p19, hM.p20, hM.p23, hM.p27, hM.p36, hM.p37, hM.p38, hM.p40, hM.p41, hM.p42, hM.p44, s3_at, s3_nk, s3_nj, mb_eq hq, e1]
/-- the class reads the tape -/
theorem C_readText (I : Inv sg rho h) : ∃ b' C', m5_readText 29 (cK rho h) = some (iI (b2 ((tX (CD sg) 12 0).1 = true)), cK (rC b' (tX (CD sg) 12 0).2.1 C') h) ∧ okG (rC b' (tX (CD sg) 12 0).2.1 C') ∧ (∀ q, q < 29 ∨ 37 < q ∨ q = 35 → rC b' (tX (CD sg) 12 0).2.1 C' q = rho q) ∧ (∀ z, z ∈ C' → okCode z) ∧ (C'.length : Int) ≤ 250 ∧ m5_fault 29 (cK (rC b' (tX (CD sg) 12 0).2.1 C') h) = some (iI (pA0 sg (tX (CD sg) 12 0).2.1), cK (rC b' (tX (CD sg) 12 0).2.1 C') h) ∧ ((tX (CD sg) 12 0).1 = true → C' = lnC (CD sg) (tX (CD sg) 12 0).2.2 ∧ b' 29 1 = (tX (CD sg) 12 0).2.2.length ∧ LFcs (CD sg) b' (tX (CD sg) 12 0).2.2 0 0) := by
  have hC := I.1.1
  have hg := I.1.2.2.1
  obtain ⟨x1, x2, x3, x4, x5⟩ := I.1.2.2.2.2.2.2
  obtain ⟨y1, y2, y3, y4, y5⟩ := I.2.2.2.1
  have B : BR sg := ⟨I.2.1.i, y1, y2, y3⟩
  obtain ⟨r, e1, gr, r1, r2, r3, r4⟩ := C_cutTape (t := sg 10) (n := sg 0 10) hC ⟨y1, y2, x2.1, x2.2⟩ hg
  have pn := PN_b (sg 10) y1.1
  have CBb : CB (CD sg) (CT sg) (s3 r 29 1 0) := ⟨B.CN, (s3_nj (by omega)).trans r3, fun k h0 h1 => (s3_nk (by omega)).trans (r4 k h0 h1).1⟩
  have gb : okG (s3 r 29 1 0) := gr.s ⟨by omega, by omega⟩
  obtain ⟨b', C', t1, t2, t3, t4, t5⟩ := C_text (h := h) hC 12 FU (s3 r 29 1 0) 0 0 [] CBb gb (s3_at _ _ _ _) (Int.le_refl 0) rfl (Int.le_refl 0) (Int.le_refl 0) B.CN.1.1 (FU_lt (by omega))
  have tb := (tX_b B.CN 12 0 (Int.le_refl 0) B.CN.1.1).1
  have nN := B.CN.1
  have okz : ∀ z, z ∈ C' → okCode z := fun z hz => (t4.1 z hz).elim (fun q => by cases q) id
  have hl : (C'.length : Int) ≤ 250 := by have := t4.2; omega
  have e0 : s3 (s3 (s3 r 29 12 0) 29 1 0) 29 2 0 = rC (s3 r 29 1 0) 0 [] := by
    funext q j
    unfold rC
    have el : (([] : List Int).length : Int) = 0 := rfl
    rw [el]
    by_cases c1 : q = 29 ∧ j = 12
    · rw [if_pos c1, c1.1, c1.2, s3_nj (by omega), s3_nj (by omega), s3_at]
    · rw [if_neg c1]
      by_cases c2 : q = 29 ∧ j = 2
      · rw [if_pos c2, c2.1, c2.2, s3_at]
      · rw [if_neg c2, if_neg (by omega), s3_ne (by omega)]
        by_cases c3 : q = 29 ∧ j = 1
        · rw [c3.1, c3.2, s3_at, s3_at]
        · rw [s3_ne (by omega), s3_ne (by omega), s3_ne (by omega)]
  generalize tX (CD sg) 12 0 = X at *
  refine ⟨b', C', ?_, ?_, ?_, okz, hl, ?_, ?_⟩
  · rw [← t1, ← e0]
    unfold m5_readText
    simp (config := { maxSteps := 1000000 }) (disch := first | assumption | exact W.i _ _ | exact sLine_i W _ _ _ | exact W1.i _ _ | exact hg _ _ | exact W3.i _ _ | (refine ⟨?_, ?_⟩ <;> omega) | omega | (simp only [sW_1, sW_2, sW_3, sW_4, sW_5, sW_8] <;> first | assumption | omega | (refine ⟨?_, ?_⟩ <;> omega)) | (simp only [sT_1, sT_2, sT_3, sT_4, sT_5, sT_8] <;> first | assumption | omega | (refine ⟨?_, ?_⟩ <;> omega)) | (simp only [List.length_append, List.length_cons, List.length_nil, Nat.reduceAdd] <;> omega)) only [Int.reduceEq, Int.reduceLT, Int.reduceLE, Int.reduceNeg, Int.reduceAdd, Int.reduceSub, Int.reduceMul, if_true, if_false, not_true, not_false_eq_true, false_or, or_false, true_or, or_true, true_and, and_true, false_and, and_false, iI_on, iI_mul, iI_add, iI_sub, iI_neg, ap_if, mp_eq, mz_0, mz_1, mz_b, b2_0, b2_1, iI_lt, iI_le, iI_inj, mb_div, mb_rem, hC.m0, hC.m1, hC.m13, hC.m15, hC.m27, hC.m29, hC.m38, hC.m40, hC.g0_0, hC.g0_1, hC.g0_3, hC.g0_4, hC.g0_5, hC.g0_6, hC.g0_7, hC.g0_8, hC.g0_9, hC.g0_10, hC.g0_11, hC.g0_12, hC.g0_13, hC.g0_14, hC.g1_2, hC.g1_3, hC.g1_5, hC.g1_7, hC.g1_9, hC.g1_11, hC.g1_12, hC.g1_14, hC.g1_15, hC.g1_16, hC.g1_17, hC.g1_18, hC.g13_0, hC.g15_2, hC.g15_3, hC.g15_5, hC.g15_7, hC.g15_9, hC.g15_11, hC.g15_12, hC.g15_14, hC.g15_15, hC.g15_16, hC.g15_17, hC.g15_18, hC.g27_0, hC.g29_3, hC.g29_4, hC.g29_5, hC.g29_6, hC.g29_7, hC.g29_8, hC.g29_9, hC.g29_10, hC.g38_0, hC.g40_0, hC.s0_2, hC.s1_0, hC.s1_1, hC.s1_4, hC.s1_6, hC.s1_8, hC.s1_10, hC.s1_13, hC.s13_1, hC.s15_0, hC.s15_1, hC.s15_4, hC.s15_6, hC.s15_8, hC.s15_10, hC.s15_13, hC.s27_1, hC.s29_0, hC.s29_1, hC.s29_2, hC.s29_11, hC.s29_12, hC.s38_1, hC.s40_1, hC.s40_2, hC.l2, hC.l3, hC.l8, hC.l9, hC.l10, hC.l11, hC.l12, hC.l14, hC.l16, hC.l17, hC.l22, hC.l23, hC.l24, hC.l25, hC.l26, hC.l28, hC.l30, hC.l31, hC.l32, hC.l33, hC.l34, hC.l36, hC.l37, hC.l39, hC.l41, hC.l43, hC.l44, hC.l45, hC.l46, hC.l47, hC.l48, hC.l49, hC.l50, hC.l51, hC.l52, hC.l53, hC.l54, hC.l35, hC.n33, hC.n36, hC.p0_2, hC.p1_0, hC.p1_1, hC.p1_4, hC.p1_6, hC.p1_8, hC.p1_10, hC.p1_13, hC.p13_1, hC.p15_0, hC.p15_1, hC.p15_4, hC.p15_6, hC.p15_8, hC.p15_10, hC.p15_13, hC.p27_1, hC.p29_0, hC.p29_1, hC.p29_2, hC.p29_11, hC.p29_12, hC.p38_1, hC.p40_1, hC.p40_2, hC.w2, hC.w3, hC.w8, hC.w9, hC.w10, hC.w11, hC.w12, hC.w14, hC.w16, hC.w17, hC.w22, hC.w23, hC.w24, hC.w25, hC.w26, hC.w28, hC.w30, hC.w31, hC.w32, hC.w33, hC.w34, hC.w36, hC.w37, hC.w39, hC.w41, hC.w43, hC.w44, hC.w45, hC.w46, hC.w47, hC.w48, hC.w49, hC.w50, hC.w51, hC.w52, hC.w53, hC.w54, s3_at, s3_nk, s3_nj, mb_eq e1]
  · intro q j
    unfold rC
    split
    · exact ⟨by omega, by omega⟩
    · split
      · exact ⟨by omega, by omega⟩
      · split
        · refine getD_i (fun z hz => ?_) _
          have := okz z hz
          unfold okCode at this
          exact ⟨by omega, by omega⟩
        · exact t2 q j
  · intro q hq
    funext j
    rw [rC_o (by omega) (by omega), t3.1 q (by omega) (by omega) (by omega) (by omega) (by omega), s3_o (by omega), r1 q (by omega) (by omega) (by omega)]
  · have f1 : rC b' X.2.1 C' 29 11 = CT sg + 1 := (rC_o (by omega) (by omega)).trans ((t3.2.1 11 (by omega)).trans ((s3_nj (by omega)).trans r3))
    have f2 : rC b' X.2.1 C' 37 X.2.1 = pA0 sg X.2.1 := (rC_o (by omega) (by omega)).trans ((congrFun (t3.1 37 (by omega) (by omega) (by omega) (by omega) (by omega)) _).trans ((s3_nk (by omega)).trans (r4 _ tb.1 tb.2).2))
    have f3 := rC_12 (b := b') (k := X.2.1) (C := C')
    have pb := B.a tb.1
    unfold m5_fault m5_fault_p27
    simp (config := { maxSteps := 1000000 }) (disch := first | assumption | exact W.i _ _ | exact sLine_i W _ _ _ | exact W1.i _ _ | exact hg _ _ | exact W3.i _ _ | (refine ⟨?_, ?_⟩ <;> omega) | omega | (simp only [sW_1, sW_2, sW_3, sW_4, sW_5, sW_8] <;> first | assumption | omega | (refine ⟨?_, ?_⟩ <;> omega)) | (simp only [sT_1, sT_2, sT_3, sT_4, sT_5, sT_8] <;> first | assumption | omega | (refine ⟨?_, ?_⟩ <;> omega)) | (simp only [List.length_append, List.length_cons, List.length_nil, Nat.reduceAdd] <;> omega)) only [Int.reduceEq, Int.reduceLT, Int.reduceLE, Int.reduceNeg, Int.reduceAdd, Int.reduceSub, Int.reduceMul, if_true, if_false, not_true, not_false_eq_true, false_or, or_false, true_or, or_true, true_and, and_true, false_and, and_false, iI_on, iI_mul, iI_add, iI_sub, iI_neg, ap_if, mp_eq, mz_0, mz_1, mz_b, b2_0, b2_1, iI_lt, iI_le, iI_inj, mb_div, mb_rem, hC.m0, hC.m1, hC.m13, hC.m15, hC.m27, hC.m29, hC.m38, hC.m40, hC.g0_0, hC.g0_1, hC.g0_3, hC.g0_4, hC.g0_5, hC.g0_6, hC.g0_7, hC.g0_8, hC.g0_9, hC.g0_10, hC.g0_11, hC.g0_12, hC.g0_13, hC.g0_14, hC.g1_2, hC.g1_3, hC.g1_5, hC.g1_7, hC.g1_9, hC.g1_11, hC.g1_12, hC.g1_14, hC.g1_15, hC.g1_16, hC.g1_17, hC.g1_18, hC.g13_0, hC.g15_2, hC.g15_3, hC.g15_5, hC.g15_7, hC.g15_9, hC.g15_11, hC.g15_12, hC.g15_14, hC.g15_15, hC.g15_16, hC.g15_17, hC.g15_18, hC.g27_0, hC.g29_3, hC.g29_4, hC.g29_5, hC.g29_6, hC.g29_7, hC.g29_8, hC.g29_9, hC.g29_10, hC.g38_0, hC.g40_0, hC.s0_2, hC.s1_0, hC.s1_1, hC.s1_4, hC.s1_6, hC.s1_8, hC.s1_10, hC.s1_13, hC.s13_1, hC.s15_0, hC.s15_1, hC.s15_4, hC.s15_6, hC.s15_8, hC.s15_10, hC.s15_13, hC.s27_1, hC.s29_0, hC.s29_1, hC.s29_2, hC.s29_11, hC.s29_12, hC.s38_1, hC.s40_1, hC.s40_2, hC.l2, hC.l3, hC.l8, hC.l9, hC.l10, hC.l11, hC.l12, hC.l14, hC.l16, hC.l17, hC.l22, hC.l23, hC.l24, hC.l25, hC.l26, hC.l28, hC.l30, hC.l31, hC.l32, hC.l33, hC.l34, hC.l36, hC.l37, hC.l39, hC.l41, hC.l43, hC.l44, hC.l45, hC.l46, hC.l47, hC.l48, hC.l49, hC.l50, hC.l51, hC.l52, hC.l53, hC.l54, hC.l35, hC.n33, hC.n36, hC.p0_2, hC.p1_0, hC.p1_1, hC.p1_4, hC.p1_6, hC.p1_8, hC.p1_10, hC.p1_13, hC.p13_1, hC.p15_0, hC.p15_1, hC.p15_4, hC.p15_6, hC.p15_8, hC.p15_10, hC.p15_13, hC.p27_1, hC.p29_0, hC.p29_1, hC.p29_2, hC.p29_11, hC.p29_12, hC.p38_1, hC.p40_1, hC.p40_2, hC.w2, hC.w3, hC.w8, hC.w9, hC.w10, hC.w11, hC.w12, hC.w14, hC.w16, hC.w17, hC.w22, hC.w23, hC.w24, hC.w25, hC.w26, hC.w28, hC.w30, hC.w31, hC.w32, hC.w33, hC.w34, hC.w36, hC.w37, hC.w39, hC.w41, hC.w43, hC.w44, hC.w45, hC.w46, hC.w47, hC.w48, hC.w49, hC.w50, hC.w51, hC.w52, hC.w53, hC.w54, s3_at, s3_nk, s3_nj, f1, f2, f3, show ¬ CT sg + 1 ≤ X.2.1 by omega]
  · intro c
    obtain ⟨a1, a2, a3⟩ := t5 c
    exact ⟨a1, a2.trans (by omega), a3⟩
/-- what the reference comes to -/
theorem R_readText (I : Inv sg rho h) {H : gH} (hM : OKM 55 H) : ∃ Z l', m12_read 55 (mK 55 (s3 sg 0 20 0) H) = m12_read_p46 55 (iI l') (mK 55 Z H) ∧ okG Z ∧ (∀ q, q ≠ 0 → q ≠ 11 → q ≠ 12 → q ≠ 13 → Z q = sg q) ∧ (∀ j, j < 10 ∨ 20 < j → Z 0 j = sg 0 j) ∧ ((tX (CD sg) 12 0).1 = false → Z 0 15 = pA0 sg (tX (CD sg) 12 0).2.1) ∧ ((tX (CD sg) 12 0).1 = true → Z 0 15 = -1 ∧ Z 0 19 = (lnS (CD sg) (tX (CD sg) 12 0).2.2).length ∧ (∀ j : Int, 0 ≤ j → j < ((lnS (CD sg) (tX (CD sg) 12 0).2.2).length : Int) → Z 12 j = (lnS (CD sg) (tX (CD sg) 12 0).2.2).getD j.toNat 0) ∧ ((lnS (CD sg) (tX (CD sg) 12 0).2.2).length : Int) ≤ 255 ∧ l' = (tX (CD sg) 12 0).2.2.length ∧ LFs (CD sg) (Z 11) (tX (CD sg) 12 0).2.2 0 0) := by
  obtain ⟨y1, y2, y3, y4, y5⟩ := I.2.2.2.1
  have B : BR sg := ⟨I.2.1.i, y1, y2, y3⟩
  have nN := B.CN.1
  have Q : QR (sg 13) (-1) 0 [] [] := ⟨I.2.1.i 13, ⟨by omega, by omega⟩, fun z hz => (by cases hz), fun z hz => (by cases hz), Int.le_refl 0, by decide⟩
  obtain ⟨b', g', f', k', S', w', l', r1, r2, r3, r4, r5, r6, r7⟩ := R_text (h := H) hM 12 FU sg (sg 13) 0 0 [] B Q (Int.le_refl 0) rfl (Int.le_refl 0) nN.1 (FU_lt (by omega))
  have B' : BR b' := ⟨r3, by
    unfold TY
    rw [r4 0 (by omega), r4 10 (by omega), r4 14 (by omega)]
    exact ⟨y1, y2, y3⟩⟩
  refine ⟨rSt b' g' f' k' S' w', l', (R_begin hM B).trans r1, rSt_ok B' r2, fun q q0 q1 q2 q3 => (rSt_o q0 q2 q3).trans (r4 q q1), fun j hj => (rSt_0 (by omega) (by omega) (by omega)).trans (by rw [r4 0 (by omega)]), fun c => rSt_15.trans (r6 c), fun c => ?_⟩
  obtain ⟨a1, a2, a3, a4⟩ := r7 c
  rw [List.nil_append] at a2
  have ql := r2.2.2.2.2.2
  subst a2
  refine ⟨rSt_15.trans a1, rSt_19, fun j j0 j1 => rSt_S j0 j1, by omega, a3.trans (by omega), ?_⟩
  rw [rSt_o (by omega) (by omega) (by omega)]
  exact a4
theorem T_readB (I : Inv sg rho h) (c : (tX (CD sg) 12 0).1 = false) : Both (m11_read 0) (m12_read 55) rho h := by
  have hC := I.1.1
  obtain ⟨y1, y2, y3, y4, y5⟩ := I.2.2.2.1
  have B : BR sg := ⟨I.2.1.i, y1, y2, y3⟩
  have nN := B.CN.1
  have tb := (tX_b B.CN 12 0 (Int.le_refl 0) nN.1).1
  have pb := B.a tb.1
  obtain ⟨b', C', e1, g1, k1, z1, z2, e2, _⟩ := C_readText I
  rw [b2_f (by rw [c]; simp)] at e1
  refine both_e (r := iI (-100 - pA0 sg (tX (CD sg) 12 0).2.1)) (rho' := s3 (rC b' (tX (CD sg) 12 0).2.1 C') 29 0 0) I ?_ (hG.rf h) (fun H hM => ?_)
  · generalize rC b' (tX (CD sg) 12 0).2.1 C' = r at *
    unfold m11_read
    simp (config := { maxSteps := 1000000 }) (disch := first | assumption | exact W.i _ _ | exact sLine_i W _ _ _ | exact W1.i _ _ | exact hg _ _ | exact W3.i _ _ | (refine ⟨?_, ?_⟩ <;> omega) | omega | (simp only [sW_1, sW_2, sW_3, sW_4, sW_5, sW_8] <;> first | assumption | omega | (refine ⟨?_, ?_⟩ <;> omega)) | (simp only [sT_1, sT_2, sT_3, sT_4, sT_5, sT_8] <;> first | assumption | omega | (refine ⟨?_, ?_⟩ <;> omega)) | (simp only [List.length_append, List.length_cons, List.length_nil, Nat.reduceAdd] <;> omega)) only [Int.reduceEq, Int.reduceLT, Int.reduceLE, Int.reduceNeg, Int.reduceAdd, Int.reduceSub, Int.reduceMul, if_true, if_false, not_true, not_false_eq_true, false_or, or_false, true_or, or_true, true_and, and_true, false_and, and_false, iI_on, iI_mul, iI_add, iI_sub, iI_neg, ap_if, mp_eq, mz_0, mz_1, mz_b, b2_0, b2_1, iI_lt, iI_le, iI_inj, mb_div, mb_rem, hC.m0, hC.m1, hC.m13, hC.m15, hC.m27, hC.m29, hC.m38, hC.m40, hC.g0_0, hC.g0_1, hC.g0_3, hC.g0_4, hC.g0_5, hC.g0_6, hC.g0_7, hC.g0_8, hC.g0_9, hC.g0_10, hC.g0_11, hC.g0_12, hC.g0_13, hC.g0_14, hC.g1_2, hC.g1_3, hC.g1_5, hC.g1_7, hC.g1_9, hC.g1_11, hC.g1_12, hC.g1_14, hC.g1_15, hC.g1_16, hC.g1_17, hC.g1_18, hC.g13_0, hC.g15_2, hC.g15_3, hC.g15_5, hC.g15_7, hC.g15_9, hC.g15_11, hC.g15_12, hC.g15_14, hC.g15_15, hC.g15_16, hC.g15_17, hC.g15_18, hC.g27_0, hC.g29_3, hC.g29_4, hC.g29_5, hC.g29_6, hC.g29_7, hC.g29_8, hC.g29_9, hC.g29_10, hC.g38_0, hC.g40_0, hC.s0_2, hC.s1_0, hC.s1_1, hC.s1_4, hC.s1_6, hC.s1_8, hC.s1_10, hC.s1_13, hC.s13_1, hC.s15_0, hC.s15_1, hC.s15_4, hC.s15_6, hC.s15_8, hC.s15_10, hC.s15_13, hC.s27_1, hC.s29_0, hC.s29_1, hC.s29_2, hC.s29_11, hC.s29_12, hC.s38_1, hC.s40_1, hC.s40_2, hC.l2, hC.l3, hC.l8, hC.l9, hC.l10, hC.l11, hC.l12, hC.l14, hC.l16, hC.l17, hC.l22, hC.l23, hC.l24, hC.l25, hC.l26, hC.l28, hC.l30, hC.l31, hC.l32, hC.l33, hC.l34, hC.l36, hC.l37, hC.l39, hC.l41, hC.l43, hC.l44, hC.l45, hC.l46, hC.l47, hC.l48, hC.l49, hC.l50, hC.l51, hC.l52, hC.l53, hC.l54, hC.l35, hC.n33, hC.n36, hC.p0_2, hC.p1_0, hC.p1_1, hC.p1_4, hC.p1_6, hC.p1_8, hC.p1_10, hC.p1_13, hC.p13_1, hC.p15_0, hC.p15_1, hC.p15_4, hC.p15_6, hC.p15_8, hC.p15_10, hC.p15_13, hC.p27_1, hC.p29_0, hC.p29_1, hC.p29_2, hC.p29_11, hC.p29_12, hC.p38_1, hC.p40_1, hC.p40_2, hC.w2, hC.w3, hC.w8, hC.w9, hC.w10, hC.w11, hC.w12, hC.w14, hC.w16, hC.w17, hC.w22, hC.w23, hC.w24, hC.w25, hC.w26, hC.w28, hC.w30, hC.w31, hC.w32, hC.w33, hC.w34, hC.w36, hC.w37, hC.w39, hC.w41, hC.w43, hC.w44, hC.w45, hC.w46, hC.w47, hC.w48, hC.w49, hC.w50, hC.w51, hC.w52, hC.w53, hC.w54, s3_at, s3_nk, s3_nj, mb_eq e1, mb_eq e2]
  · obtain ⟨Z, l', a1, a2, a3, a4, a5, _⟩ := R_readText I hM
    have key := a1.trans (R_p46bad hM (a5 c) ⟨by omega, by omega⟩)
    obtain ⟨Y', yy, e3⟩ := read_u hM key
    refine ⟨Y', read_inv I ?_ ?_ ?_ ?_ ?_ (s3_at _ _ _ _) (g1.s ⟨by omega, by omega⟩), e3⟩
    · intro q q0 q1 q2 q3
      rcases yy with rfl | rfl
      · exact (s3_o (by omega)).trans (a3 q q0 q1 q2 q3)
      · exact (s3_o (by omega)).trans ((s3_o (by omega)).trans (a3 q q0 q1 q2 q3))
    · rcases yy with rfl | rfl
      · exact s3_at _ _ _ _
      · exact (s3_nj (by omega)).trans (s3_at _ _ _ _)
    · intro j hj
      rcases yy with rfl | rfl
      · exact (s3_nj (by omega)).trans (a4 j hj)
      · exact (s3_nj (by omega)).trans ((s3_nj (by omega)).trans (a4 j hj))
    · rcases yy with rfl | rfl
      · exact a2.s ⟨by omega, by omega⟩
      · exact (a2.s ⟨by omega, by omega⟩).s (I.2.1.i _ _)
    · intro q hq
      by_cases c29 : q = 29
      · omega
      · exact (s3_o (by omega)).trans (k1 q hq)
theorem T_readF (I : Inv sg rho h) (c : (tX (CD sg) 12 0).1 = true) (c6 : sg 1 4 = 6) : Both (m11_read 0) (m12_read 55) rho h := by
  have hC := I.1.1
  obtain ⟨y1, y2, y3, y4, y5⟩ := I.2.2.2.1
  have B : BR sg := ⟨I.2.1.i, y1, y2, y3⟩
  have nN := B.CN.1
  have tb := (tX_b B.CN 12 0 (Int.le_refl 0) nN.1).1
  have pb := B.a tb.1
  obtain ⟨b', C', e1, g1, k1, z1, z2, e2, _⟩ := C_readText I
  rw [b2_t c] at e1
  have r8 : rC b' (tX (CD sg) 12 0).2.1 C' 1 8 = 6 := by
    rw [k1 1 (by omega), I.1.2.2.2.2.1.1.2.2.2.2.1, c6]
  refine both_e (r := iI (-2)) (rho' := s3 (rC b' (tX (CD sg) 12 0).2.1 C') 29 0 0) I ?_ (hG.rf h) (fun H hM => ?_)
  · generalize rC b' (tX (CD sg) 12 0).2.1 C' = r at *
    unfold m11_read
    simp (config := { maxSteps := 1000000 }) (disch := first | assumption | exact W.i _ _ | exact sLine_i W _ _ _ | exact W1.i _ _ | exact hg _ _ | exact W3.i _ _ | (refine ⟨?_, ?_⟩ <;> omega) | omega | (simp only [sW_1, sW_2, sW_3, sW_4, sW_5, sW_8] <;> first | assumption | omega | (refine ⟨?_, ?_⟩ <;> omega)) | (simp only [sT_1, sT_2, sT_3, sT_4, sT_5, sT_8] <;> first | assumption | omega | (refine ⟨?_, ?_⟩ <;> omega)) | (simp only [List.length_append, List.length_cons, List.length_nil, Nat.reduceAdd] <;> omega)) only [Int.reduceEq, Int.reduceLT, Int.reduceLE, Int.reduceNeg, Int.reduceAdd, Int.reduceSub, Int.reduceMul, if_true, if_false, not_true, not_false_eq_true, false_or, or_false, true_or, or_true, true_and, and_true, false_and, and_false, iI_on, iI_mul, iI_add, iI_sub, iI_neg, ap_if, mp_eq, mz_0, mz_1, mz_b, b2_0, b2_1, iI_lt, iI_le, iI_inj, mb_div, mb_rem, hC.m0, hC.m1, hC.m13, hC.m15, hC.m27, hC.m29, hC.m38, hC.m40, hC.g0_0, hC.g0_1, hC.g0_3, hC.g0_4, hC.g0_5, hC.g0_6, hC.g0_7, hC.g0_8, hC.g0_9, hC.g0_10, hC.g0_11, hC.g0_12, hC.g0_13, hC.g0_14, hC.g1_2, hC.g1_3, hC.g1_5, hC.g1_7, hC.g1_9, hC.g1_11, hC.g1_12, hC.g1_14, hC.g1_15, hC.g1_16, hC.g1_17, hC.g1_18, hC.g13_0, hC.g15_2, hC.g15_3, hC.g15_5, hC.g15_7, hC.g15_9, hC.g15_11, hC.g15_12, hC.g15_14, hC.g15_15, hC.g15_16, hC.g15_17, hC.g15_18, hC.g27_0, hC.g29_3, hC.g29_4, hC.g29_5, hC.g29_6, hC.g29_7, hC.g29_8, hC.g29_9, hC.g29_10, hC.g38_0, hC.g40_0, hC.s0_2, hC.s1_0, hC.s1_1, hC.s1_4, hC.s1_6, hC.s1_8, hC.s1_10, hC.s1_13, hC.s13_1, hC.s15_0, hC.s15_1, hC.s15_4, hC.s15_6, hC.s15_8, hC.s15_10, hC.s15_13, hC.s27_1, hC.s29_0, hC.s29_1, hC.s29_2, hC.s29_11, hC.s29_12, hC.s38_1, hC.s40_1, hC.s40_2, hC.l2, hC.l3, hC.l8, hC.l9, hC.l10, hC.l11, hC.l12, hC.l14, hC.l16, hC.l17, hC.l22, hC.l23, hC.l24, hC.l25, hC.l26, hC.l28, hC.l30, hC.l31, hC.l32, hC.l33, hC.l34, hC.l36, hC.l37, hC.l39, hC.l41, hC.l43, hC.l44, hC.l45, hC.l46, hC.l47, hC.l48, hC.l49, hC.l50, hC.l51, hC.l52, hC.l53, hC.l54, hC.l35, hC.n33, hC.n36, hC.p0_2, hC.p1_0, hC.p1_1, hC.p1_4, hC.p1_6, hC.p1_8, hC.p1_10, hC.p1_13, hC.p13_1, hC.p15_0, hC.p15_1, hC.p15_4, hC.p15_6, hC.p15_8, hC.p15_10, hC.p15_13, hC.p27_1, hC.p29_0, hC.p29_1, hC.p29_2, hC.p29_11, hC.p29_12, hC.p38_1, hC.p40_1, hC.p40_2, hC.w2, hC.w3, hC.w8, hC.w9, hC.w10, hC.w11, hC.w12, hC.w14, hC.w16, hC.w17, hC.w22, hC.w23, hC.w24, hC.w25, hC.w26, hC.w28, hC.w30, hC.w31, hC.w32, hC.w33, hC.w34, hC.w36, hC.w37, hC.w39, hC.w41, hC.w43, hC.w44, hC.w45, hC.w46, hC.w47, hC.w48, hC.w49, hC.w50, hC.w51, hC.w52, hC.w53, hC.w54, s3_at, s3_nk, s3_nj, mb_eq e1, mb_eq e2, r8]
  · obtain ⟨Z, l', a1, a2, a3, a4, _, a6⟩ := R_readText I hM
    have key := a1.trans (R_p46full hM (a6 c).1 (by rw [a3 1 (by omega) (by omega) (by omega) (by omega)]; exact c6))
    obtain ⟨Y', yy, e3⟩ := read_u hM key
    refine ⟨Y', read_inv I ?_ ?_ ?_ ?_ ?_ (s3_at _ _ _ _) (g1.s ⟨by omega, by omega⟩), e3⟩
    · intro q q0 q1 q2 q3
      rcases yy with rfl | rfl
      · exact (s3_o (by omega)).trans (a3 q q0 q1 q2 q3)
      · exact (s3_o (by omega)).trans ((s3_o (by omega)).trans (a3 q q0 q1 q2 q3))
    · rcases yy with rfl | rfl
      · exact s3_at _ _ _ _
      · exact (s3_nj (by omega)).trans (s3_at _ _ _ _)
    · intro j hj
      rcases yy with rfl | rfl
      · exact (s3_nj (by omega)).trans (a4 j hj)
      · exact (s3_nj (by omega)).trans ((s3_nj (by omega)).trans (a4 j hj))
    · rcases yy with rfl | rfl
      · exact a2.s ⟨by omega, by omega⟩
      · exact (a2.s ⟨by omega, by omega⟩).s (I.2.1.i _ _)
    · intro q hq
      by_cases c29 : q = 29
      · omega
      · exact (s3_o (by omega)).trans (k1 q hq)
end READ

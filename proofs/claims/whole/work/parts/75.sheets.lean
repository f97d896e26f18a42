/-! ===== a call on both: sheets ===== -/
/-- a stretch of a row is made 0 -/
def zR (sg : Nat → Int → Int) (k : Nat) (a n : Int) : Nat → Int → Int := fun k' j => if k' = k ∧ a ≤ j ∧ j < a + n then 0 else sg k' j
theorem zR_fo (k : Nat) (a : Int) : ∀ (m : Nat) (sg : Nat → Int → Int), fo (fun s i => s3 s k (a + i) 0) m sg 0 = zR sg k a m
  | 0, sg => by
    funext k' j
    show sg k' j = _
    unfold zR
    rw [if_neg (by omega)]
  | m + 1, sg => by
    rw [fo_succ, zR_fo k a m sg, Int.zero_add]
    funext k' j
    unfold s3 zR
    by_cases c : k' = k ∧ j = a + m
    · rw [if_pos c, if_pos (by omega)]
    · rw [if_neg c]
      by_cases c2 : k' = k ∧ a ≤ j ∧ j < a + m
      · rw [if_pos c2, if_pos (by omega)]
      · rw [if_neg c2, if_neg (by omega)]
theorem zR_o {sg : Nat → Int → Int} {k q : Nat} {a n : Int} (h : q ≠ k) : zR sg k a n q = sg q := by
  funext j
  unfold zR
  rw [if_neg (fun z => h z.1)]
def nar (s v : Int32) : Int32 := if s = 0 then Int8.toInt32 (Int32.toInt8 v) else if s = 1 then Int16.toInt32 (Int32.toInt16 v) else if s = 2 then v else if s = 3 then (if v = 0 then 0 else 1) else v
theorem B_narrowed (s v : Int32) (H : gH) : m12_narrowed s v H = some (nar s v, H) := by
  unfold m12_narrowed nar m12_narrowed_p47 m12_narrowed_p48
  (repeat' split) <;> rfl
theorem C_narrowed (s v : Int32) (H : gH) : m11_narrowed v s H = some (nar s v, H) := by
  unfold m11_narrowed nar m11_narrowed_p47 m11_narrowed_p48
  (repeat' split) <;> rfl
def sNar (s v : Int) : Int := (nar (iI s) (iI v)).toInt
theorem sNar_i (s v : Int) : nar (iI s) (iI v) = iI (sNar s v) := (iI_of _).symm
section SHEETS
variable {M : Nat} {sg rho : Nat → Int → Int} {h : gH}
theorem B_isShelf {s : Int} (hs : i32 s) (H : gH) : m12_isShelf (iI s) H = some (iI (b2 (0 ≤ s ∧ s ≤ 3)), H) := by
  unfold m12_isShelf
  simp (config := { maxSteps := 1000000 }) (disch := first | assumption | exact W.i _ _ | exact sLine_i W _ _ _ | exact W1.i _ _ | exact hg _ _ | exact W3.i _ _ | (refine ⟨?_, ?_⟩ <;> omega) | omega | (simp only [sW_1, sW_2, sW_3, sW_4, sW_5, sW_8] <;> first | assumption | omega | (refine ⟨?_, ?_⟩ <;> omega)) | (simp only [sT_1, sT_2, sT_3, sT_4, sT_5, sT_8] <;> first | assumption | omega | (refine ⟨?_, ?_⟩ <;> omega))) only [Int.reduceEq, Int.reduceLT, Int.reduceLE, Int.reduceNeg, Int.reduceAdd, Int.reduceSub, Int.reduceMul, if_true, if_false, not_true, not_false_eq_true, false_or, or_false, true_or, or_true, true_and, and_true, false_and, and_false, iI_on, iI_mul, iI_add, iI_sub, iI_neg, ap_if, mp_eq, mz_0, mz_1, mz_b, b2_0, b2_1, iI_lt, iI_le, iI_inj, mb_div, mb_rem, mb_eq (B_in _ _ _ _)]
theorem C_isSheet {s : Int} (hs : i32 s) (H : gH) : m11_isSheet (iI s) H = some (iI (b2 (0 ≤ s ∧ s ≤ 3)), H) := by
  unfold m11_isSheet m11_isSheet_p13
  (repeat' (first | simp (config := { maxSteps := 1000000 }) (disch := first | assumption | exact W.i _ _ | exact sLine_i W _ _ _ | exact W1.i _ _ | exact hg _ _ | exact W3.i _ _ | (refine ⟨?_, ?_⟩ <;> omega) | omega | (simp only [sW_1, sW_2, sW_3, sW_4, sW_5, sW_8] <;> first | assumption | omega | (refine ⟨?_, ?_⟩ <;> omega)) | (simp only [sT_1, sT_2, sT_3, sT_4, sT_5, sT_8] <;> first | assumption | omega | (refine ⟨?_, ?_⟩ <;> omega))) only [Int.reduceEq, Int.reduceLT, Int.reduceLE, Int.reduceNeg, Int.reduceAdd, Int.reduceSub, Int.reduceMul, if_true, if_false, not_true, not_false_eq_true, false_or, or_false, true_or, or_true, true_and, and_true, false_and, and_false, iI_on, iI_mul, iI_add, iI_sub, iI_neg, ap_if, mp_eq, mz_0, mz_1, mz_b, b2_0, b2_1, iI_lt, iI_le, iI_inj, mb_div, mb_rem, m11_isSheet_p14] | split)) <;> (first | with_reducible rfl | omega | rfl | (subst_vars; rfl) | (simp only [*, Int.add_zero]; done) | (rw [b2_t (by omega)]; done) | (rw [b2_f (by omega)]; done) | (rw [b2_f (by omega), Int.add_zero]))
theorem C_isSort {s : Int} (hs : i32 s) (H : gH) : m11_isSort (iI s) H = some (iI (b2 (0 ≤ s ∧ s ≤ 3)), H) := by
  unfold m11_isSort m11_isSort_p13
  (repeat' (first | simp (config := { maxSteps := 1000000 }) (disch := first | assumption | exact W.i _ _ | exact sLine_i W _ _ _ | exact W1.i _ _ | exact hg _ _ | exact W3.i _ _ | (refine ⟨?_, ?_⟩ <;> omega) | omega | (simp only [sW_1, sW_2, sW_3, sW_4, sW_5, sW_8] <;> first | assumption | omega | (refine ⟨?_, ?_⟩ <;> omega)) | (simp only [sT_1, sT_2, sT_3, sT_4, sT_5, sT_8] <;> first | assumption | omega | (refine ⟨?_, ?_⟩ <;> omega))) only [Int.reduceEq, Int.reduceLT, Int.reduceLE, Int.reduceNeg, Int.reduceAdd, Int.reduceSub, Int.reduceMul, if_true, if_false, not_true, not_false_eq_true, false_or, or_false, true_or, or_true, true_and, and_true, false_and, and_false, iI_on, iI_mul, iI_add, iI_sub, iI_neg, ap_if, mp_eq, mz_0, mz_1, mz_b, b2_0, b2_1, iI_lt, iI_le, iI_inj, mb_div, mb_rem, m11_isSort_p14] | split)) <;> (first | with_reducible rfl | omega | rfl | (subst_vars; rfl) | (simp only [*, Int.add_zero]; done) | (rw [b2_t (by omega)]; done) | (rw [b2_f (by omega)]; done) | (rw [b2_f (by omega), Int.add_zero]))
abbrev shOK (s so n : Int) : Prop := (0 ≤ s ∧ s ≤ 3) ∧ (-1 ≤ so ∧ so ≤ 3) ∧ (so < 0 ∨ n ≤ 40)
def oSheet (s so n : Int) : Int := if shOK s so n then (if so < 0 ∨ 0 ≤ n then 1 else -14) else -1
def uSheet (sg : Nat → Int → Int) (s so n : Int) : Nat → Int → Int := if shOK s so n then (if so < 0 ∨ 0 ≤ n then zR (s3 (s3 sg 21 s so) 22 s (if so < 0 then 0 else n)) 23 (40 * s) 40 else sg) else sg
theorem B_sheet (hM : OKM M h) (W : WD sg) {s so n : Int} (hs : i32 s) (hso : i32 so) (hn : i32 n) : m12_sheet M (iI s) (iI so) (iI n) (mK M sg h) = some (iI (oSheet s so n), mK M (uSheet sg s so n) h) := by
  unfold oSheet uSheet
  by_cases c : shOK s so n
  · rw [if_pos c, if_pos c]
    by_cases c2 : so < 0 ∨ 0 ≤ n
    · rw [if_pos c2, if_pos c2]
      have key : ∀ x : Int, m12_sheet_p60 M (iI s) (M + 22) (iI s) (iI x) (mK M (s3 sg 21 s so) h) = some (iI 1, mK M (zR (s3 (s3 sg 21 s so) 22 s x) 23 (40 * s) 40) h) := by
        intro x
        have k := (lop (F := fun n' (a : Nat → Int → Int) i => m12_sheet_p64 n' M (iI s) (iI i) (mK M a h)) (K := fun a => some (iI 1, mK M a h)) (N := 40) (st := fun a i => s3 a 23 (40 * s + i) 0) (I := fun _ _ => True) (fun n' a _ => ?_) (fun n' a i _ h2 h3 => ⟨?_, trivial⟩) 40 FU (s3 (s3 sg 21 s so) 22 s x) 0 trivial (by omega) (by omega) (FU_lt (by omega))).1
        · rw [zR_fo] at k
          unfold m12_sheet_p60
          simp (config := { maxSteps := 1000000 }) (disch := first | assumption | exact W.i _ _ | exact sLine_i W _ _ _ | exact W1.i _ _ | exact hg _ _ | exact W3.i _ _ | (refine ⟨?_, ?_⟩ <;> omega) | omega | (simp only [sW_1, sW_2, sW_3, sW_4, sW_5, sW_8] <;> first | assumption | omega | (refine ⟨?_, ?_⟩ <;> omega)) | (simp only [sT_1, sT_2, sT_3, sT_4, sT_5, sT_8] <;> first | assumption | omega | (refine ⟨?_, ?_⟩ <;> omega))) only [Int.reduceEq, Int.reduceLT, Int.reduceLE, Int.reduceNeg, Int.reduceAdd, Int.reduceSub, Int.reduceMul, if_true, if_false, not_true, not_false_eq_true, false_or, or_false, true_or, or_true, true_and, and_true, false_and, and_false, iI_on, iI_mul, iI_add, iI_sub, iI_neg, ap_if, mp_eq, mz_0, mz_1, mz_b, b2_0, b2_1, iI_lt, iI_le, iI_inj, mb_div, mb_rem, hM.m, hM.a1, hM.a2, hM.a3, hM.a4, hM.a5, hM.a6, hM.a7, hM.a8, hM.a9, hM.a10, hM.a11, hM.a12, hM.a13, hM.a14, hM.a15, hM.a16, hM.a17, hM.a18, hM.a19, hM.a20, hM.a21, hM.a22, hM.a23, hM.a24, hM.a25, hM.a26, hM.a27, hM.a28, hM.l1, hM.l2, hM.l3, hM.l4, hM.l5, hM.l6, hM.l7, hM.l8, hM.l9, hM.l10, hM.l11, hM.l12, hM.l13, hM.l14, hM.l15, hM.l16, hM.l17, hM.l18, hM.l19, hM.l20, hM.l21, hM.l22, hM.l23, hM.l24, hM.l25, hM.l26, hM.l27, hM.l28, hM.c10, hM.c11, hM.c12, hM.c13, hM.c14, hM.c15, hM.c19, hM.c20, hM.c23, hM.c27, hM.c36, hM.c37, hM.c38, hM.c40, hM.c41, hM.c42, hM.c44, hM.w1, hM.w2, hM.w3, hM.w4, hM.w5, hM.w6, hM.w7, hM.w8, hM.w9, hM.w10, hM.w11, hM.w12, hM.w13, hM.w14, hM.w15, hM.w16, hM.w17, hM.w18, hM.w19, hM.w20, hM.w21, hM.w22, hM.w23, hM.w24, hM.w25, hM.w26, hM.w27, hM.w28, hM.p10, hM.p11, hM.p12, hM.p13, hM.p14, hM.p15, hM.p19, hM.p20, hM.p23, hM.p27, hM.p36, hM.p37, hM.p38, hM.p40, hM.p41, hM.p42, hM.p44, s3_at, s3_nk, s3_nj]
          exact k
        · show m12_sheet_p64 (n' + 1) M (iI s) (iI 40) (mK M a h) = some (iI 1, mK M a h)
          rw [m12_sheet_p64]
          simp (config := { maxSteps := 1000000 }) (disch := first | assumption | exact W.i _ _ | exact sLine_i W _ _ _ | exact W1.i _ _ | exact hg _ _ | exact W3.i _ _ | (refine ⟨?_, ?_⟩ <;> omega) | omega | (simp only [sW_1, sW_2, sW_3, sW_4, sW_5, sW_8] <;> first | assumption | omega | (refine ⟨?_, ?_⟩ <;> omega)) | (simp only [sT_1, sT_2, sT_3, sT_4, sT_5, sT_8] <;> first | assumption | omega | (refine ⟨?_, ?_⟩ <;> omega))) only [Int.reduceEq, Int.reduceLT, Int.reduceLE, Int.reduceNeg, Int.reduceAdd, Int.reduceSub, Int.reduceMul, if_true, if_false, not_true, not_false_eq_true, false_or, or_false, true_or, or_true, true_and, and_true, false_and, and_false, iI_on, iI_mul, iI_add, iI_sub, iI_neg, ap_if, mp_eq, mz_0, mz_1, mz_b, b2_0, b2_1, iI_lt, iI_le, iI_inj, mb_div, mb_rem]
        · show m12_sheet_p64 (n' + 1) M (iI s) (iI i) (mK M a h) = m12_sheet_p64 n' M (iI s) (iI (i + 1)) (mK M (s3 a 23 (40 * s + i) 0) h)
          rw [m12_sheet_p64]
          simp (config := { maxSteps := 1000000 }) (disch := first | assumption | exact W.i _ _ | exact sLine_i W _ _ _ | exact W1.i _ _ | exact hg _ _ | exact W3.i _ _ | (refine ⟨?_, ?_⟩ <;> omega) | omega | (simp only [sW_1, sW_2, sW_3, sW_4, sW_5, sW_8] <;> first | assumption | omega | (refine ⟨?_, ?_⟩ <;> omega)) | (simp only [sT_1, sT_2, sT_3, sT_4, sT_5, sT_8] <;> first | assumption | omega | (refine ⟨?_, ?_⟩ <;> omega))) only [Int.reduceEq, Int.reduceLT, Int.reduceLE, Int.reduceNeg, Int.reduceAdd, Int.reduceSub, Int.reduceMul, if_true, if_false, not_true, not_false_eq_true, false_or, or_false, true_or, or_true, true_and, and_true, false_and, and_false, iI_on, iI_mul, iI_add, iI_sub, iI_neg, ap_if, mp_eq, mz_0, mz_1, mz_b, b2_0, b2_1, iI_lt, iI_le, iI_inj, mb_div, mb_rem, hM.m, hM.a1, hM.a2, hM.a3, hM.a4, hM.a5, hM.a6, hM.a7, hM.a8, hM.a9, hM.a10, hM.a11, hM.a12, hM.a13, hM.a14, hM.a15, hM.a16, hM.a17, hM.a18, hM.a19, hM.a20, hM.a21, hM.a22, hM.a23, hM.a24, hM.a25, hM.a26, hM.a27, hM.a28, hM.l1, hM.l2, hM.l3, hM.l4, hM.l5, hM.l6, hM.l7, hM.l8, hM.l9, hM.l10, hM.l11, hM.l12, hM.l13, hM.l14, hM.l15, hM.l16, hM.l17, hM.l18, hM.l19, hM.l20, hM.l21, hM.l22, hM.l23, hM.l24, hM.l25, hM.l26, hM.l27, hM.l28, hM.c10, hM.c11, hM.c12, hM.c13, hM.c14, hM.c15, hM.c19, hM.c20, hM.c23, hM.c27, hM.c36, hM.c37, hM.c38, hM.c40, hM.c41, hM.c42, hM.c44, hM.w1, hM.w2, hM.w3, hM.w4, hM.w5, hM.w6, hM.w7, hM.w8, hM.w9, hM.w10, hM.w11, hM.w12, hM.w13, hM.w14, hM.w15, hM.w16, hM.w17, hM.w18, hM.w19, hM.w20, hM.w21, hM.w22, hM.w23, hM.w24, hM.w25, hM.w26, hM.w27, hM.w28, hM.p10, hM.p11, hM.p12, hM.p13, hM.p14, hM.p15, hM.p19, hM.p20, hM.p23, hM.p27, hM.p36, hM.p37, hM.p38, hM.p40, hM.p41, hM.p42, hM.p44, s3_at, s3_nk, s3_nj, show ¬ 40 ≤ i by omega]
      have p39 : m12_sheet_p39 M (iI s) (iI so) (iI n) (mK M sg h) = some (iI 1, mK M (zR (s3 (s3 sg 21 s so) 22 s (if so < 0 then 0 else n)) 23 (40 * s) 40) h) := by
        unfold m12_sheet_p39
        by_cases c3 : so < 0
        · simp (config := { maxSteps := 1000000 }) (disch := first | assumption | exact W.i _ _ | exact sLine_i W _ _ _ | exact W1.i _ _ | exact hg _ _ | exact W3.i _ _ | (refine ⟨?_, ?_⟩ <;> omega) | omega | (simp only [sW_1, sW_2, sW_3, sW_4, sW_5, sW_8] <;> first | assumption | omega | (refine ⟨?_, ?_⟩ <;> omega)) | (simp only [sT_1, sT_2, sT_3, sT_4, sT_5, sT_8] <;> first | assumption | omega | (refine ⟨?_, ?_⟩ <;> omega))) only [Int.reduceEq, Int.reduceLT, Int.reduceLE, Int.reduceNeg, Int.reduceAdd, Int.reduceSub, Int.reduceMul, if_true, if_false, not_true, not_false_eq_true, false_or, or_false, true_or, or_true, true_and, and_true, false_and, and_false, iI_on, iI_mul, iI_add, iI_sub, iI_neg, ap_if, mp_eq, mz_0, mz_1, mz_b, b2_0, b2_1, iI_lt, iI_le, iI_inj, mb_div, mb_rem, hM.m, hM.a1, hM.a2, hM.a3, hM.a4, hM.a5, hM.a6, hM.a7, hM.a8, hM.a9, hM.a10, hM.a11, hM.a12, hM.a13, hM.a14, hM.a15, hM.a16, hM.a17, hM.a18, hM.a19, hM.a20, hM.a21, hM.a22, hM.a23, hM.a24, hM.a25, hM.a26, hM.a27, hM.a28, hM.l1, hM.l2, hM.l3, hM.l4, hM.l5, hM.l6, hM.l7, hM.l8, hM.l9, hM.l10, hM.l11, hM.l12, hM.l13, hM.l14, hM.l15, hM.l16, hM.l17, hM.l18, hM.l19, hM.l20, hM.l21, hM.l22, hM.l23, hM.l24, hM.l25, hM.l26, hM.l27, hM.l28, hM.c10, hM.c11, hM.c12, hM.c13, hM.c14, hM.c15, hM.c19, hM.c20, hM.c23, hM.c27, hM.c36, hM.c37, hM.c38, hM.c40, hM.c41, hM.c42, hM.c44, hM.w1, hM.w2, hM.w3, hM.w4, hM.w5, hM.w6, hM.w7, hM.w8, hM.w9, hM.w10, hM.w11, hM.w12, hM.w13, hM.w14, hM.w15, hM.w16, hM.w17, hM.w18, hM.w19, hM.w20, hM.w21, hM.w22, hM.w23, hM.w24, hM.w25, hM.w26, hM.w27, hM.w28, hM.p10, hM.p11, hM.p12, hM.p13, hM.p14, hM.p15, hM.p19, hM.p20, hM.p23, hM.p27, hM.p36, hM.p37, hM.p38, hM.p40, hM.p41, hM.p42, hM.p44, s3_at, s3_nk, s3_nj, show ¬ 0 ≤ so by omega, c3, key]
        · simp (config := { maxSteps := 1000000 }) (disch := first | assumption | exact W.i _ _ | exact sLine_i W _ _ _ | exact W1.i _ _ | exact hg _ _ | exact W3.i _ _ | (refine ⟨?_, ?_⟩ <;> omega) | omega | (simp only [sW_1, sW_2, sW_3, sW_4, sW_5, sW_8] <;> first | assumption | omega | (refine ⟨?_, ?_⟩ <;> omega)) | (simp only [sT_1, sT_2, sT_3, sT_4, sT_5, sT_8] <;> first | assumption | omega | (refine ⟨?_, ?_⟩ <;> omega))) only [Int.reduceEq, Int.reduceLT, Int.reduceLE, Int.reduceNeg, Int.reduceAdd, Int.reduceSub, Int.reduceMul, if_true, if_false, not_true, not_false_eq_true, false_or, or_false, true_or, or_true, true_and, and_true, false_and, and_false, iI_on, iI_mul, iI_add, iI_sub, iI_neg, ap_if, mp_eq, mz_0, mz_1, mz_b, b2_0, b2_1, iI_lt, iI_le, iI_inj, mb_div, mb_rem, hM.m, hM.a1, hM.a2, hM.a3, hM.a4, hM.a5, hM.a6, hM.a7, hM.a8, hM.a9, hM.a10, hM.a11, hM.a12, hM.a13, hM.a14, hM.a15, hM.a16, hM.a17, hM.a18, hM.a19, hM.a20, hM.a21, hM.a22, hM.a23, hM.a24, hM.a25, hM.a26, hM.a27, hM.a28, hM.l1, hM.l2, hM.l3, hM.l4, hM.l5, hM.l6, hM.l7, hM.l8, hM.l9, hM.l10, hM.l11, hM.l12, hM.l13, hM.l14, hM.l15, hM.l16, hM.l17, hM.l18, hM.l19, hM.l20, hM.l21, hM.l22, hM.l23, hM.l24, hM.l25, hM.l26, hM.l27, hM.l28, hM.c10, hM.c11, hM.c12, hM.c13, hM.c14, hM.c15, hM.c19, hM.c20, hM.c23, hM.c27, hM.c36, hM.c37, hM.c38, hM.c40, hM.c41, hM.c42, hM.c44, hM.w1, hM.w2, hM.w3, hM.w4, hM.w5, hM.w6, hM.w7, hM.w8, hM.w9, hM.w10, hM.w11, hM.w12, hM.w13, hM.w14, hM.w15, hM.w16, hM.w17, hM.w18, hM.w19, hM.w20, hM.w21, hM.w22, hM.w23, hM.w24, hM.w25, hM.w26, hM.w27, hM.w28, hM.p10, hM.p11, hM.p12, hM.p13, hM.p14, hM.p15, hM.p19, hM.p20, hM.p23, hM.p27, hM.p36, hM.p37, hM.p38, hM.p40, hM.p41, hM.p42, hM.p44, s3_at, s3_nk, s3_nj, show 0 ≤ so by omega, c3, key]
      unfold m12_sheet m12_sheet_p28
      have ss := c.1
      by_cases c3 : so < 0
      · simp (config := { maxSteps := 1000000 }) (disch := first | assumption | exact W.i _ _ | exact sLine_i W _ _ _ | exact W1.i _ _ | exact hg _ _ | exact W3.i _ _ | (refine ⟨?_, ?_⟩ <;> omega) | omega | (simp only [sW_1, sW_2, sW_3, sW_4, sW_5, sW_8] <;> first | assumption | omega | (refine ⟨?_, ?_⟩ <;> omega)) | (simp only [sT_1, sT_2, sT_3, sT_4, sT_5, sT_8] <;> first | assumption | omega | (refine ⟨?_, ?_⟩ <;> omega))) only [Int.reduceEq, Int.reduceLT, Int.reduceLE, Int.reduceNeg, Int.reduceAdd, Int.reduceSub, Int.reduceMul, if_true, if_false, not_true, not_false_eq_true, false_or, or_false, true_or, or_true, true_and, and_true, false_and, and_false, iI_on, iI_mul, iI_add, iI_sub, iI_neg, ap_if, mp_eq, mz_0, mz_1, mz_b, b2_0, b2_1, iI_lt, iI_le, iI_inj, mb_div, mb_rem, hM.m, hM.a1, hM.a2, hM.a3, hM.a4, hM.a5, hM.a6, hM.a7, hM.a8, hM.a9, hM.a10, hM.a11, hM.a12, hM.a13, hM.a14, hM.a15, hM.a16, hM.a17, hM.a18, hM.a19, hM.a20, hM.a21, hM.a22, hM.a23, hM.a24, hM.a25, hM.a26, hM.a27, hM.a28, hM.l1, hM.l2, hM.l3, hM.l4, hM.l5, hM.l6, hM.l7, hM.l8, hM.l9, hM.l10, hM.l11, hM.l12, hM.l13, hM.l14, hM.l15, hM.l16, hM.l17, hM.l18, hM.l19, hM.l20, hM.l21, hM.l22, hM.l23, hM.l24, hM.l25, hM.l26, hM.l27, hM.l28, hM.c10, hM.c11, hM.c12, hM.c13, hM.c14, hM.c15, hM.c19, hM.c20, hM.c23, hM.c27, hM.c36, hM.c37, hM.c38, hM.c40, hM.c41, hM.c42, hM.c44, mb_eq (B_isShelf _ _), ss.1, ss.2, mb_eq (B_in _ _ _ _), c.2.1.1, c.2.1.2, c3, p39]
      · simp (config := { maxSteps := 1000000 }) (disch := first | assumption | exact W.i _ _ | exact sLine_i W _ _ _ | exact W1.i _ _ | exact hg _ _ | exact W3.i _ _ | (refine ⟨?_, ?_⟩ <;> omega) | omega | (simp only [sW_1, sW_2, sW_3, sW_4, sW_5, sW_8] <;> first | assumption | omega | (refine ⟨?_, ?_⟩ <;> omega)) | (simp only [sT_1, sT_2, sT_3, sT_4, sT_5, sT_8] <;> first | assumption | omega | (refine ⟨?_, ?_⟩ <;> omega))) only [Int.reduceEq, Int.reduceLT, Int.reduceLE, Int.reduceNeg, Int.reduceAdd, Int.reduceSub, Int.reduceMul, if_true, if_false, not_true, not_false_eq_true, false_or, or_false, true_or, or_true, true_and, and_true, false_and, and_false, iI_on, iI_mul, iI_add, iI_sub, iI_neg, ap_if, mp_eq, mz_0, mz_1, mz_b, b2_0, b2_1, iI_lt, iI_le, iI_inj, mb_div, mb_rem, hM.m, hM.a1, hM.a2, hM.a3, hM.a4, hM.a5, hM.a6, hM.a7, hM.a8, hM.a9, hM.a10, hM.a11, hM.a12, hM.a13, hM.a14, hM.a15, hM.a16, hM.a17, hM.a18, hM.a19, hM.a20, hM.a21, hM.a22, hM.a23, hM.a24, hM.a25, hM.a26, hM.a27, hM.a28, hM.l1, hM.l2, hM.l3, hM.l4, hM.l5, hM.l6, hM.l7, hM.l8, hM.l9, hM.l10, hM.l11, hM.l12, hM.l13, hM.l14, hM.l15, hM.l16, hM.l17, hM.l18, hM.l19, hM.l20, hM.l21, hM.l22, hM.l23, hM.l24, hM.l25, hM.l26, hM.l27, hM.l28, hM.c10, hM.c11, hM.c12, hM.c13, hM.c14, hM.c15, hM.c19, hM.c20, hM.c23, hM.c27, hM.c36, hM.c37, hM.c38, hM.c40, hM.c41, hM.c42, hM.c44, mb_eq (B_isShelf _ _), ss.1, ss.2, mb_eq (B_in _ _ _ _), c.2.1.1, c.2.1.2, c3, show n ≤ 40 by omega, show 0 ≤ n by omega, p39]
    · rw [if_neg c2, if_neg c2]
      unfold m12_sheet m12_sheet_p28
      have ss := c.1
      simp (config := { maxSteps := 1000000 }) (disch := first | assumption | exact W.i _ _ | exact sLine_i W _ _ _ | exact W1.i _ _ | exact hg _ _ | exact W3.i _ _ | (refine ⟨?_, ?_⟩ <;> omega) | omega | (simp only [sW_1, sW_2, sW_3, sW_4, sW_5, sW_8] <;> first | assumption | omega | (refine ⟨?_, ?_⟩ <;> omega)) | (simp only [sT_1, sT_2, sT_3, sT_4, sT_5, sT_8] <;> first | assumption | omega | (refine ⟨?_, ?_⟩ <;> omega))) only [Int.reduceEq, Int.reduceLT, Int.reduceLE, Int.reduceNeg, Int.reduceAdd, Int.reduceSub, Int.reduceMul, if_true, if_false, not_true, not_false_eq_true, false_or, or_false, true_or, or_true, true_and, and_true, false_and, and_false, iI_on, iI_mul, iI_add, iI_sub, iI_neg, ap_if, mp_eq, mz_0, mz_1, mz_b, b2_0, b2_1, iI_lt, iI_le, iI_inj, mb_div, mb_rem, hM.m, hM.a1, hM.a2, hM.a3, hM.a4, hM.a5, hM.a6, hM.a7, hM.a8, hM.a9, hM.a10, hM.a11, hM.a12, hM.a13, hM.a14, hM.a15, hM.a16, hM.a17, hM.a18, hM.a19, hM.a20, hM.a21, hM.a22, hM.a23, hM.a24, hM.a25, hM.a26, hM.a27, hM.a28, hM.l1, hM.l2, hM.l3, hM.l4, hM.l5, hM.l6, hM.l7, hM.l8, hM.l9, hM.l10, hM.l11, hM.l12, hM.l13, hM.l14, hM.l15, hM.l16, hM.l17, hM.l18, hM.l19, hM.l20, hM.l21, hM.l22, hM.l23, hM.l24, hM.l25, hM.l26, hM.l27, hM.l28, hM.c10, hM.c11, hM.c12, hM.c13, hM.c14, hM.c15, hM.c19, hM.c20, hM.c23, hM.c27, hM.c36, hM.c37, hM.c38, hM.c40, hM.c41, hM.c42, hM.c44, mb_eq (B_isShelf _ _), ss.1, ss.2, mb_eq (B_in _ _ _ _), c.2.1.1, c.2.1.2, show ¬ so < 0 by omega, show n ≤ 40 by omega, show ¬ 0 ≤ n by omega]
  · rw [if_neg c, if_neg c]
    unfold m12_sheet m12_sheet_p28 m12_sheet_p26
    simp (config := { maxSteps := 1000000 }) (disch := first | assumption | exact W.i _ _ | exact sLine_i W _ _ _ | exact W1.i _ _ | exact hg _ _ | exact W3.i _ _ | (refine ⟨?_, ?_⟩ <;> omega) | omega | (simp only [sW_1, sW_2, sW_3, sW_4, sW_5, sW_8] <;> first | assumption | omega | (refine ⟨?_, ?_⟩ <;> omega)) | (simp only [sT_1, sT_2, sT_3, sT_4, sT_5, sT_8] <;> first | assumption | omega | (refine ⟨?_, ?_⟩ <;> omega))) only [Int.reduceEq, Int.reduceLT, Int.reduceLE, Int.reduceNeg, Int.reduceAdd, Int.reduceSub, Int.reduceMul, if_true, if_false, not_true, not_false_eq_true, false_or, or_false, true_or, or_true, true_and, and_true, false_and, and_false, iI_on, iI_mul, iI_add, iI_sub, iI_neg, ap_if, mp_eq, mz_0, mz_1, mz_b, b2_0, b2_1, iI_lt, iI_le, iI_inj, mb_div, mb_rem, hM.m, hM.a1, hM.a2, hM.a3, hM.a4, hM.a5, hM.a6, hM.a7, hM.a8, hM.a9, hM.a10, hM.a11, hM.a12, hM.a13, hM.a14, hM.a15, hM.a16, hM.a17, hM.a18, hM.a19, hM.a20, hM.a21, hM.a22, hM.a23, hM.a24, hM.a25, hM.a26, hM.a27, hM.a28, hM.l1, hM.l2, hM.l3, hM.l4, hM.l5, hM.l6, hM.l7, hM.l8, hM.l9, hM.l10, hM.l11, hM.l12, hM.l13, hM.l14, hM.l15, hM.l16, hM.l17, hM.l18, hM.l19, hM.l20, hM.l21, hM.l22, hM.l23, hM.l24, hM.l25, hM.l26, hM.l27, hM.l28, hM.c10, hM.c11, hM.c12, hM.c13, hM.c14, hM.c15, hM.c19, hM.c20, hM.c23, hM.c27, hM.c36, hM.c37, hM.c38, hM.c40, hM.c41, hM.c42, hM.c44, mb_eq (B_isShelf _ _), mb_eq (B_in _ _ _ _)]
    by_cases c1 : 0 ≤ s ∧ s ≤ 3
    · rw [if_neg (fun q => q c1)]
      by_cases c2 : -1 ≤ so ∧ so ≤ 3
      · rw [if_neg (fun q => q c2), if_neg (by omega), if_neg (by omega)]
      · rw [if_pos c2]
    · rw [if_pos c1]
theorem OKC.shR {α : Type} (hC : OKC h) {s : Int} (h0 : 0 ≤ s) (h1 : s ≤ 3) (f : Nat → gM α) : mb (gLdR 106 42 (iI s)) f (cK rho h) = f (43 + s.toNat) (cK rho h) := by
  refine ldR_ok f (cK rho h) ((hC.sh (a := 42) (by omega)).trans rfl) h0 (n := 4) (by omega) (by omega) ?_
  have : s = 0 ∨ s = 1 ∨ s = 2 ∨ s = 3 := by omega
  rcases this with rfl | rfl | rfl | rfl
  · exact hC.2 42 0 43 rfl
  · exact hC.2 42 1 44 rfl
  · exact hC.2 42 2 45 rfl
  · exact hC.2 42 3 46 rfl
theorem cSh_s {s : Int} (h0 : 0 ≤ s) (h1 : s ≤ 3) : cSh[43 + s.toNat]? = some (100, 40) := by
  have : s = 0 ∨ s = 1 ∨ s = 2 ∨ s = 3 := by omega
  rcases this with rfl | rfl | rfl | rfl <;> rfl
theorem OKC.lS {α : Type} (hC : OKC h) {s j : Int} (h0 : 0 ≤ s) (h1 : s ≤ 3) (k0 : 0 ≤ j) (k1 : j < 40) (f : Int32 → gM α) : mb (gLdI 100 (43 + s.toNat) (iI j)) f (cK rho h) = f (iI (rho (43 + s.toNat) j)) (cK rho h) := hC.ld (n := 40) (by omega) (cSh_s h0 h1) k0 (by omega) (by omega) f
theorem OKC.wS {α : Type} (hC : OKC h) {s j v : Int} (h0 : 0 ≤ s) (h1 : s ≤ 3) (k0 : 0 ≤ j) (k1 : j < 40) (f : Unit → gM α) : mb (gStI 100 (43 + s.toNat) (iI j) (iI v)) f (cK rho h) = f () (cK (s3 rho (43 + s.toNat) j v) h) := hC.st (n := 40) (by omega) (cSh_s h0 h1) k0 (by omega) (by omega) f
theorem C_fillS (hC : OKC h) {s : Int} (h0 : 0 ≤ s) (h1 : s ≤ 3) : mj_fill (43 + s.toNat) (iI 0) (cK rho h) = some ((), cK (zR rho (43 + s.toNat) 0 40) h) := by
  have el : ∀ f : Int32 → gM Unit, mb (mv [100] (43 + s.toNat) (gLen (43 + s.toNat))) f (cK rho h) = f (iI 40) (cK rho h) := fun f => by
    have e : mb (mv [100] (43 + s.toNat) (gLen (43 + s.toNat))) f (cK rho h) = mb (gLen (43 + s.toNat)) f (cK rho h) := by
      unfold mb
      rw [hC.vw (a := 43 + s.toNat) (by omega) (cSh_s h0 h1) rfl]
    rw [e]
    exact hC.ln (n := 40) (by omega) (cSh_s h0 h1) (by omega) f
  have k := (lop (F := fun n' (a : Nat → Int → Int) i => mj_fill_p5 n' (43 + s.toNat) (iI 0) (iI i) (iI 40) (cK a h)) (K := fun a => some ((), cK a h)) (N := 40) (st := fun a i => s3 a (43 + s.toNat) (0 + i) 0) (I := fun _ _ => True) (fun n' a _ => ?_) (fun n' a i _ h2 h3 => ⟨?_, trivial⟩) 40 FU rho 0 trivial (by omega) (by omega) (FU_lt (by omega))).1
  · rw [zR_fo] at k
    unfold mj_fill
    simp (config := { maxSteps := 1000000 }) (disch := first | assumption | exact W.i _ _ | exact sLine_i W _ _ _ | exact W1.i _ _ | exact hg _ _ | exact W3.i _ _ | (refine ⟨?_, ?_⟩ <;> omega) | omega | (simp only [sW_1, sW_2, sW_3, sW_4, sW_5, sW_8] <;> first | assumption | omega | (refine ⟨?_, ?_⟩ <;> omega)) | (simp only [sT_1, sT_2, sT_3, sT_4, sT_5, sT_8] <;> first | assumption | omega | (refine ⟨?_, ?_⟩ <;> omega))) only [Int.reduceEq, Int.reduceLT, Int.reduceLE, Int.reduceNeg, Int.reduceAdd, Int.reduceSub, Int.reduceMul, if_true, if_false, not_true, not_false_eq_true, false_or, or_false, true_or, or_true, true_and, and_true, false_and, and_false, iI_on, iI_mul, iI_add, iI_sub, iI_neg, ap_if, mp_eq, mz_0, mz_1, mz_b, b2_0, b2_1, iI_lt, iI_le, iI_inj, mb_div, mb_rem, el]
    exact k
  · show mj_fill_p5 (n' + 1) (43 + s.toNat) (iI 0) (iI 40) (iI 40) (cK a h) = some ((), cK a h)
    rw [mj_fill_p5]
    simp (config := { maxSteps := 1000000 }) (disch := first | assumption | exact W.i _ _ | exact sLine_i W _ _ _ | exact W1.i _ _ | exact hg _ _ | exact W3.i _ _ | (refine ⟨?_, ?_⟩ <;> omega) | omega | (simp only [sW_1, sW_2, sW_3, sW_4, sW_5, sW_8] <;> first | assumption | omega | (refine ⟨?_, ?_⟩ <;> omega)) | (simp only [sT_1, sT_2, sT_3, sT_4, sT_5, sT_8] <;> first | assumption | omega | (refine ⟨?_, ?_⟩ <;> omega))) only [Int.reduceEq, Int.reduceLT, Int.reduceLE, Int.reduceNeg, Int.reduceAdd, Int.reduceSub, Int.reduceMul, if_true, if_false, not_true, not_false_eq_true, false_or, or_false, true_or, or_true, true_and, and_true, false_and, and_false, iI_on, iI_mul, iI_add, iI_sub, iI_neg, ap_if, mp_eq, mz_0, mz_1, mz_b, b2_0, b2_1, iI_lt, iI_le, iI_inj, mb_div, mb_rem]
    try rw [if_pos (by omega)]
  · show mj_fill_p5 (n' + 1) (43 + s.toNat) (iI 0) (iI i) (iI 40) (cK a h) = mj_fill_p5 n' (43 + s.toNat) (iI 0) (iI (i + 1)) (iI 40) (cK (s3 a (43 + s.toNat) (0 + i) 0) h)
    rw [mj_fill_p5]
    simp (config := { maxSteps := 1000000 }) (disch := first | assumption | exact W.i _ _ | exact sLine_i W _ _ _ | exact W1.i _ _ | exact hg _ _ | exact W3.i _ _ | (refine ⟨?_, ?_⟩ <;> omega) | omega | (simp only [sW_1, sW_2, sW_3, sW_4, sW_5, sW_8] <;> first | assumption | omega | (refine ⟨?_, ?_⟩ <;> omega)) | (simp only [sT_1, sT_2, sT_3, sT_4, sT_5, sT_8] <;> first | assumption | omega | (refine ⟨?_, ?_⟩ <;> omega))) only [Int.reduceEq, Int.reduceLT, Int.reduceLE, Int.reduceNeg, Int.reduceAdd, Int.reduceSub, Int.reduceMul, if_true, if_false, not_true, not_false_eq_true, false_or, or_false, true_or, or_true, true_and, and_true, false_and, and_false, iI_on, iI_mul, iI_add, iI_sub, iI_neg, ap_if, mp_eq, mz_0, mz_1, mz_b, b2_0, b2_1, iI_lt, iI_le, iI_inj, mb_div, mb_rem, show ¬ 40 ≤ i by omega, hC.wS h0 h1, Int.zero_add]
theorem T_sheet (I : Inv sg rho h) {s so n : Int} (hs : i32 s) (hso : i32 so) (hn : i32 n) : Both (m11_sheet 0 (iI s) (iI so) (iI n)) (m12_sheet 55 (iI s) (iI so) (iI n)) rho h := by
  have hC := I.1.1
  have hg := I.1.2.2.1
  have W := I.2.1
  have hB := fun H (hM : OKM 55 H) => B_sheet (h := H) hM W hs hso hn
  obtain ⟨x1, x2, x3, x4, x5⟩ := I.1.2.2.2.2.2.2
  obtain ⟨w1, w2, w3, w4⟩ := id I.2.2.1
  by_cases c : shOK s so n
  · have ss := c.1
    by_cases c2 : so < 0 ∨ 0 ≤ n
    · have eo : ∀ q, q ≠ 21 → q ≠ 22 → q ≠ 23 → uSheet sg s so n q = sg q := fun q q0 q1 q2 => by
        unfold uSheet
        rw [if_pos c, if_pos c2, zR_o q2, s3_o q1, s3_o q0]
      have e21 : uSheet sg s so n 21 = s3 sg 21 s so 21 := by
        unfold uSheet
        rw [if_pos c, if_pos c2, zR_o (by omega), s3_o (by omega)]
      have e22 : uSheet sg s so n 22 = s3 sg 22 s (if so < 0 then 0 else n) 22 := by
        unfold uSheet
        rw [if_pos c, if_pos c2, zR_o (by omega)]
        funext j
        unfold s3
        rfl
      have e23 : uSheet sg s so n 23 = fun j => if 40 * s ≤ j ∧ j < 40 * s + 40 then 0 else sg 23 j := by
        unfold uSheet
        rw [if_pos c, if_pos c2]
        funext j
        unfold zR s3
        simp
      have ib : ∀ k j, i32 (uSheet sg s so n k j) := by
        intro k j
        unfold uSheet
        rw [if_pos c, if_pos c2]
        unfold zR
        split
        · exact ⟨by omega, by omega⟩
        · exact i32_s (i32_s W.i hso) (by split <;> first | exact ⟨by omega, by omega⟩ | exact hn) _ _
      have W' : WD (uSheet sg s so n) := W.c9 (fun q q0 q1 => eo q (by omega) (by omega) (by omega)) ib
      have X' : WX (uSheet sg s so n) := by
        refine ⟨by rw [eo 0 (by omega) (by omega) (by omega)]; exact w1, fun j j0 j1 => ?_, by rw [eo 24 (by omega) (by omega) (by omega)]; exact w3, by rw [eo 0 (by omega) (by omega) (by omega)]; exact w4⟩
        rw [e21, e22]
        by_cases z : j = s
        · subst z
          rw [s3_at, s3_at]
          refine ⟨c.2.1.1, c.2.1.2, ?_⟩
          split <;> omega
        · rw [s3_nj z, s3_nj z]
          exact w2 j j0 j1
      have Y' : WY (uSheet sg s so n) := I.2.2.2.1.o ⟨by rw [eo 0 (by omega) (by omega) (by omega)], by rw [eo 0 (by omega) (by omega) (by omega)]⟩ (fun q q0 q1 => eo q (by omega) (by omega) (by omega)) (eo 14 (by omega) (by omega) (by omega)) (eo 28 (by omega) (by omega) (by omega))
      have XS0 : ∀ r : Nat → Int → Int, (∀ q, q ≠ 47 → q ≠ 48 → q ≠ 43 + s.toNat → r q = rho q) → (∀ j, j ≠ s → r 47 j = rho 47 j ∧ r 48 j = rho 48 j) → r 47 s = so → (0 ≤ so → r 48 s = n ∧ ∀ j, 0 ≤ j → j < 40 → r (43 + s.toNat) j = 0) → XS (uSheet sg s so n) r := by
        intro r r1 r2 r3 r4 t t0 t1
        rw [e21, e22, e23]
        by_cases z : t = s
        · subst z
          rw [s3_at, s3_at]
          refine ⟨r3, fun z => ?_⟩
          obtain ⟨a, b⟩ := r4 z
          refine ⟨by rw [if_neg (by omega)]; exact a, fun j j0 j1 => ?_⟩
          rw [b j j0 j1]
          dsimp only
          rw [if_pos (by omega)]
        · rw [s3_nj z, s3_nj z, (r2 t z).1, (r2 t z).2, r1 (43 + t.toNat) (by omega) (by omega) (by omega)]
          obtain ⟨a, b⟩ := x3 t t0 t1
          refine ⟨a, fun y => ⟨(b y).1, fun j j0 j1 => ?_⟩⟩
          dsimp only
          rw [if_neg (by omega)]
          exact (b y).2 j j0 j1
      have CIh : ∀ r : Nat → Int → Int, okG r → (∀ q, q ≠ 47 → q ≠ 48 → q ≠ 43 + s.toNat → r q = rho q) → XS (uSheet sg s so n) r → CI (uSheet sg s so n) r h := by
        intro r gr r1 rs
        refine I.1.ho (fun q q0 q1 => eo q (by omega) (by omega) (by omega)) (eo 28 (by omega) (by omega) (by omega)) (by rw [eo 0 (by omega) (by omega) (by omega)]) (fun q hq => r1 q (by omega) (by omega) (by omega)) gr ?_ ?_ rs ?_ ?_
        · unfold XR
          rw [eo 0 (by omega) (by omega) (by omega), eo 19 (by omega) (by omega) (by omega), r1 38 (by omega) (by omega) (by omega), r1 39 (by omega) (by omega) (by omega)]; exact x1
        · unfold XT
          rw [eo 0 (by omega) (by omega) (by omega), eo 10 (by omega) (by omega) (by omega), r1 29 (by omega) (by omega) (by omega), r1 35 (by omega) (by omega) (by omega)]; exact x2
        · unfold XH
          rw [eo 24 (by omega) (by omega) (by omega), eo 25 (by omega) (by omega) (by omega), eo 26 (by omega) (by omega) (by omega), r1 49 (by omega) (by omega) (by omega), r1 50 (by omega) (by omega) (by omega), r1 51 (by omega) (by omega) (by omega), r1 52 (by omega) (by omega) (by omega)]; exact x4
        · unfold XB
          rw [eo 0 (by omega) (by omega) (by omega), eo 27 (by omega) (by omega) (by omega), r1 40 (by omega) (by omega) (by omega), r1 41 (by omega) (by omega) (by omega), r1 54 (by omega) (by omega) (by omega)]; exact x5
      by_cases c3 : so < 0
      · have e1 : so = -1 := by omega
        refine both_of (r := iI (oSheet s so n)) (rho' := s3 rho 47 s so) (sg' := uSheet sg s so n) I ?_ (CIh _ (hg.s hso) (fun q q0 q1 q2 => s3_o q0) (XS0 _ (fun q q0 q1 q2 => s3_o q0) (fun j z => ⟨s3_nj z, rfl⟩) (s3_at _ _ _ _) (fun z => by omega))) (hG.rf h) hB W' X' Y'
        unfold m11_sheet oSheet
        rw [if_pos c, if_pos c2]
        subst e1
        simp (config := { maxSteps := 1000000 }) (disch := first | assumption | exact W.i _ _ | exact sLine_i W _ _ _ | exact W1.i _ _ | exact hg _ _ | exact W3.i _ _ | (refine ⟨?_, ?_⟩ <;> omega) | omega | (simp only [sW_1, sW_2, sW_3, sW_4, sW_5, sW_8] <;> first | assumption | omega | (refine ⟨?_, ?_⟩ <;> omega)) | (simp only [sT_1, sT_2, sT_3, sT_4, sT_5, sT_8] <;> first | assumption | omega | (refine ⟨?_, ?_⟩ <;> omega))) only [Int.reduceEq, Int.reduceLT, Int.reduceLE, Int.reduceNeg, Int.reduceAdd, Int.reduceSub, Int.reduceMul, if_true, if_false, not_true, not_false_eq_true, false_or, or_false, true_or, or_true, true_and, and_true, false_and, and_false, iI_on, iI_mul, iI_add, iI_sub, iI_neg, ap_if, mp_eq, mz_0, mz_1, mz_b, b2_0, b2_1, iI_lt, iI_le, iI_inj, mb_div, mb_rem, hC.m0, hC.m1, hC.m13, hC.m15, hC.m27, hC.m29, hC.m38, hC.m40, hC.g0_0, hC.g0_1, hC.g0_3, hC.g0_4, hC.g0_5, hC.g0_6, hC.g0_7, hC.g0_8, hC.g0_9, hC.g0_10, hC.g0_11, hC.g0_12, hC.g0_13, hC.g0_14, hC.g1_2, hC.g1_3, hC.g1_5, hC.g1_7, hC.g1_9, hC.g1_11, hC.g1_12, hC.g1_14, hC.g1_15, hC.g1_16, hC.g1_17, hC.g1_18, hC.g13_0, hC.g15_2, hC.g15_3, hC.g15_5, hC.g15_7, hC.g15_9, hC.g15_11, hC.g15_12, hC.g15_14, hC.g15_15, hC.g15_16, hC.g15_17, hC.g15_18, hC.g27_0, hC.g29_3, hC.g29_4, hC.g29_5, hC.g29_6, hC.g29_7, hC.g29_8, hC.g29_9, hC.g29_10, hC.g38_0, hC.g40_0, hC.s0_2, hC.s1_0, hC.s1_1, hC.s1_4, hC.s1_6, hC.s1_8, hC.s1_10, hC.s1_13, hC.s13_1, hC.s15_0, hC.s15_1, hC.s15_4, hC.s15_6, hC.s15_8, hC.s15_10, hC.s15_13, hC.s27_1, hC.s29_0, hC.s29_1, hC.s29_2, hC.s29_11, hC.s29_12, hC.s38_1, hC.s40_1, hC.s40_2, hC.l2, hC.l3, hC.l8, hC.l9, hC.l10, hC.l11, hC.l12, hC.l14, hC.l16, hC.l17, hC.l22, hC.l23, hC.l24, hC.l25, hC.l26, hC.l28, hC.l30, hC.l31, hC.l32, hC.l33, hC.l34, hC.l36, hC.l37, hC.l39, hC.l41, hC.l43, hC.l44, hC.l45, hC.l46, hC.l47, hC.l48, hC.l49, hC.l50, hC.l51, hC.l52, hC.l53, hC.l54, hC.l35, hC.n33, hC.n36, hC.p0_2, hC.p1_0, hC.p1_1, hC.p1_4, hC.p1_6, hC.p1_8, hC.p1_10, hC.p1_13, hC.p13_1, hC.p15_0, hC.p15_1, hC.p15_4, hC.p15_6, hC.p15_8, hC.p15_10, hC.p15_13, hC.p27_1, hC.p29_0, hC.p29_1, hC.p29_2, hC.p29_11, hC.p29_12, hC.p38_1, hC.p40_1, hC.p40_2, hC.w2, hC.w3, hC.w8, hC.w9, hC.w10, hC.w11, hC.w12, hC.w14, hC.w16, hC.w17, hC.w22, hC.w23, hC.w24, hC.w25, hC.w26, hC.w28, hC.w30, hC.w31, hC.w32, hC.w33, hC.w34, hC.w36, hC.w37, hC.w39, hC.w41, hC.w43, hC.w44, hC.w45, hC.w46, hC.w47, hC.w48, hC.w49, hC.w50, hC.w51, hC.w52, hC.w53, hC.w54, s3_at, s3_nk, s3_nj, mb_eq (C_isSheet _ _), ss.1, ss.2]
      · refine both_of (r := iI (oSheet s so n)) (rho' := zR (s3 (s3 rho 47 s so) 48 s n) (43 + s.toNat) 0 40) (sg' := uSheet sg s so n) I ?_ (CIh _ (fun k j => ?_) (fun q q0 q1 q2 => by rw [zR_o q2, s3_o q1, s3_o q0]) (XS0 _ (fun q q0 q1 q2 => by rw [zR_o q2, s3_o q1, s3_o q0]) (fun j z => ⟨?_, ?_⟩) ?_ (fun z => ⟨?_, fun j j0 j1 => ?_⟩))) (hG.rf h) hB W' X' Y'
        · unfold m11_sheet oSheet m11_sheet_p36
          rw [if_pos c, if_pos c2]
          simp (config := { maxSteps := 1000000 }) (disch := first | assumption | exact W.i _ _ | exact sLine_i W _ _ _ | exact W1.i _ _ | exact hg _ _ | exact W3.i _ _ | (refine ⟨?_, ?_⟩ <;> omega) | omega | (simp only [sW_1, sW_2, sW_3, sW_4, sW_5, sW_8] <;> first | assumption | omega | (refine ⟨?_, ?_⟩ <;> omega)) | (simp only [sT_1, sT_2, sT_3, sT_4, sT_5, sT_8] <;> first | assumption | omega | (refine ⟨?_, ?_⟩ <;> omega))) only [Int.reduceEq, Int.reduceLT, Int.reduceLE, Int.reduceNeg, Int.reduceAdd, Int.reduceSub, Int.reduceMul, if_true, if_false, not_true, not_false_eq_true, false_or, or_false, true_or, or_true, true_and, and_true, false_and, and_false, iI_on, iI_mul, iI_add, iI_sub, iI_neg, ap_if, mp_eq, mz_0, mz_1, mz_b, b2_0, b2_1, iI_lt, iI_le, iI_inj, mb_div, mb_rem, hC.m0, hC.m1, hC.m13, hC.m15, hC.m27, hC.m29, hC.m38, hC.m40, hC.g0_0, hC.g0_1, hC.g0_3, hC.g0_4, hC.g0_5, hC.g0_6, hC.g0_7, hC.g0_8, hC.g0_9, hC.g0_10, hC.g0_11, hC.g0_12, hC.g0_13, hC.g0_14, hC.g1_2, hC.g1_3, hC.g1_5, hC.g1_7, hC.g1_9, hC.g1_11, hC.g1_12, hC.g1_14, hC.g1_15, hC.g1_16, hC.g1_17, hC.g1_18, hC.g13_0, hC.g15_2, hC.g15_3, hC.g15_5, hC.g15_7, hC.g15_9, hC.g15_11, hC.g15_12, hC.g15_14, hC.g15_15, hC.g15_16, hC.g15_17, hC.g15_18, hC.g27_0, hC.g29_3, hC.g29_4, hC.g29_5, hC.g29_6, hC.g29_7, hC.g29_8, hC.g29_9, hC.g29_10, hC.g38_0, hC.g40_0, hC.s0_2, hC.s1_0, hC.s1_1, hC.s1_4, hC.s1_6, hC.s1_8, hC.s1_10, hC.s1_13, hC.s13_1, hC.s15_0, hC.s15_1, hC.s15_4, hC.s15_6, hC.s15_8, hC.s15_10, hC.s15_13, hC.s27_1, hC.s29_0, hC.s29_1, hC.s29_2, hC.s29_11, hC.s29_12, hC.s38_1, hC.s40_1, hC.s40_2, hC.l2, hC.l3, hC.l8, hC.l9, hC.l10, hC.l11, hC.l12, hC.l14, hC.l16, hC.l17, hC.l22, hC.l23, hC.l24, hC.l25, hC.l26, hC.l28, hC.l30, hC.l31, hC.l32, hC.l33, hC.l34, hC.l36, hC.l37, hC.l39, hC.l41, hC.l43, hC.l44, hC.l45, hC.l46, hC.l47, hC.l48, hC.l49, hC.l50, hC.l51, hC.l52, hC.l53, hC.l54, hC.l35, hC.n33, hC.n36, hC.p0_2, hC.p1_0, hC.p1_1, hC.p1_4, hC.p1_6, hC.p1_8, hC.p1_10, hC.p1_13, hC.p13_1, hC.p15_0, hC.p15_1, hC.p15_4, hC.p15_6, hC.p15_8, hC.p15_10, hC.p15_13, hC.p27_1, hC.p29_0, hC.p29_1, hC.p29_2, hC.p29_11, hC.p29_12, hC.p38_1, hC.p40_1, hC.p40_2, hC.w2, hC.w3, hC.w8, hC.w9, hC.w10, hC.w11, hC.w12, hC.w14, hC.w16, hC.w17, hC.w22, hC.w23, hC.w24, hC.w25, hC.w26, hC.w28, hC.w30, hC.w31, hC.w32, hC.w33, hC.w34, hC.w36, hC.w37, hC.w39, hC.w41, hC.w43, hC.w44, hC.w45, hC.w46, hC.w47, hC.w48, hC.w49, hC.w50, hC.w51, hC.w52, hC.w53, hC.w54, s3_at, s3_nk, s3_nj, mb_eq (C_isSheet _ _), ss.1, ss.2, show ¬ so = -1 by omega, mb_eq (C_isSort _ _), show 0 ≤ so by omega, c.2.1.2, show n ≤ 40 by omega, show 0 ≤ n by omega, hC.shR ss.1 ss.2, mb_eq (C_fillS hC ss.1 ss.2)]
        · unfold zR
          split
          · exact ⟨by omega, by omega⟩
          · exact (hg.s hso).s hn k j
        · rw [zR_o (by omega), s3_nk (by omega), s3_nj z]
        · rw [zR_o (by omega), s3_nj z, s3_nk (by omega)]
        · rw [zR_o (by omega), s3_nk (by omega), s3_at]
        · rw [zR_o (by omega), s3_at]
        · unfold zR
          rw [if_pos ⟨rfl, by omega, by omega⟩]
    · refine both_q (r := iI (oSheet s so n)) I ?_ (fun H hM => ?_)
      · unfold m11_sheet oSheet m11_sheet_p36
        rw [if_pos c, if_neg c2]
        simp (config := { maxSteps := 1000000 }) (disch := first | assumption | exact W.i _ _ | exact sLine_i W _ _ _ | exact W1.i _ _ | exact hg _ _ | exact W3.i _ _ | (refine ⟨?_, ?_⟩ <;> omega) | omega | (simp only [sW_1, sW_2, sW_3, sW_4, sW_5, sW_8] <;> first | assumption | omega | (refine ⟨?_, ?_⟩ <;> omega)) | (simp only [sT_1, sT_2, sT_3, sT_4, sT_5, sT_8] <;> first | assumption | omega | (refine ⟨?_, ?_⟩ <;> omega))) only [Int.reduceEq, Int.reduceLT, Int.reduceLE, Int.reduceNeg, Int.reduceAdd, Int.reduceSub, Int.reduceMul, if_true, if_false, not_true, not_false_eq_true, false_or, or_false, true_or, or_true, true_and, and_true, false_and, and_false, iI_on, iI_mul, iI_add, iI_sub, iI_neg, ap_if, mp_eq, mz_0, mz_1, mz_b, b2_0, b2_1, iI_lt, iI_le, iI_inj, mb_div, mb_rem, hC.m0, hC.m1, hC.m13, hC.m15, hC.m27, hC.m29, hC.m38, hC.m40, hC.g0_0, hC.g0_1, hC.g0_3, hC.g0_4, hC.g0_5, hC.g0_6, hC.g0_7, hC.g0_8, hC.g0_9, hC.g0_10, hC.g0_11, hC.g0_12, hC.g0_13, hC.g0_14, hC.g1_2, hC.g1_3, hC.g1_5, hC.g1_7, hC.g1_9, hC.g1_11, hC.g1_12, hC.g1_14, hC.g1_15, hC.g1_16, hC.g1_17, hC.g1_18, hC.g13_0, hC.g15_2, hC.g15_3, hC.g15_5, hC.g15_7, hC.g15_9, hC.g15_11, hC.g15_12, hC.g15_14, hC.g15_15, hC.g15_16, hC.g15_17, hC.g15_18, hC.g27_0, hC.g29_3, hC.g29_4, hC.g29_5, hC.g29_6, hC.g29_7, hC.g29_8, hC.g29_9, hC.g29_10, hC.g38_0, hC.g40_0, hC.s0_2, hC.s1_0, hC.s1_1, hC.s1_4, hC.s1_6, hC.s1_8, hC.s1_10, hC.s1_13, hC.s13_1, hC.s15_0, hC.s15_1, hC.s15_4, hC.s15_6, hC.s15_8, hC.s15_10, hC.s15_13, hC.s27_1, hC.s29_0, hC.s29_1, hC.s29_2, hC.s29_11, hC.s29_12, hC.s38_1, hC.s40_1, hC.s40_2, hC.l2, hC.l3, hC.l8, hC.l9, hC.l10, hC.l11, hC.l12, hC.l14, hC.l16, hC.l17, hC.l22, hC.l23, hC.l24, hC.l25, hC.l26, hC.l28, hC.l30, hC.l31, hC.l32, hC.l33, hC.l34, hC.l36, hC.l37, hC.l39, hC.l41, hC.l43, hC.l44, hC.l45, hC.l46, hC.l47, hC.l48, hC.l49, hC.l50, hC.l51, hC.l52, hC.l53, hC.l54, hC.l35, hC.n33, hC.n36, hC.p0_2, hC.p1_0, hC.p1_1, hC.p1_4, hC.p1_6, hC.p1_8, hC.p1_10, hC.p1_13, hC.p13_1, hC.p15_0, hC.p15_1, hC.p15_4, hC.p15_6, hC.p15_8, hC.p15_10, hC.p15_13, hC.p27_1, hC.p29_0, hC.p29_1, hC.p29_2, hC.p29_11, hC.p29_12, hC.p38_1, hC.p40_1, hC.p40_2, hC.w2, hC.w3, hC.w8, hC.w9, hC.w10, hC.w11, hC.w12, hC.w14, hC.w16, hC.w17, hC.w22, hC.w23, hC.w24, hC.w25, hC.w26, hC.w28, hC.w30, hC.w31, hC.w32, hC.w33, hC.w34, hC.w36, hC.w37, hC.w39, hC.w41, hC.w43, hC.w44, hC.w45, hC.w46, hC.w47, hC.w48, hC.w49, hC.w50, hC.w51, hC.w52, hC.w53, hC.w54, s3_at, s3_nk, s3_nj, mb_eq (C_isSheet _ _), ss.1, ss.2, show ¬ so = -1 by omega, mb_eq (C_isSort _ _), show 0 ≤ so by omega, c.2.1.2, show n ≤ 40 by omega, show ¬ 0 ≤ n by omega]
      · have := hB H hM
        unfold uSheet at this
        rw [if_pos c, if_neg c2] at this
        exact this
  · refine both_q (r := iI (oSheet s so n)) I ?_ (fun H hM => ?_)
    · unfold m11_sheet oSheet m11_sheet_p36
      rw [if_neg c]
      simp (config := { maxSteps := 1000000 }) (disch := first | assumption | exact W.i _ _ | exact sLine_i W _ _ _ | exact W1.i _ _ | exact hg _ _ | exact W3.i _ _ | (refine ⟨?_, ?_⟩ <;> omega) | omega | (simp only [sW_1, sW_2, sW_3, sW_4, sW_5, sW_8] <;> first | assumption | omega | (refine ⟨?_, ?_⟩ <;> omega)) | (simp only [sT_1, sT_2, sT_3, sT_4, sT_5, sT_8] <;> first | assumption | omega | (refine ⟨?_, ?_⟩ <;> omega))) only [Int.reduceEq, Int.reduceLT, Int.reduceLE, Int.reduceNeg, Int.reduceAdd, Int.reduceSub, Int.reduceMul, if_true, if_false, not_true, not_false_eq_true, false_or, or_false, true_or, or_true, true_and, and_true, false_and, and_false, iI_on, iI_mul, iI_add, iI_sub, iI_neg, ap_if, mp_eq, mz_0, mz_1, mz_b, b2_0, b2_1, iI_lt, iI_le, iI_inj, mb_div, mb_rem, hC.m0, hC.m1, hC.m13, hC.m15, hC.m27, hC.m29, hC.m38, hC.m40, hC.g0_0, hC.g0_1, hC.g0_3, hC.g0_4, hC.g0_5, hC.g0_6, hC.g0_7, hC.g0_8, hC.g0_9, hC.g0_10, hC.g0_11, hC.g0_12, hC.g0_13, hC.g0_14, hC.g1_2, hC.g1_3, hC.g1_5, hC.g1_7, hC.g1_9, hC.g1_11, hC.g1_12, hC.g1_14, hC.g1_15, hC.g1_16, hC.g1_17, hC.g1_18, hC.g13_0, hC.g15_2, hC.g15_3, hC.g15_5, hC.g15_7, hC.g15_9, hC.g15_11, hC.g15_12, hC.g15_14, hC.g15_15, hC.g15_16, hC.g15_17, hC.g15_18, hC.g27_0, hC.g29_3, hC.g29_4, hC.g29_5, hC.g29_6, hC.g29_7, hC.g29_8, hC.g29_9, hC.g29_10, hC.g38_0, hC.g40_0, hC.s0_2, hC.s1_0, hC.s1_1, hC.s1_4, hC.s1_6, hC.s1_8, hC.s1_10, hC.s1_13, hC.s13_1, hC.s15_0, hC.s15_1, hC.s15_4, hC.s15_6, hC.s15_8, hC.s15_10, hC.s15_13, hC.s27_1, hC.s29_0, hC.s29_1, hC.s29_2, hC.s29_11, hC.s29_12, hC.s38_1, hC.s40_1, hC.s40_2, hC.l2, hC.l3, hC.l8, hC.l9, hC.l10, hC.l11, hC.l12, hC.l14, hC.l16, hC.l17, hC.l22, hC.l23, hC.l24, hC.l25, hC.l26, hC.l28, hC.l30, hC.l31, hC.l32, hC.l33, hC.l34, hC.l36, hC.l37, hC.l39, hC.l41, hC.l43, hC.l44, hC.l45, hC.l46, hC.l47, hC.l48, hC.l49, hC.l50, hC.l51, hC.l52, hC.l53, hC.l54, hC.l35, hC.n33, hC.n36, hC.p0_2, hC.p1_0, hC.p1_1, hC.p1_4, hC.p1_6, hC.p1_8, hC.p1_10, hC.p1_13, hC.p13_1, hC.p15_0, hC.p15_1, hC.p15_4, hC.p15_6, hC.p15_8, hC.p15_10, hC.p15_13, hC.p27_1, hC.p29_0, hC.p29_1, hC.p29_2, hC.p29_11, hC.p29_12, hC.p38_1, hC.p40_1, hC.p40_2, hC.w2, hC.w3, hC.w8, hC.w9, hC.w10, hC.w11, hC.w12, hC.w14, hC.w16, hC.w17, hC.w22, hC.w23, hC.w24, hC.w25, hC.w26, hC.w28, hC.w30, hC.w31, hC.w32, hC.w33, hC.w34, hC.w36, hC.w37, hC.w39, hC.w41, hC.w43, hC.w44, hC.w45, hC.w46, hC.w47, hC.w48, hC.w49, hC.w50, hC.w51, hC.w52, hC.w53, hC.w54, s3_at, s3_nk, s3_nj, mb_eq (C_isSheet _ _), mb_eq (C_isSort _ _)]
      by_cases c1 : 0 ≤ s ∧ s ≤ 3
      · rw [if_neg (fun q => q c1), if_neg (by omega)]
        by_cases c2 : 0 ≤ so ∧ so ≤ 3
        · rw [if_neg (fun q => q c2), if_neg (by omega)]
        · rw [if_pos c2]
      · rw [if_pos c1]
    · have := hB H hM
      unfold uSheet at this
      rw [if_neg c] at this
      exact this
abbrev putA (sg : Nat → Int → Int) (s i : Int) : Prop := 0 ≤ i ∧ i < sg 22 s
def oPut (sg : Nat → Int → Int) (s i : Int) : Int := if 0 ≤ s ∧ s ≤ 3 then (if sg 21 s < 0 then -11 else if putA sg s i then 1 else -12) else -1
def uPut (sg : Nat → Int → Int) (s i v : Int) : Nat → Int → Int := if (0 ≤ s ∧ s ≤ 3) ∧ 0 ≤ sg 21 s ∧ putA sg s i then s3 sg 23 (40 * s + i) (sNar (sg 21 s) v) else sg
theorem sNar_32 (s v : Int) : i32 (sNar s v) := i32_of _
theorem B_put (hM : OKM M h) (W : WD sg) (X : WX sg) {s i v : Int} (hs : i32 s) (hi : i32 i) : m12_put M (iI s) (iI i) (iI v) (mK M sg h) = some (iI (oPut sg s i), mK M (uPut sg s i v) h) := by
  unfold oPut uPut m12_put
  by_cases c : 0 ≤ s ∧ s ≤ 3
  · have x := X.2.1 s c.1 (by omega)
    rw [if_pos c]
    by_cases c2 : sg 21 s < 0
    · rw [if_pos c2, if_neg (by omega)]
      simp (config := { maxSteps := 1000000 }) (disch := first | assumption | exact W.i _ _ | exact sLine_i W _ _ _ | exact W1.i _ _ | exact hg _ _ | exact W3.i _ _ | (refine ⟨?_, ?_⟩ <;> omega) | omega | (simp only [sW_1, sW_2, sW_3, sW_4, sW_5, sW_8] <;> first | assumption | omega | (refine ⟨?_, ?_⟩ <;> omega)) | (simp only [sT_1, sT_2, sT_3, sT_4, sT_5, sT_8] <;> first | assumption | omega | (refine ⟨?_, ?_⟩ <;> omega))) only [Int.reduceEq, Int.reduceLT, Int.reduceLE, Int.reduceNeg, Int.reduceAdd, Int.reduceSub, Int.reduceMul, if_true, if_false, not_true, not_false_eq_true, false_or, or_false, true_or, or_true, true_and, and_true, false_and, and_false, iI_on, iI_mul, iI_add, iI_sub, iI_neg, ap_if, mp_eq, mz_0, mz_1, mz_b, b2_0, b2_1, iI_lt, iI_le, iI_inj, mb_div, mb_rem, hM.m, hM.a1, hM.a2, hM.a3, hM.a4, hM.a5, hM.a6, hM.a7, hM.a8, hM.a9, hM.a10, hM.a11, hM.a12, hM.a13, hM.a14, hM.a15, hM.a16, hM.a17, hM.a18, hM.a19, hM.a20, hM.a21, hM.a22, hM.a23, hM.a24, hM.a25, hM.a26, hM.a27, hM.a28, hM.l1, hM.l2, hM.l3, hM.l4, hM.l5, hM.l6, hM.l7, hM.l8, hM.l9, hM.l10, hM.l11, hM.l12, hM.l13, hM.l14, hM.l15, hM.l16, hM.l17, hM.l18, hM.l19, hM.l20, hM.l21, hM.l22, hM.l23, hM.l24, hM.l25, hM.l26, hM.l27, hM.l28, hM.c10, hM.c11, hM.c12, hM.c13, hM.c14, hM.c15, hM.c19, hM.c20, hM.c23, hM.c27, hM.c36, hM.c37, hM.c38, hM.c40, hM.c41, hM.c42, hM.c44, mb_eq (B_isShelf _ _), c.1, c.2, show ¬ 0 ≤ sg 21 s by omega]
    · rw [if_neg c2]
      by_cases c3 : putA sg s i
      · rw [if_pos c3, if_pos ⟨c, by omega, c3⟩]
        simp (config := { maxSteps := 1000000 }) (disch := first | assumption | exact W.i _ _ | exact sLine_i W _ _ _ | exact W1.i _ _ | exact hg _ _ | exact W3.i _ _ | (refine ⟨?_, ?_⟩ <;> omega) | omega | (simp only [sW_1, sW_2, sW_3, sW_4, sW_5, sW_8] <;> first | assumption | omega | (refine ⟨?_, ?_⟩ <;> omega)) | (simp only [sT_1, sT_2, sT_3, sT_4, sT_5, sT_8] <;> first | assumption | omega | (refine ⟨?_, ?_⟩ <;> omega))) only [Int.reduceEq, Int.reduceLT, Int.reduceLE, Int.reduceNeg, Int.reduceAdd, Int.reduceSub, Int.reduceMul, if_true, if_false, not_true, not_false_eq_true, false_or, or_false, true_or, or_true, true_and, and_true, false_and, and_false, iI_on, iI_mul, iI_add, iI_sub, iI_neg, ap_if, mp_eq, mz_0, mz_1, mz_b, b2_0, b2_1, iI_lt, iI_le, iI_inj, mb_div, mb_rem, hM.m, hM.a1, hM.a2, hM.a3, hM.a4, hM.a5, hM.a6, hM.a7, hM.a8, hM.a9, hM.a10, hM.a11, hM.a12, hM.a13, hM.a14, hM.a15, hM.a16, hM.a17, hM.a18, hM.a19, hM.a20, hM.a21, hM.a22, hM.a23, hM.a24, hM.a25, hM.a26, hM.a27, hM.a28, hM.l1, hM.l2, hM.l3, hM.l4, hM.l5, hM.l6, hM.l7, hM.l8, hM.l9, hM.l10, hM.l11, hM.l12, hM.l13, hM.l14, hM.l15, hM.l16, hM.l17, hM.l18, hM.l19, hM.l20, hM.l21, hM.l22, hM.l23, hM.l24, hM.l25, hM.l26, hM.l27, hM.l28, hM.c10, hM.c11, hM.c12, hM.c13, hM.c14, hM.c15, hM.c19, hM.c20, hM.c23, hM.c27, hM.c36, hM.c37, hM.c38, hM.c40, hM.c41, hM.c42, hM.c44, hM.w1, hM.w2, hM.w3, hM.w4, hM.w5, hM.w6, hM.w7, hM.w8, hM.w9, hM.w10, hM.w11, hM.w12, hM.w13, hM.w14, hM.w15, hM.w16, hM.w17, hM.w18, hM.w19, hM.w20, hM.w21, hM.w22, hM.w23, hM.w24, hM.w25, hM.w26, hM.w27, hM.w28, hM.p10, hM.p11, hM.p12, hM.p13, hM.p14, hM.p15, hM.p19, hM.p20, hM.p23, hM.p27, hM.p36, hM.p37, hM.p38, hM.p40, hM.p41, hM.p42, hM.p44, s3_at, s3_nk, s3_nj, mb_eq (B_isShelf _ _), c.1, c.2, show 0 ≤ sg 21 s by omega, mb_eq (B_in _ _ _ _), c3.1, show i ≤ sg 22 s - 1 by omega, mb_eq (B_narrowed _ _ _), sNar_i]
      · rw [if_neg c3, if_neg (fun q => c3 q.2.2)]
        simp (config := { maxSteps := 1000000 }) (disch := first | assumption | exact W.i _ _ | exact sLine_i W _ _ _ | exact W1.i _ _ | exact hg _ _ | exact W3.i _ _ | (refine ⟨?_, ?_⟩ <;> omega) | omega | (simp only [sW_1, sW_2, sW_3, sW_4, sW_5, sW_8] <;> first | assumption | omega | (refine ⟨?_, ?_⟩ <;> omega)) | (simp only [sT_1, sT_2, sT_3, sT_4, sT_5, sT_8] <;> first | assumption | omega | (refine ⟨?_, ?_⟩ <;> omega))) only [Int.reduceEq, Int.reduceLT, Int.reduceLE, Int.reduceNeg, Int.reduceAdd, Int.reduceSub, Int.reduceMul, if_true, if_false, not_true, not_false_eq_true, false_or, or_false, true_or, or_true, true_and, and_true, false_and, and_false, iI_on, iI_mul, iI_add, iI_sub, iI_neg, ap_if, mp_eq, mz_0, mz_1, mz_b, b2_0, b2_1, iI_lt, iI_le, iI_inj, mb_div, mb_rem, hM.m, hM.a1, hM.a2, hM.a3, hM.a4, hM.a5, hM.a6, hM.a7, hM.a8, hM.a9, hM.a10, hM.a11, hM.a12, hM.a13, hM.a14, hM.a15, hM.a16, hM.a17, hM.a18, hM.a19, hM.a20, hM.a21, hM.a22, hM.a23, hM.a24, hM.a25, hM.a26, hM.a27, hM.a28, hM.l1, hM.l2, hM.l3, hM.l4, hM.l5, hM.l6, hM.l7, hM.l8, hM.l9, hM.l10, hM.l11, hM.l12, hM.l13, hM.l14, hM.l15, hM.l16, hM.l17, hM.l18, hM.l19, hM.l20, hM.l21, hM.l22, hM.l23, hM.l24, hM.l25, hM.l26, hM.l27, hM.l28, hM.c10, hM.c11, hM.c12, hM.c13, hM.c14, hM.c15, hM.c19, hM.c20, hM.c23, hM.c27, hM.c36, hM.c37, hM.c38, hM.c40, hM.c41, hM.c42, hM.c44, mb_eq (B_isShelf _ _), c.1, c.2, show 0 ≤ sg 21 s by omega, mb_eq (B_in _ _ _ _)]
        rw [if_pos (by omega)]
  · rw [if_neg c, if_neg (fun q => c q.1)]
    simp (config := { maxSteps := 1000000 }) (disch := first | assumption | exact W.i _ _ | exact sLine_i W _ _ _ | exact W1.i _ _ | exact hg _ _ | exact W3.i _ _ | (refine ⟨?_, ?_⟩ <;> omega) | omega | (simp only [sW_1, sW_2, sW_3, sW_4, sW_5, sW_8] <;> first | assumption | omega | (refine ⟨?_, ?_⟩ <;> omega)) | (simp only [sT_1, sT_2, sT_3, sT_4, sT_5, sT_8] <;> first | assumption | omega | (refine ⟨?_, ?_⟩ <;> omega))) only [Int.reduceEq, Int.reduceLT, Int.reduceLE, Int.reduceNeg, Int.reduceAdd, Int.reduceSub, Int.reduceMul, if_true, if_false, not_true, not_false_eq_true, false_or, or_false, true_or, or_true, true_and, and_true, false_and, and_false, iI_on, iI_mul, iI_add, iI_sub, iI_neg, ap_if, mp_eq, mz_0, mz_1, mz_b, b2_0, b2_1, iI_lt, iI_le, iI_inj, mb_div, mb_rem, hM.m, hM.a1, hM.a2, hM.a3, hM.a4, hM.a5, hM.a6, hM.a7, hM.a8, hM.a9, hM.a10, hM.a11, hM.a12, hM.a13, hM.a14, hM.a15, hM.a16, hM.a17, hM.a18, hM.a19, hM.a20, hM.a21, hM.a22, hM.a23, hM.a24, hM.a25, hM.a26, hM.a27, hM.a28, hM.l1, hM.l2, hM.l3, hM.l4, hM.l5, hM.l6, hM.l7, hM.l8, hM.l9, hM.l10, hM.l11, hM.l12, hM.l13, hM.l14, hM.l15, hM.l16, hM.l17, hM.l18, hM.l19, hM.l20, hM.l21, hM.l22, hM.l23, hM.l24, hM.l25, hM.l26, hM.l27, hM.l28, hM.c10, hM.c11, hM.c12, hM.c13, hM.c14, hM.c15, hM.c19, hM.c20, hM.c23, hM.c27, hM.c36, hM.c37, hM.c38, hM.c40, hM.c41, hM.c42, hM.c44, mb_eq (B_isShelf _ _)]
    rw [if_pos c]
theorem T_put (I : Inv sg rho h) {s i v : Int} (hs : i32 s) (hi : i32 i) : Both (m11_put 0 (iI s) (iI i) (iI v)) (m12_put 55 (iI s) (iI i) (iI v)) rho h := by
  have hC := I.1.1
  have hg := I.1.2.2.1
  have W := I.2.1
  have X := I.2.2.1
  have hB := fun H (hM : OKM 55 H) => B_put (h := H) (v := v) hM W X hs hi
  obtain ⟨x1, x2, x3, x4, x5⟩ := I.1.2.2.2.2.2.2
  by_cases c : (0 ≤ s ∧ s ≤ 3) ∧ 0 ≤ sg 21 s ∧ putA sg s i
  · obtain ⟨ss, c2, c3⟩ := id c
    have xw := X.2.1 s ss.1 (by omega)
    obtain ⟨y1, y2⟩ := x3 s ss.1 (by omega)
    obtain ⟨y2, y3⟩ := y2 c2
    have eu : uPut sg s i v = s3 sg 23 (40 * s + i) (sNar (sg 21 s) v) := if_pos c
    refine both_of (r := iI (oPut sg s i)) (rho' := s3 rho (43 + s.toNat) i (sNar (sg 21 s) v)) (sg' := uPut sg s i v) I ?_ ?_ (hG.rf h) hB ?_ ?_ ?_
    · unfold m11_put oPut
      rw [if_pos ss, if_neg (show ¬ sg 21 s < 0 by omega), if_pos c3]
      simp (config := { maxSteps := 1000000 }) (disch := first | assumption | exact W.i _ _ | exact sLine_i W _ _ _ | exact W1.i _ _ | exact hg _ _ | exact W3.i _ _ | (refine ⟨?_, ?_⟩ <;> omega) | omega | (simp only [sW_1, sW_2, sW_3, sW_4, sW_5, sW_8] <;> first | assumption | omega | (refine ⟨?_, ?_⟩ <;> omega)) | (simp only [sT_1, sT_2, sT_3, sT_4, sT_5, sT_8] <;> first | assumption | omega | (refine ⟨?_, ?_⟩ <;> omega))) only [Int.reduceEq, Int.reduceLT, Int.reduceLE, Int.reduceNeg, Int.reduceAdd, Int.reduceSub, Int.reduceMul, if_true, if_false, not_true, not_false_eq_true, false_or, or_false, true_or, or_true, true_and, and_true, false_and, and_false, iI_on, iI_mul, iI_add, iI_sub, iI_neg, ap_if, mp_eq, mz_0, mz_1, mz_b, b2_0, b2_1, iI_lt, iI_le, iI_inj, mb_div, mb_rem, hC.m0, hC.m1, hC.m13, hC.m15, hC.m27, hC.m29, hC.m38, hC.m40, hC.g0_0, hC.g0_1, hC.g0_3, hC.g0_4, hC.g0_5, hC.g0_6, hC.g0_7, hC.g0_8, hC.g0_9, hC.g0_10, hC.g0_11, hC.g0_12, hC.g0_13, hC.g0_14, hC.g1_2, hC.g1_3, hC.g1_5, hC.g1_7, hC.g1_9, hC.g1_11, hC.g1_12, hC.g1_14, hC.g1_15, hC.g1_16, hC.g1_17, hC.g1_18, hC.g13_0, hC.g15_2, hC.g15_3, hC.g15_5, hC.g15_7, hC.g15_9, hC.g15_11, hC.g15_12, hC.g15_14, hC.g15_15, hC.g15_16, hC.g15_17, hC.g15_18, hC.g27_0, hC.g29_3, hC.g29_4, hC.g29_5, hC.g29_6, hC.g29_7, hC.g29_8, hC.g29_9, hC.g29_10, hC.g38_0, hC.g40_0, hC.s0_2, hC.s1_0, hC.s1_1, hC.s1_4, hC.s1_6, hC.s1_8, hC.s1_10, hC.s1_13, hC.s13_1, hC.s15_0, hC.s15_1, hC.s15_4, hC.s15_6, hC.s15_8, hC.s15_10, hC.s15_13, hC.s27_1, hC.s29_0, hC.s29_1, hC.s29_2, hC.s29_11, hC.s29_12, hC.s38_1, hC.s40_1, hC.s40_2, hC.l2, hC.l3, hC.l8, hC.l9, hC.l10, hC.l11, hC.l12, hC.l14, hC.l16, hC.l17, hC.l22, hC.l23, hC.l24, hC.l25, hC.l26, hC.l28, hC.l30, hC.l31, hC.l32, hC.l33, hC.l34, hC.l36, hC.l37, hC.l39, hC.l41, hC.l43, hC.l44, hC.l45, hC.l46, hC.l47, hC.l48, hC.l49, hC.l50, hC.l51, hC.l52, hC.l53, hC.l54, hC.l35, hC.n33, hC.n36, hC.p0_2, hC.p1_0, hC.p1_1, hC.p1_4, hC.p1_6, hC.p1_8, hC.p1_10, hC.p1_13, hC.p13_1, hC.p15_0, hC.p15_1, hC.p15_4, hC.p15_6, hC.p15_8, hC.p15_10, hC.p15_13, hC.p27_1, hC.p29_0, hC.p29_1, hC.p29_2, hC.p29_11, hC.p29_12, hC.p38_1, hC.p40_1, hC.p40_2, hC.w2, hC.w3, hC.w8, hC.w9, hC.w10, hC.w11, hC.w12, hC.w14, hC.w16, hC.w17, hC.w22, hC.w23, hC.w24, hC.w25, hC.w26, hC.w28, hC.w30, hC.w31, hC.w32, hC.w33, hC.w34, hC.w36, hC.w37, hC.w39, hC.w41, hC.w43, hC.w44, hC.w45, hC.w46, hC.w47, hC.w48, hC.w49, hC.w50, hC.w51, hC.w52, hC.w53, hC.w54, s3_at, s3_nk, s3_nj, mb_eq (C_isSheet _ _), ss.1, ss.2, y1, show ¬ sg 21 s = -1 by omega, show ¬ i < 0 by omega, y2, c3.2, hC.shR ss.1 ss.2, mb_eq (C_narrowed _ _ _), sNar_i, hC.wS ss.1 ss.2]
    · rw [eu]
      refine I.1.ho (fun q q0 q1 => s3_o (by omega)) (s3_o (by omega)) rfl (fun q hq => s3_o (by omega)) (hg.s (sNar_32 _ _)) ?_ ?_ ?_ ?_ ?_
      · unfold XR
        rw [s3_o (show 38 ≠ 43 + s.toNat by omega), s3_o (show 39 ≠ 43 + s.toNat by omega)]; exact x1
      · unfold XT
        rw [s3_o (show 29 ≠ 43 + s.toNat by omega), s3_o (show 35 ≠ 43 + s.toNat by omega)]; exact x2
      · intro t t0 t1
        obtain ⟨z1, z2⟩ := x3 t t0 t1
        rw [s3_o (show 47 ≠ 43 + s.toNat by omega), s3_o (show 48 ≠ 43 + s.toNat by omega)]
        refine ⟨z1, fun z => ⟨(z2 z).1, fun j j0 j1 => ?_⟩⟩
        have zz := (z2 z).2 j j0 j1
        by_cases e : t = s ∧ j = i
        · obtain ⟨rfl, rfl⟩ := e
          rw [s3_at, s3_at]
        · by_cases et : t = s
          · subst et
            rw [s3_nj (by omega), s3_nj (by omega)]
            exact zz
          · rw [s3_nk (by omega), s3_nj (by omega)]
            exact zz
      · unfold XH
        rw [s3_o (show 49 ≠ 43 + s.toNat by omega), s3_o (show 50 ≠ 43 + s.toNat by omega), s3_o (show 51 ≠ 43 + s.toNat by omega), s3_o (show 52 ≠ 43 + s.toNat by omega)]; exact x4
      · unfold XB
        rw [s3_o (show 40 ≠ 43 + s.toNat by omega), s3_o (show 41 ≠ 43 + s.toNat by omega), s3_o (show 54 ≠ 43 + s.toNat by omega)]; exact x5
    · rw [eu]; exact WD_out W (by omega) (sNar_32 _ _)
    · rw [eu]; exact X
    · rw [eu]; exact I.2.2.2.1.o ⟨rfl, rfl⟩ (fun q q0 q1 => s3_o (by omega)) (s3_o (by omega)) (s3_o (by omega))
  · refine both_q (r := iI (oPut sg s i)) I ?_ (fun H hM => ?_)
    · unfold m11_put oPut m11_put_p36
      by_cases ss : 0 ≤ s ∧ s ≤ 3
      · have xw := X.2.1 s ss.1 (by omega)
        obtain ⟨y1, y2⟩ := x3 s ss.1 (by omega)
        rw [if_pos ss]
        by_cases c2 : sg 21 s < 0
        · rw [if_pos c2]
          simp (config := { maxSteps := 1000000 }) (disch := first | assumption | exact W.i _ _ | exact sLine_i W _ _ _ | exact W1.i _ _ | exact hg _ _ | exact W3.i _ _ | (refine ⟨?_, ?_⟩ <;> omega) | omega | (simp only [sW_1, sW_2, sW_3, sW_4, sW_5, sW_8] <;> first | assumption | omega | (refine ⟨?_, ?_⟩ <;> omega)) | (simp only [sT_1, sT_2, sT_3, sT_4, sT_5, sT_8] <;> first | assumption | omega | (refine ⟨?_, ?_⟩ <;> omega))) only [Int.reduceEq, Int.reduceLT, Int.reduceLE, Int.reduceNeg, Int.reduceAdd, Int.reduceSub, Int.reduceMul, if_true, if_false, not_true, not_false_eq_true, false_or, or_false, true_or, or_true, true_and, and_true, false_and, and_false, iI_on, iI_mul, iI_add, iI_sub, iI_neg, ap_if, mp_eq, mz_0, mz_1, mz_b, b2_0, b2_1, iI_lt, iI_le, iI_inj, mb_div, mb_rem, hC.m0, hC.m1, hC.m13, hC.m15, hC.m27, hC.m29, hC.m38, hC.m40, hC.g0_0, hC.g0_1, hC.g0_3, hC.g0_4, hC.g0_5, hC.g0_6, hC.g0_7, hC.g0_8, hC.g0_9, hC.g0_10, hC.g0_11, hC.g0_12, hC.g0_13, hC.g0_14, hC.g1_2, hC.g1_3, hC.g1_5, hC.g1_7, hC.g1_9, hC.g1_11, hC.g1_12, hC.g1_14, hC.g1_15, hC.g1_16, hC.g1_17, hC.g1_18, hC.g13_0, hC.g15_2, hC.g15_3, hC.g15_5, hC.g15_7, hC.g15_9, hC.g15_11, hC.g15_12, hC.g15_14, hC.g15_15, hC.g15_16, hC.g15_17, hC.g15_18, hC.g27_0, hC.g29_3, hC.g29_4, hC.g29_5, hC.g29_6, hC.g29_7, hC.g29_8, hC.g29_9, hC.g29_10, hC.g38_0, hC.g40_0, hC.s0_2, hC.s1_0, hC.s1_1, hC.s1_4, hC.s1_6, hC.s1_8, hC.s1_10, hC.s1_13, hC.s13_1, hC.s15_0, hC.s15_1, hC.s15_4, hC.s15_6, hC.s15_8, hC.s15_10, hC.s15_13, hC.s27_1, hC.s29_0, hC.s29_1, hC.s29_2, hC.s29_11, hC.s29_12, hC.s38_1, hC.s40_1, hC.s40_2, hC.l2, hC.l3, hC.l8, hC.l9, hC.l10, hC.l11, hC.l12, hC.l14, hC.l16, hC.l17, hC.l22, hC.l23, hC.l24, hC.l25, hC.l26, hC.l28, hC.l30, hC.l31, hC.l32, hC.l33, hC.l34, hC.l36, hC.l37, hC.l39, hC.l41, hC.l43, hC.l44, hC.l45, hC.l46, hC.l47, hC.l48, hC.l49, hC.l50, hC.l51, hC.l52, hC.l53, hC.l54, hC.l35, hC.n33, hC.n36, hC.p0_2, hC.p1_0, hC.p1_1, hC.p1_4, hC.p1_6, hC.p1_8, hC.p1_10, hC.p1_13, hC.p13_1, hC.p15_0, hC.p15_1, hC.p15_4, hC.p15_6, hC.p15_8, hC.p15_10, hC.p15_13, hC.p27_1, hC.p29_0, hC.p29_1, hC.p29_2, hC.p29_11, hC.p29_12, hC.p38_1, hC.p40_1, hC.p40_2, hC.w2, hC.w3, hC.w8, hC.w9, hC.w10, hC.w11, hC.w12, hC.w14, hC.w16, hC.w17, hC.w22, hC.w23, hC.w24, hC.w25, hC.w26, hC.w28, hC.w30, hC.w31, hC.w32, hC.w33, hC.w34, hC.w36, hC.w37, hC.w39, hC.w41, hC.w43, hC.w44, hC.w45, hC.w46, hC.w47, hC.w48, hC.w49, hC.w50, hC.w51, hC.w52, hC.w53, hC.w54, s3_at, s3_nk, s3_nj, mb_eq (C_isSheet _ _), ss.1, ss.2, y1, show sg 21 s = -1 by omega]
        · obtain ⟨y2, y3⟩ := y2 (by omega)
          rw [if_neg c2, if_neg (fun q => c ⟨ss, by omega, q⟩)]
          simp (config := { maxSteps := 1000000 }) (disch := first | assumption | exact W.i _ _ | exact sLine_i W _ _ _ | exact W1.i _ _ | exact hg _ _ | exact W3.i _ _ | (refine ⟨?_, ?_⟩ <;> omega) | omega | (simp only [sW_1, sW_2, sW_3, sW_4, sW_5, sW_8] <;> first | assumption | omega | (refine ⟨?_, ?_⟩ <;> omega)) | (simp only [sT_1, sT_2, sT_3, sT_4, sT_5, sT_8] <;> first | assumption | omega | (refine ⟨?_, ?_⟩ <;> omega))) only [Int.reduceEq, Int.reduceLT, Int.reduceLE, Int.reduceNeg, Int.reduceAdd, Int.reduceSub, Int.reduceMul, if_true, if_false, not_true, not_false_eq_true, false_or, or_false, true_or, or_true, true_and, and_true, false_and, and_false, iI_on, iI_mul, iI_add, iI_sub, iI_neg, ap_if, mp_eq, mz_0, mz_1, mz_b, b2_0, b2_1, iI_lt, iI_le, iI_inj, mb_div, mb_rem, hC.m0, hC.m1, hC.m13, hC.m15, hC.m27, hC.m29, hC.m38, hC.m40, hC.g0_0, hC.g0_1, hC.g0_3, hC.g0_4, hC.g0_5, hC.g0_6, hC.g0_7, hC.g0_8, hC.g0_9, hC.g0_10, hC.g0_11, hC.g0_12, hC.g0_13, hC.g0_14, hC.g1_2, hC.g1_3, hC.g1_5, hC.g1_7, hC.g1_9, hC.g1_11, hC.g1_12, hC.g1_14, hC.g1_15, hC.g1_16, hC.g1_17, hC.g1_18, hC.g13_0, hC.g15_2, hC.g15_3, hC.g15_5, hC.g15_7, hC.g15_9, hC.g15_11, hC.g15_12, hC.g15_14, hC.g15_15, hC.g15_16, hC.g15_17, hC.g15_18, hC.g27_0, hC.g29_3, hC.g29_4, hC.g29_5, hC.g29_6, hC.g29_7, hC.g29_8, hC.g29_9, hC.g29_10, hC.g38_0, hC.g40_0, hC.s0_2, hC.s1_0, hC.s1_1, hC.s1_4, hC.s1_6, hC.s1_8, hC.s1_10, hC.s1_13, hC.s13_1, hC.s15_0, hC.s15_1, hC.s15_4, hC.s15_6, hC.s15_8, hC.s15_10, hC.s15_13, hC.s27_1, hC.s29_0, hC.s29_1, hC.s29_2, hC.s29_11, hC.s29_12, hC.s38_1, hC.s40_1, hC.s40_2, hC.l2, hC.l3, hC.l8, hC.l9, hC.l10, hC.l11, hC.l12, hC.l14, hC.l16, hC.l17, hC.l22, hC.l23, hC.l24, hC.l25, hC.l26, hC.l28, hC.l30, hC.l31, hC.l32, hC.l33, hC.l34, hC.l36, hC.l37, hC.l39, hC.l41, hC.l43, hC.l44, hC.l45, hC.l46, hC.l47, hC.l48, hC.l49, hC.l50, hC.l51, hC.l52, hC.l53, hC.l54, hC.l35, hC.n33, hC.n36, hC.p0_2, hC.p1_0, hC.p1_1, hC.p1_4, hC.p1_6, hC.p1_8, hC.p1_10, hC.p1_13, hC.p13_1, hC.p15_0, hC.p15_1, hC.p15_4, hC.p15_6, hC.p15_8, hC.p15_10, hC.p15_13, hC.p27_1, hC.p29_0, hC.p29_1, hC.p29_2, hC.p29_11, hC.p29_12, hC.p38_1, hC.p40_1, hC.p40_2, hC.w2, hC.w3, hC.w8, hC.w9, hC.w10, hC.w11, hC.w12, hC.w14, hC.w16, hC.w17, hC.w22, hC.w23, hC.w24, hC.w25, hC.w26, hC.w28, hC.w30, hC.w31, hC.w32, hC.w33, hC.w34, hC.w36, hC.w37, hC.w39, hC.w41, hC.w43, hC.w44, hC.w45, hC.w46, hC.w47, hC.w48, hC.w49, hC.w50, hC.w51, hC.w52, hC.w53, hC.w54, s3_at, s3_nk, s3_nj, mb_eq (C_isSheet _ _), ss.1, ss.2, y1, show ¬ sg 21 s = -1 by omega, y2]
          by_cases ci : i < 0
          · rw [if_pos ci]
          · rw [if_neg ci, if_neg (fun q => c ⟨ss, by omega, by omega, q⟩)]
      · rw [if_neg ss]
        simp (config := { maxSteps := 1000000 }) (disch := first | assumption | exact W.i _ _ | exact sLine_i W _ _ _ | exact W1.i _ _ | exact hg _ _ | exact W3.i _ _ | (refine ⟨?_, ?_⟩ <;> omega) | omega | (simp only [sW_1, sW_2, sW_3, sW_4, sW_5, sW_8] <;> first | assumption | omega | (refine ⟨?_, ?_⟩ <;> omega)) | (simp only [sT_1, sT_2, sT_3, sT_4, sT_5, sT_8] <;> first | assumption | omega | (refine ⟨?_, ?_⟩ <;> omega))) only [Int.reduceEq, Int.reduceLT, Int.reduceLE, Int.reduceNeg, Int.reduceAdd, Int.reduceSub, Int.reduceMul, if_true, if_false, not_true, not_false_eq_true, false_or, or_false, true_or, or_true, true_and, and_true, false_and, and_false, iI_on, iI_mul, iI_add, iI_sub, iI_neg, ap_if, mp_eq, mz_0, mz_1, mz_b, b2_0, b2_1, iI_lt, iI_le, iI_inj, mb_div, mb_rem, hC.m0, hC.m1, hC.m13, hC.m15, hC.m27, hC.m29, hC.m38, hC.m40, hC.g0_0, hC.g0_1, hC.g0_3, hC.g0_4, hC.g0_5, hC.g0_6, hC.g0_7, hC.g0_8, hC.g0_9, hC.g0_10, hC.g0_11, hC.g0_12, hC.g0_13, hC.g0_14, hC.g1_2, hC.g1_3, hC.g1_5, hC.g1_7, hC.g1_9, hC.g1_11, hC.g1_12, hC.g1_14, hC.g1_15, hC.g1_16, hC.g1_17, hC.g1_18, hC.g13_0, hC.g15_2, hC.g15_3, hC.g15_5, hC.g15_7, hC.g15_9, hC.g15_11, hC.g15_12, hC.g15_14, hC.g15_15, hC.g15_16, hC.g15_17, hC.g15_18, hC.g27_0, hC.g29_3, hC.g29_4, hC.g29_5, hC.g29_6, hC.g29_7, hC.g29_8, hC.g29_9, hC.g29_10, hC.g38_0, hC.g40_0, hC.s0_2, hC.s1_0, hC.s1_1, hC.s1_4, hC.s1_6, hC.s1_8, hC.s1_10, hC.s1_13, hC.s13_1, hC.s15_0, hC.s15_1, hC.s15_4, hC.s15_6, hC.s15_8, hC.s15_10, hC.s15_13, hC.s27_1, hC.s29_0, hC.s29_1, hC.s29_2, hC.s29_11, hC.s29_12, hC.s38_1, hC.s40_1, hC.s40_2, hC.l2, hC.l3, hC.l8, hC.l9, hC.l10, hC.l11, hC.l12, hC.l14, hC.l16, hC.l17, hC.l22, hC.l23, hC.l24, hC.l25, hC.l26, hC.l28, hC.l30, hC.l31, hC.l32, hC.l33, hC.l34, hC.l36, hC.l37, hC.l39, hC.l41, hC.l43, hC.l44, hC.l45, hC.l46, hC.l47, hC.l48, hC.l49, hC.l50, hC.l51, hC.l52, hC.l53, hC.l54, hC.l35, hC.n33, hC.n36, hC.p0_2, hC.p1_0, hC.p1_1, hC.p1_4, hC.p1_6, hC.p1_8, hC.p1_10, hC.p1_13, hC.p13_1, hC.p15_0, hC.p15_1, hC.p15_4, hC.p15_6, hC.p15_8, hC.p15_10, hC.p15_13, hC.p27_1, hC.p29_0, hC.p29_1, hC.p29_2, hC.p29_11, hC.p29_12, hC.p38_1, hC.p40_1, hC.p40_2, hC.w2, hC.w3, hC.w8, hC.w9, hC.w10, hC.w11, hC.w12, hC.w14, hC.w16, hC.w17, hC.w22, hC.w23, hC.w24, hC.w25, hC.w26, hC.w28, hC.w30, hC.w31, hC.w32, hC.w33, hC.w34, hC.w36, hC.w37, hC.w39, hC.w41, hC.w43, hC.w44, hC.w45, hC.w46, hC.w47, hC.w48, hC.w49, hC.w50, hC.w51, hC.w52, hC.w53, hC.w54, s3_at, s3_nk, s3_nj, mb_eq (C_isSheet _ _)]
        rw [if_pos ss]
    · have := hB H hM
      unfold uPut at this
      rw [if_neg c] at this
      exact this
end SHEETS

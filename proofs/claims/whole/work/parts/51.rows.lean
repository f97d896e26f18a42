/-! ===== the reference: rows, another, like, sheets, shelves ===== -/
/-- what else always holds of the reference's numbers -/
def WX (sg : Nat → Int → Int) : Prop := (0 ≤ sg 0 27 ∧ sg 0 27 ≤ 16) ∧ (∀ j, 0 ≤ j → j < 4 → -1 ≤ sg 21 j ∧ sg 21 j ≤ 3 ∧ 0 ≤ sg 22 j ∧ sg 22 j ≤ 40) ∧ (∀ j, 0 ≤ j → j < 4 → -1 ≤ sg 24 j ∧ sg 24 j ≤ 4) ∧ (0 ≤ sg 0 40 ∧ sg 0 40 ≤ 30)
section ROWS
variable {M : Nat} {sg : Nat → Int → Int} {h : gH}
/-- the rows that prove writes -/
def uRows (sg : Nat → Int → Int) (g : Nat → Int → Int) (n : Nat) : Nat → Int → Int := fo (fun s i => s3 (s3 (s3 s 19 (3 * i) (g 16 i)) 19 (3 * i + 1) (g 17 i)) 19 (3 * i + 2) (g 18 i)) n sg 0
theorem s3_T {sg g : Nat → Int → Int} {k : Nat} {j v : Int} (h : ¬ (k = 15 ∨ k = 16 ∨ k = 17 ∨ k = 18 ∨ k = 20) ∧ (k ≠ 0 ∨ j ≠ 23)) : s3 (sT sg g) k j v = sT (s3 sg k j v) g := by
  funext k' j'
  unfold s3 sT
  by_cases h1 : k' = k
  · subst h1
    simp only [h.1, if_false]
    by_cases h0 : k' = 0
    · subst h0
      by_cases h2 : j' = j
      · subst h2
        have h3 : ¬ j' = 23 := by have := h.2; omega
        simp [h3]
      · simp [h2]
    · simp [h0]
  · by_cases h0 : k' = 0
    · subst h0
      have h2 : ¬ 0 = k := fun q => h1 q
      simp [h2]
    · simp [h1, h0]
abbrev isRw (sg : Nat → Int → Int) (i w : Int) : Prop := (0 ≤ i ∧ i < sg 0 27) ∧ 0 ≤ w ∧ w ≤ 2
theorem B_isRow (hM : OKM M h) (X : WX sg) {i w : Int} (hi : i32 i) (hw : i32 w) : m12_isRow M (iI i) (iI w) (mK M sg h) = some (iI (b2 (isRw sg i w)), mK M sg h) := by
  have n27 := X.1
  unfold m12_isRow m12_isRow_p27 m12_isRow_p28
  (repeat' (first | simp (config := { maxSteps := 1000000 }) (disch := first | assumption | exact W.i _ _ | exact sLine_i W _ _ _ | exact W1.i _ _ | exact hg _ _ | exact W3.i _ _ | (refine ⟨?_, ?_⟩ <;> omega) | omega | (simp only [sW_1, sW_2, sW_3, sW_4, sW_5, sW_8] <;> first | assumption | omega | (refine ⟨?_, ?_⟩ <;> omega)) | (simp only [sT_1, sT_2, sT_3, sT_4, sT_5, sT_8] <;> first | assumption | omega | (refine ⟨?_, ?_⟩ <;> omega))) only [Int.reduceEq, Int.reduceLT, Int.reduceLE, Int.reduceNeg, Int.reduceAdd, Int.reduceSub, Int.reduceMul, if_true, if_false, not_true, not_false_eq_true, false_or, or_false, true_or, or_true, true_and, and_true, false_and, and_false, iI_on, iI_mul, iI_add, iI_sub, iI_neg, ap_if, mp_eq, mz_0, mz_1, mz_b, b2_0, b2_1, iI_lt, iI_le, iI_inj, mb_div, mb_rem, hM.m, hM.a1, hM.a2, hM.a3, hM.a4, hM.a5, hM.a6, hM.a7, hM.a8, hM.a9, hM.a10, hM.a11, hM.a12, hM.a13, hM.a14, hM.a15, hM.a16, hM.a17, hM.a18, hM.a19, hM.a20, hM.a21, hM.a22, hM.a23, hM.a24, hM.a25, hM.a26, hM.a27, hM.a28, hM.l1, hM.l2, hM.l3, hM.l4, hM.l5, hM.l6, hM.l7, hM.l8, hM.l9, hM.l10, hM.l11, hM.l12, hM.l13, hM.l14, hM.l15, hM.l16, hM.l17, hM.l18, hM.l19, hM.l20, hM.l21, hM.l22, hM.l23, hM.l24, hM.l25, hM.l26, hM.l27, hM.l28, hM.c10, hM.c11, hM.c12, hM.c13, hM.c14, hM.c15, hM.c19, hM.c20, hM.c23, hM.c27, hM.c36, hM.c37, hM.c38, hM.c40, hM.c41, hM.c42, hM.c44, mb_eq (B_in _ _ _ _)] | split)) <;> (first | with_reducible rfl | omega | rfl | (subst_vars; rfl) | (simp only [*, Int.add_zero]; done) | (rw [b2_t (by omega)]; done) | (rw [b2_f (by omega)]; done) | (rw [b2_f (by omega), Int.add_zero]))
def oRow (sg : Nat → Int → Int) (i w : Int) : Int := if isRw sg i w then sg 19 (3 * i + w) else -9
theorem B_row (hM : OKM M h) (X : WX sg) {i w : Int} (hi : i32 i) (hw : i32 w) : m12_row M (iI i) (iI w) (mK M sg h) = some (iI (oRow sg i w), mK M sg h) := by
  have n27 := X.1
  unfold m12_row oRow m12_row_p24
  (repeat' (first | simp (config := { maxSteps := 1000000 }) (disch := first | assumption | exact W.i _ _ | exact sLine_i W _ _ _ | exact W1.i _ _ | exact hg _ _ | exact W3.i _ _ | (refine ⟨?_, ?_⟩ <;> omega) | omega | (simp only [sW_1, sW_2, sW_3, sW_4, sW_5, sW_8] <;> first | assumption | omega | (refine ⟨?_, ?_⟩ <;> omega)) | (simp only [sT_1, sT_2, sT_3, sT_4, sT_5, sT_8] <;> first | assumption | omega | (refine ⟨?_, ?_⟩ <;> omega))) only [Int.reduceEq, Int.reduceLT, Int.reduceLE, Int.reduceNeg, Int.reduceAdd, Int.reduceSub, Int.reduceMul, if_true, if_false, not_true, not_false_eq_true, false_or, or_false, true_or, or_true, true_and, and_true, false_and, and_false, iI_on, iI_mul, iI_add, iI_sub, iI_neg, ap_if, mp_eq, mz_0, mz_1, mz_b, b2_0, b2_1, iI_lt, iI_le, iI_inj, mb_div, mb_rem, hM.m, hM.a1, hM.a2, hM.a3, hM.a4, hM.a5, hM.a6, hM.a7, hM.a8, hM.a9, hM.a10, hM.a11, hM.a12, hM.a13, hM.a14, hM.a15, hM.a16, hM.a17, hM.a18, hM.a19, hM.a20, hM.a21, hM.a22, hM.a23, hM.a24, hM.a25, hM.a26, hM.a27, hM.a28, hM.l1, hM.l2, hM.l3, hM.l4, hM.l5, hM.l6, hM.l7, hM.l8, hM.l9, hM.l10, hM.l11, hM.l12, hM.l13, hM.l14, hM.l15, hM.l16, hM.l17, hM.l18, hM.l19, hM.l20, hM.l21, hM.l22, hM.l23, hM.l24, hM.l25, hM.l26, hM.l27, hM.l28, hM.c10, hM.c11, hM.c12, hM.c13, hM.c14, hM.c15, hM.c19, hM.c20, hM.c23, hM.c27, hM.c36, hM.c37, hM.c38, hM.c40, hM.c41, hM.c42, hM.c44, mb_eq (B_isRow hM X _ _)] | split)) <;> (first | with_reducible rfl | omega | rfl | (subst_vars; rfl) | (simp only [*, Int.add_zero]; done) | (rw [b2_t (by omega)]; done) | (rw [b2_f (by omega)]; done) | (rw [b2_f (by omega), Int.add_zero]))
def uAlter (sg : Nat → Int → Int) (i w v : Int) : Nat → Int → Int := if isRw sg i w then s3 sg 19 (3 * i + w) v else sg
theorem B_alterRow (hM : OKM M h) (X : WX sg) {i w v : Int} (hi : i32 i) (hw : i32 w) : m12_alterRow M (iI i) (iI w) (iI v) (mK M sg h) = some (iI (oRow sg i w), mK M (uAlter sg i w v) h) := by
  have n27 := X.1
  unfold m12_alterRow oRow uAlter
  (repeat' (first | simp (config := { maxSteps := 1000000 }) (disch := first | assumption | exact W.i _ _ | exact sLine_i W _ _ _ | exact W1.i _ _ | exact hg _ _ | exact W3.i _ _ | (refine ⟨?_, ?_⟩ <;> omega) | omega | (simp only [sW_1, sW_2, sW_3, sW_4, sW_5, sW_8] <;> first | assumption | omega | (refine ⟨?_, ?_⟩ <;> omega)) | (simp only [sT_1, sT_2, sT_3, sT_4, sT_5, sT_8] <;> first | assumption | omega | (refine ⟨?_, ?_⟩ <;> omega))) only [Int.reduceEq, Int.reduceLT, Int.reduceLE, Int.reduceNeg, Int.reduceAdd, Int.reduceSub, Int.reduceMul, if_true, if_false, not_true, not_false_eq_true, false_or, or_false, true_or, or_true, true_and, and_true, false_and, and_false, iI_on, iI_mul, iI_add, iI_sub, iI_neg, ap_if, mp_eq, mz_0, mz_1, mz_b, b2_0, b2_1, iI_lt, iI_le, iI_inj, mb_div, mb_rem, hM.m, hM.a1, hM.a2, hM.a3, hM.a4, hM.a5, hM.a6, hM.a7, hM.a8, hM.a9, hM.a10, hM.a11, hM.a12, hM.a13, hM.a14, hM.a15, hM.a16, hM.a17, hM.a18, hM.a19, hM.a20, hM.a21, hM.a22, hM.a23, hM.a24, hM.a25, hM.a26, hM.a27, hM.a28, hM.l1, hM.l2, hM.l3, hM.l4, hM.l5, hM.l6, hM.l7, hM.l8, hM.l9, hM.l10, hM.l11, hM.l12, hM.l13, hM.l14, hM.l15, hM.l16, hM.l17, hM.l18, hM.l19, hM.l20, hM.l21, hM.l22, hM.l23, hM.l24, hM.l25, hM.l26, hM.l27, hM.l28, hM.c10, hM.c11, hM.c12, hM.c13, hM.c14, hM.c15, hM.c19, hM.c20, hM.c23, hM.c27, hM.c36, hM.c37, hM.c38, hM.c40, hM.c41, hM.c42, hM.c44, hM.w1, hM.w2, hM.w3, hM.w4, hM.w5, hM.w6, hM.w7, hM.w8, hM.w9, hM.w10, hM.w11, hM.w12, hM.w13, hM.w14, hM.w15, hM.w16, hM.w17, hM.w18, hM.w19, hM.w20, hM.w21, hM.w22, hM.w23, hM.w24, hM.w25, hM.w26, hM.w27, hM.w28, hM.p10, hM.p11, hM.p12, hM.p13, hM.p14, hM.p15, hM.p19, hM.p20, hM.p23, hM.p27, hM.p36, hM.p37, hM.p38, hM.p40, hM.p41, hM.p42, hM.p44, s3_at, s3_nk, s3_nj, mb_eq (B_isRow hM X _ _)] | split)) <;> (first | with_reducible rfl | omega | rfl | (subst_vars; rfl) | (simp only [*, Int.add_zero]; done) | (rw [b2_t (by omega)]; done) | (rw [b2_f (by omega)]; done) | (rw [b2_f (by omega), Int.add_zero]))
/-- the reader: 0, or the first row that isn't right and 1 more; end and last so far -/
abbrev rowA (sg : Nat → Int → Int) (i l : Int) : Prop := (0 ≤ sg 19 (3 * i) ∧ sg 19 (3 * i) < sg 1 5) ∧ l < sg 19 (3 * i) ∧ sStands sg (sg 19 (3 * i)) (sg 1 0) ∧ sg 3 (3 * sg 8 (7 * sg 19 (3 * i))) = sg 3 (3 * sg 8 (7 * sg 19 0))
abbrev rowB (sg : Nat → Int → Int) (i e : Int) : Prop := sg 19 (3 * i + 1) = sBegin sg (sg 19 (3 * i)) e (sg 1 0) ∧ sg 19 (3 * i + 2) = sBegin sg (sg 19 (3 * i)) e (sg 1 0) + 30 * sg 8 (7 * sg 19 (3 * i) + 2)
def sJ (sg : Nat → Int → Int) : Nat → Int → Int → Int → Int
  | 0, _, _, _ => 0
  | m + 1, i, e, l => if rowA sg i l ∧ rowB sg i e then sJ sg m (i + 1) (if e < sg 19 (3 * i + 2) then sg 19 (3 * i + 2) else e) (sg 19 (3 * i)) else i + 1
theorem B_judgeL (hM : OKM M h) (W : WD sg) (X : WX sg) : ∀ (m n : Nat) (i e l : Int) (s : gH), RS M h sg s → (i = 0 ∨ (0 ≤ sg 19 0 ∧ sg 19 0 < sg 1 5)) → 0 ≤ e → e ≤ 9999 + 7200 * i → i32 l → 0 ≤ i → i + m = sg 0 27 → m < n →
    ∃ s', RS M h sg s' ∧ m12_judge_p6 n M (iI e) (iI l) (iI i) s = some (iI (sJ sg m i e l), s') := by
  have n27 := X.1
  have n5 := W.n5
  have n0 := W.n0
  intro m
  induction m with
  | zero =>
    intro n i e l s hs hf he0 he1 hl hi him hn
    obtain ⟨n, rfl⟩ : ∃ q, n = q + 1 := ⟨n - 1, by omega⟩
    refine ⟨s, hs, ?_⟩
    obtain ⟨g, hg, rfl⟩ := hs
    rw [m12_judge_p6]
    simp (config := { maxSteps := 1000000 }) (disch := first | assumption | exact W.i _ _ | exact sLine_i W _ _ _ | exact W1.i _ _ | exact hg _ _ | exact W3.i _ _ | (refine ⟨?_, ?_⟩ <;> omega) | omega | (simp only [sW_1, sW_2, sW_3, sW_4, sW_5, sW_8] <;> first | assumption | omega | (refine ⟨?_, ?_⟩ <;> omega)) | (simp only [sT_1, sT_2, sT_3, sT_4, sT_5, sT_8] <;> first | assumption | omega | (refine ⟨?_, ?_⟩ <;> omega))) only [Int.reduceEq, Int.reduceLT, Int.reduceLE, Int.reduceNeg, Int.reduceAdd, Int.reduceSub, Int.reduceMul, if_true, if_false, not_true, not_false_eq_true, false_or, or_false, true_or, or_true, true_and, and_true, false_and, and_false, iI_on, iI_mul, iI_add, iI_sub, iI_neg, ap_if, mp_eq, mz_0, mz_1, mz_b, b2_0, b2_1, iI_lt, iI_le, iI_inj, mb_div, mb_rem, hM.m, hM.a1, hM.a2, hM.a3, hM.a4, hM.a5, hM.a6, hM.a7, hM.a8, hM.a9, hM.a10, hM.a11, hM.a12, hM.a13, hM.a14, hM.a15, hM.a16, hM.a17, hM.a18, hM.a19, hM.a20, hM.a21, hM.a22, hM.a23, hM.a24, hM.a25, hM.a26, hM.a27, hM.a28, hM.l1, hM.l2, hM.l3, hM.l4, hM.l5, hM.l6, hM.l7, hM.l8, hM.l9, hM.l10, hM.l11, hM.l12, hM.l13, hM.l14, hM.l15, hM.l16, hM.l17, hM.l18, hM.l19, hM.l20, hM.l21, hM.l22, hM.l23, hM.l24, hM.l25, hM.l26, hM.l27, hM.l28, hM.c10, hM.c11, hM.c12, hM.c13, hM.c14, hM.c15, hM.c19, hM.c20, hM.c23, hM.c27, hM.c36, hM.c37, hM.c38, hM.c40, hM.c41, hM.c42, hM.c44, sW_0]
    rw [if_pos (by omega)]
    rfl
  | succ m ih =>
    intro n i e l s hs hf he0 he1 hl hi him hn
    obtain ⟨n, rfl⟩ : ∃ q, n = q + 1 := ⟨n - 1, by omega⟩
    have i27 : ¬ sg 0 27 ≤ i := by omega
    rw [sJ]
    by_cases c : rowA sg i l
    · obtain ⟨c1, c2, c3, c4⟩ := id c
      have nt := W.te _ c1.1 c1.2
      have hr0 : 0 ≤ sg 19 0 ∧ sg 19 0 < sg 1 5 := by
        rcases hf with q | q
        · subst q
          simpa using c1
        · exact q
      have hbb := sBegin_b (B := 9999 + 7200 * i) W (t := sg 19 (3 * i)) (e := e) (k := sg 1 0) c1.1 c1.2 ⟨he0, he1⟩ (by omega)
      obtain ⟨s1, hs1, hB⟩ := B_beginOf hM W c1.1 c1.2 (e := e) (k := sg 1 0) ⟨by omega, by omega⟩ ⟨by omega, by omega⟩ hs
      have est : b2 (sStands sg (sg 19 (3 * i)) (sg 1 0)) = 1 := b2_t c3
      have go : m12_judge_p6 (n + 1) M (iI e) (iI l) (iI i) s = (if rowB sg i e then m12_judge_p6 n M (iI (if e < sg 19 (3 * i + 2) then sg 19 (3 * i + 2) else e)) (iI (sg 19 (3 * i))) (iI (i + 1)) s1 else some (iI (i + 1), s1)) := by
        obtain ⟨g, hg, rfl⟩ := hs
        obtain ⟨g1, hg1, rfl⟩ := hs1
        have W1 := W.w hg
        have W3 := W.w hg1
        have est1 : b2 (sStands (sW sg g) (sg 19 (3 * i)) (sg 1 0)) = 1 := est
        rw [m12_judge_p6]
        simp (config := { maxSteps := 1000000 }) (disch := first | assumption | exact W.i _ _ | exact sLine_i W _ _ _ | exact W1.i _ _ | exact hg _ _ | exact W3.i _ _ | (refine ⟨?_, ?_⟩ <;> omega) | omega | (simp only [sW_1, sW_2, sW_3, sW_4, sW_5, sW_8] <;> first | assumption | omega | (refine ⟨?_, ?_⟩ <;> omega)) | (simp only [sT_1, sT_2, sT_3, sT_4, sT_5, sT_8] <;> first | assumption | omega | (refine ⟨?_, ?_⟩ <;> omega))) only [Int.reduceEq, Int.reduceLT, Int.reduceLE, Int.reduceNeg, Int.reduceAdd, Int.reduceSub, Int.reduceMul, if_true, if_false, not_true, not_false_eq_true, false_or, or_false, true_or, or_true, true_and, and_true, false_and, and_false, iI_on, iI_mul, iI_add, iI_sub, iI_neg, ap_if, mp_eq, mz_0, mz_1, mz_b, b2_0, b2_1, iI_lt, iI_le, iI_inj, mb_div, mb_rem, hM.m, hM.a1, hM.a2, hM.a3, hM.a4, hM.a5, hM.a6, hM.a7, hM.a8, hM.a9, hM.a10, hM.a11, hM.a12, hM.a13, hM.a14, hM.a15, hM.a16, hM.a17, hM.a18, hM.a19, hM.a20, hM.a21, hM.a22, hM.a23, hM.a24, hM.a25, hM.a26, hM.a27, hM.a28, hM.l1, hM.l2, hM.l3, hM.l4, hM.l5, hM.l6, hM.l7, hM.l8, hM.l9, hM.l10, hM.l11, hM.l12, hM.l13, hM.l14, hM.l15, hM.l16, hM.l17, hM.l18, hM.l19, hM.l20, hM.l21, hM.l22, hM.l23, hM.l24, hM.l25, hM.l26, hM.l27, hM.l28, hM.c10, hM.c11, hM.c12, hM.c13, hM.c14, hM.c15, hM.c19, hM.c20, hM.c23, hM.c27, hM.c36, hM.c37, hM.c38, hM.c40, hM.c41, hM.c42, hM.c44, sW_0, i27, sW_19, sW_1, mb_eq (B_isTerm hM W1 _), c1.1, c1.2, show ¬ sg 19 (3 * i) ≤ l by omega, mb_eq (B_stands hM W1 _ _ _), est1, mb_eq (B_whose hM W1 _ _), sW_3, sW_8, c4, mb_eq hB, mb_eq (B_of hM _ _), m12_judge_p133, m12_judge_p165]
        (repeat' split) <;> first | with_reducible rfl | omega
      rw [go]
      by_cases cb : rowB sg i e
      · have cc : rowA sg i l ∧ rowB sg i e := ⟨c, cb⟩
        rw [if_pos cb, if_pos cc]
        obtain ⟨b1, b3⟩ := cb
        refine ih n _ _ _ s1 hs1 (Or.inr hr0) ?_ ?_ (W.i _ _) (by omega) (by omega) (by omega)
        · split <;> omega
        · split <;> omega
      · have cc : ¬ (rowA sg i l ∧ rowB sg i e) := fun q => cb q.2
        rw [if_neg cb, if_neg cc]
        exact ⟨s1, hs1, rfl⟩
    · have cc : ¬ (rowA sg i l ∧ rowB sg i e) := fun q => c q.1
      rw [if_neg cc]
      refine ⟨s, hs, ?_⟩
      obtain ⟨g, hg, rfl⟩ := hs
      have W1 := W.w hg
      rw [m12_judge_p6]
      by_cases c1 : 0 ≤ sg 19 (3 * i) ∧ sg 19 (3 * i) < sg 1 5
      · have nt := W.te _ c1.1 c1.2
        have hr0 : 0 ≤ sg 19 0 ∧ sg 19 0 < sg 1 5 := by
          rcases hf with q | q
          · subst q
            simpa using c1
          · exact q
        by_cases c2 : l < sg 19 (3 * i)
        · by_cases c3 : sStands sg (sg 19 (3 * i)) (sg 1 0)
          · have est1 : b2 (sStands (sW sg g) (sg 19 (3 * i)) (sg 1 0)) = 1 := b2_t c3
            have c4 : ¬ sg 3 (3 * sg 8 (7 * sg 19 (3 * i))) = sg 3 (3 * sg 8 (7 * sg 19 0)) := fun q => c ⟨c1, c2, c3, q⟩
            simp (config := { maxSteps := 1000000 }) (disch := first | assumption | exact W.i _ _ | exact sLine_i W _ _ _ | exact W1.i _ _ | exact hg _ _ | exact W3.i _ _ | (refine ⟨?_, ?_⟩ <;> omega) | omega | (simp only [sW_1, sW_2, sW_3, sW_4, sW_5, sW_8] <;> first | assumption | omega | (refine ⟨?_, ?_⟩ <;> omega)) | (simp only [sT_1, sT_2, sT_3, sT_4, sT_5, sT_8] <;> first | assumption | omega | (refine ⟨?_, ?_⟩ <;> omega))) only [Int.reduceEq, Int.reduceLT, Int.reduceLE, Int.reduceNeg, Int.reduceAdd, Int.reduceSub, Int.reduceMul, if_true, if_false, not_true, not_false_eq_true, false_or, or_false, true_or, or_true, true_and, and_true, false_and, and_false, iI_on, iI_mul, iI_add, iI_sub, iI_neg, ap_if, mp_eq, mz_0, mz_1, mz_b, b2_0, b2_1, iI_lt, iI_le, iI_inj, mb_div, mb_rem, hM.m, hM.a1, hM.a2, hM.a3, hM.a4, hM.a5, hM.a6, hM.a7, hM.a8, hM.a9, hM.a10, hM.a11, hM.a12, hM.a13, hM.a14, hM.a15, hM.a16, hM.a17, hM.a18, hM.a19, hM.a20, hM.a21, hM.a22, hM.a23, hM.a24, hM.a25, hM.a26, hM.a27, hM.a28, hM.l1, hM.l2, hM.l3, hM.l4, hM.l5, hM.l6, hM.l7, hM.l8, hM.l9, hM.l10, hM.l11, hM.l12, hM.l13, hM.l14, hM.l15, hM.l16, hM.l17, hM.l18, hM.l19, hM.l20, hM.l21, hM.l22, hM.l23, hM.l24, hM.l25, hM.l26, hM.l27, hM.l28, hM.c10, hM.c11, hM.c12, hM.c13, hM.c14, hM.c15, hM.c19, hM.c20, hM.c23, hM.c27, hM.c36, hM.c37, hM.c38, hM.c40, hM.c41, hM.c42, hM.c44, sW_0, i27, sW_19, sW_1, mb_eq (B_isTerm hM W1 _), c1.1, c1.2, show ¬ sg 19 (3 * i) ≤ l by omega, mb_eq (B_stands hM W1 _ _ _), est1, mb_eq (B_whose hM W1 _ _), sW_3, sW_8, c4, m12_judge_p73]
          · have est1 : b2 (sStands (sW sg g) (sg 19 (3 * i)) (sg 1 0)) = 0 := b2_f c3
            simp (config := { maxSteps := 1000000 }) (disch := first | assumption | exact W.i _ _ | exact sLine_i W _ _ _ | exact W1.i _ _ | exact hg _ _ | exact W3.i _ _ | (refine ⟨?_, ?_⟩ <;> omega) | omega | (simp only [sW_1, sW_2, sW_3, sW_4, sW_5, sW_8] <;> first | assumption | omega | (refine ⟨?_, ?_⟩ <;> omega)) | (simp only [sT_1, sT_2, sT_3, sT_4, sT_5, sT_8] <;> first | assumption | omega | (refine ⟨?_, ?_⟩ <;> omega))) only [Int.reduceEq, Int.reduceLT, Int.reduceLE, Int.reduceNeg, Int.reduceAdd, Int.reduceSub, Int.reduceMul, if_true, if_false, not_true, not_false_eq_true, false_or, or_false, true_or, or_true, true_and, and_true, false_and, and_false, iI_on, iI_mul, iI_add, iI_sub, iI_neg, ap_if, mp_eq, mz_0, mz_1, mz_b, b2_0, b2_1, iI_lt, iI_le, iI_inj, mb_div, mb_rem, hM.m, hM.a1, hM.a2, hM.a3, hM.a4, hM.a5, hM.a6, hM.a7, hM.a8, hM.a9, hM.a10, hM.a11, hM.a12, hM.a13, hM.a14, hM.a15, hM.a16, hM.a17, hM.a18, hM.a19, hM.a20, hM.a21, hM.a22, hM.a23, hM.a24, hM.a25, hM.a26, hM.a27, hM.a28, hM.l1, hM.l2, hM.l3, hM.l4, hM.l5, hM.l6, hM.l7, hM.l8, hM.l9, hM.l10, hM.l11, hM.l12, hM.l13, hM.l14, hM.l15, hM.l16, hM.l17, hM.l18, hM.l19, hM.l20, hM.l21, hM.l22, hM.l23, hM.l24, hM.l25, hM.l26, hM.l27, hM.l28, hM.c10, hM.c11, hM.c12, hM.c13, hM.c14, hM.c15, hM.c19, hM.c20, hM.c23, hM.c27, hM.c36, hM.c37, hM.c38, hM.c40, hM.c41, hM.c42, hM.c44, sW_0, i27, sW_19, sW_1, mb_eq (B_isTerm hM W1 _), c1.1, c1.2, show ¬ sg 19 (3 * i) ≤ l by omega, mb_eq (B_stands hM W1 _ _ _), est1, m12_judge_p73]
        · simp (config := { maxSteps := 1000000 }) (disch := first | assumption | exact W.i _ _ | exact sLine_i W _ _ _ | exact W1.i _ _ | exact hg _ _ | exact W3.i _ _ | (refine ⟨?_, ?_⟩ <;> omega) | omega | (simp only [sW_1, sW_2, sW_3, sW_4, sW_5, sW_8] <;> first | assumption | omega | (refine ⟨?_, ?_⟩ <;> omega)) | (simp only [sT_1, sT_2, sT_3, sT_4, sT_5, sT_8] <;> first | assumption | omega | (refine ⟨?_, ?_⟩ <;> omega))) only [Int.reduceEq, Int.reduceLT, Int.reduceLE, Int.reduceNeg, Int.reduceAdd, Int.reduceSub, Int.reduceMul, if_true, if_false, not_true, not_false_eq_true, false_or, or_false, true_or, or_true, true_and, and_true, false_and, and_false, iI_on, iI_mul, iI_add, iI_sub, iI_neg, ap_if, mp_eq, mz_0, mz_1, mz_b, b2_0, b2_1, iI_lt, iI_le, iI_inj, mb_div, mb_rem, hM.m, hM.a1, hM.a2, hM.a3, hM.a4, hM.a5, hM.a6, hM.a7, hM.a8, hM.a9, hM.a10, hM.a11, hM.a12, hM.a13, hM.a14, hM.a15, hM.a16, hM.a17, hM.a18, hM.a19, hM.a20, hM.a21, hM.a22, hM.a23, hM.a24, hM.a25, hM.a26, hM.a27, hM.a28, hM.l1, hM.l2, hM.l3, hM.l4, hM.l5, hM.l6, hM.l7, hM.l8, hM.l9, hM.l10, hM.l11, hM.l12, hM.l13, hM.l14, hM.l15, hM.l16, hM.l17, hM.l18, hM.l19, hM.l20, hM.l21, hM.l22, hM.l23, hM.l24, hM.l25, hM.l26, hM.l27, hM.l28, hM.c10, hM.c11, hM.c12, hM.c13, hM.c14, hM.c15, hM.c19, hM.c20, hM.c23, hM.c27, hM.c36, hM.c37, hM.c38, hM.c40, hM.c41, hM.c42, hM.c44, sW_0, i27, sW_19, sW_1, mb_eq (B_isTerm hM W1 _), c1.1, c1.2, show sg 19 (3 * i) ≤ l by omega, m12_judge_p73]
      · simp (config := { maxSteps := 1000000 }) (disch := first | assumption | exact W.i _ _ | exact sLine_i W _ _ _ | exact W1.i _ _ | exact hg _ _ | exact W3.i _ _ | (refine ⟨?_, ?_⟩ <;> omega) | omega | (simp only [sW_1, sW_2, sW_3, sW_4, sW_5, sW_8] <;> first | assumption | omega | (refine ⟨?_, ?_⟩ <;> omega)) | (simp only [sT_1, sT_2, sT_3, sT_4, sT_5, sT_8] <;> first | assumption | omega | (refine ⟨?_, ?_⟩ <;> omega))) only [Int.reduceEq, Int.reduceLT, Int.reduceLE, Int.reduceNeg, Int.reduceAdd, Int.reduceSub, Int.reduceMul, if_true, if_false, not_true, not_false_eq_true, false_or, or_false, true_or, or_true, true_and, and_true, false_and, and_false, iI_on, iI_mul, iI_add, iI_sub, iI_neg, ap_if, mp_eq, mz_0, mz_1, mz_b, b2_0, b2_1, iI_lt, iI_le, iI_inj, mb_div, mb_rem, hM.m, hM.a1, hM.a2, hM.a3, hM.a4, hM.a5, hM.a6, hM.a7, hM.a8, hM.a9, hM.a10, hM.a11, hM.a12, hM.a13, hM.a14, hM.a15, hM.a16, hM.a17, hM.a18, hM.a19, hM.a20, hM.a21, hM.a22, hM.a23, hM.a24, hM.a25, hM.a26, hM.a27, hM.a28, hM.l1, hM.l2, hM.l3, hM.l4, hM.l5, hM.l6, hM.l7, hM.l8, hM.l9, hM.l10, hM.l11, hM.l12, hM.l13, hM.l14, hM.l15, hM.l16, hM.l17, hM.l18, hM.l19, hM.l20, hM.l21, hM.l22, hM.l23, hM.l24, hM.l25, hM.l26, hM.l27, hM.l28, hM.c10, hM.c11, hM.c12, hM.c13, hM.c14, hM.c15, hM.c19, hM.c20, hM.c23, hM.c27, hM.c36, hM.c37, hM.c38, hM.c40, hM.c41, hM.c42, hM.c44, sW_0, i27, sW_19, sW_1, mb_eq (B_isTerm hM W1 _), m12_judge_p73]
        rw [if_pos c1]
def oJudge (sg : Nat → Int → Int) : Int := sJ sg (sg 0 27).toNat 0 0 (-1)
theorem B_judge (hM : OKM M h) (W : WD sg) (X : WX sg) : ∃ s', RS M h sg s' ∧ m12_judge M (mK M sg h) = some (iI (oJudge sg), s') := by
  have n27 := X.1
  unfold m12_judge oJudge
  simp (config := { maxSteps := 1000000 }) (disch := first | assumption | exact W.i _ _ | exact sLine_i W _ _ _ | exact W1.i _ _ | exact hg _ _ | exact W3.i _ _ | (refine ⟨?_, ?_⟩ <;> omega) | omega | (simp only [sW_1, sW_2, sW_3, sW_4, sW_5, sW_8] <;> first | assumption | omega | (refine ⟨?_, ?_⟩ <;> omega)) | (simp only [sT_1, sT_2, sT_3, sT_4, sT_5, sT_8] <;> first | assumption | omega | (refine ⟨?_, ?_⟩ <;> omega))) only [Int.reduceEq, Int.reduceLT, Int.reduceLE, Int.reduceNeg, Int.reduceAdd, Int.reduceSub, Int.reduceMul, if_true, if_false, not_true, not_false_eq_true, false_or, or_false, true_or, or_true, true_and, and_true, false_and, and_false, iI_on, iI_mul, iI_add, iI_sub, iI_neg, ap_if, mp_eq, mz_0, mz_1, mz_b, b2_0, b2_1, iI_lt, iI_le, iI_inj, mb_div, mb_rem]
  exact B_judgeL hM W X (sg 0 27).toNat FU 0 0 (-1) _ (RS.self W) (Or.inl rfl) (by omega) (by omega) ⟨by omega, by omega⟩ (by omega) (by omega) (FU_lt (by omega))
/-! another law, like -/
def sAn (sg : Nat → Int → Int) (v mo t : Int) : Int := if sStands sg t (sg 1 0) ∧ 0 ≤ sRng sg (sg 8 (7 * t)) v (sg 1 0) then (if mo = 0 then sRng sg (sg 8 (7 * t)) v (sg 1 0) / 1000 else sRng sg (sg 8 (7 * t)) v (sg 1 0) % 1000) else 0
def oAnother (sg : Nat → Int → Int) (v mo : Int) : Int := if 0 ≤ v ∧ v < sg 1 4 then sumN (sAn sg v mo) (sg 1 5).toNat else -1
theorem B_another (hM : OKM M h) (W : WD sg) {v mo : Int} (hv : i32 v) (hmo : mo = 0 ∨ mo = 1) : ∃ s', RS M h sg s' ∧ m12_another M (iI v) (iI mo) (mK M sg h) = some (iI (oAnother sg v mo), s') := by
  have n5 := W.n5
  have n0 := W.n0
  have hk : i32 (sg 1 0) := ⟨by omega, by omega⟩
  have im : i32 mo := by omega
  unfold oAnother
  by_cases c : 0 ≤ v ∧ v < sg 1 4
  · rw [if_pos c]
    unfold sumN
    have key := (lopR (F := fun n a i s => m12_another_p15 n M (iI v) (iI mo) (iI a) (iI i) s) (K := fun a s => some (iI a, s)) (N := sg 1 5) (st := fun a i => a + sAn sg v mo i) (I := fun _ _ => True) (R := RS M h sg) (fun n a s hs _ => ?_) (fun n a i s hs _ h2 h3 => ⟨?_, trivial⟩) (sg 1 5).toNat FU 0 0 (mK M sg h) (RS.self W) trivial (by omega) (by omega) (FU_lt (by omega))).1
    · obtain ⟨s', hs', he⟩ := key
      refine ⟨s', hs', ?_⟩
      unfold m12_another
      simp (config := { maxSteps := 1000000 }) (disch := first | assumption | exact W.i _ _ | exact sLine_i W _ _ _ | exact W1.i _ _ | exact hg _ _ | exact W3.i _ _ | (refine ⟨?_, ?_⟩ <;> omega) | omega | (simp only [sW_1, sW_2, sW_3, sW_4, sW_5, sW_8] <;> first | assumption | omega | (refine ⟨?_, ?_⟩ <;> omega)) | (simp only [sT_1, sT_2, sT_3, sT_4, sT_5, sT_8] <;> first | assumption | omega | (refine ⟨?_, ?_⟩ <;> omega))) only [Int.reduceEq, Int.reduceLT, Int.reduceLE, Int.reduceNeg, Int.reduceAdd, Int.reduceSub, Int.reduceMul, if_true, if_false, not_true, not_false_eq_true, false_or, or_false, true_or, or_true, true_and, and_true, false_and, and_false, iI_on, iI_mul, iI_add, iI_sub, iI_neg, ap_if, mp_eq, mz_0, mz_1, mz_b, b2_0, b2_1, iI_lt, iI_le, iI_inj, mb_div, mb_rem, hM.m, hM.a1, hM.a2, hM.a3, hM.a4, hM.a5, hM.a6, hM.a7, hM.a8, hM.a9, hM.a10, hM.a11, hM.a12, hM.a13, hM.a14, hM.a15, hM.a16, hM.a17, hM.a18, hM.a19, hM.a20, hM.a21, hM.a22, hM.a23, hM.a24, hM.a25, hM.a26, hM.a27, hM.a28, hM.l1, hM.l2, hM.l3, hM.l4, hM.l5, hM.l6, hM.l7, hM.l8, hM.l9, hM.l10, hM.l11, hM.l12, hM.l13, hM.l14, hM.l15, hM.l16, hM.l17, hM.l18, hM.l19, hM.l20, hM.l21, hM.l22, hM.l23, hM.l24, hM.l25, hM.l26, hM.l27, hM.l28, hM.c10, hM.c11, hM.c12, hM.c13, hM.c14, hM.c15, hM.c19, hM.c20, hM.c23, hM.c27, hM.c36, hM.c37, hM.c38, hM.c40, hM.c41, hM.c42, hM.c44, mb_eq (B_isVersion hM W _), c.1, c.2]
      exact he
    · obtain ⟨g, hg, rfl⟩ := hs
      show m12_another_p15 (n + 1) M (iI v) (iI mo) (iI a) (iI (sg 1 5)) (mK M (sW sg g) h) = some (iI a, mK M (sW sg g) h)
      have W1 := W.w hg
      rw [m12_another_p15]
      simp (config := { maxSteps := 1000000 }) (disch := first | assumption | exact W.i _ _ | exact sLine_i W _ _ _ | exact W1.i _ _ | exact hg _ _ | exact W3.i _ _ | (refine ⟨?_, ?_⟩ <;> omega) | omega | (simp only [sW_1, sW_2, sW_3, sW_4, sW_5, sW_8] <;> first | assumption | omega | (refine ⟨?_, ?_⟩ <;> omega)) | (simp only [sT_1, sT_2, sT_3, sT_4, sT_5, sT_8] <;> first | assumption | omega | (refine ⟨?_, ?_⟩ <;> omega))) only [Int.reduceEq, Int.reduceLT, Int.reduceLE, Int.reduceNeg, Int.reduceAdd, Int.reduceSub, Int.reduceMul, if_true, if_false, not_true, not_false_eq_true, false_or, or_false, true_or, or_true, true_and, and_true, false_and, and_false, iI_on, iI_mul, iI_add, iI_sub, iI_neg, ap_if, mp_eq, mz_0, mz_1, mz_b, b2_0, b2_1, iI_lt, iI_le, iI_inj, mb_div, mb_rem, hM.m, hM.a1, hM.a2, hM.a3, hM.a4, hM.a5, hM.a6, hM.a7, hM.a8, hM.a9, hM.a10, hM.a11, hM.a12, hM.a13, hM.a14, hM.a15, hM.a16, hM.a17, hM.a18, hM.a19, hM.a20, hM.a21, hM.a22, hM.a23, hM.a24, hM.a25, hM.a26, hM.a27, hM.a28, hM.l1, hM.l2, hM.l3, hM.l4, hM.l5, hM.l6, hM.l7, hM.l8, hM.l9, hM.l10, hM.l11, hM.l12, hM.l13, hM.l14, hM.l15, hM.l16, hM.l17, hM.l18, hM.l19, hM.l20, hM.l21, hM.l22, hM.l23, hM.l24, hM.l25, hM.l26, hM.l27, hM.l28, hM.c10, hM.c11, hM.c12, hM.c13, hM.c14, hM.c15, hM.c19, hM.c20, hM.c23, hM.c27, hM.c36, hM.c37, hM.c38, hM.c40, hM.c41, hM.c42, hM.c44, sW_1]
      rw [if_pos (by omega)]
    · show ∃ s', RS M h sg s' ∧ m12_another_p15 (n + 1) M (iI v) (iI mo) (iI a) (iI i) s = m12_another_p15 n M (iI v) (iI mo) (iI (a + sAn sg v mo i)) (iI (i + 1)) s'
      have nt := W.te i h2 h3
      have i5 : ¬ sg 1 5 ≤ i := by omega
      unfold sAn
      by_cases c1 : sStands sg i (sg 1 0)
      · obtain ⟨s', hs', he⟩ := B_rangeOf hM W (d := sg 8 (7 * i)) (v := v) (by omega) (by omega) (by omega) c.2 hk hs
        have hr := sRng_b W (d := sg 8 (7 * i)) (v := v) (k := sg 1 0) (by omega) c.2
        refine ⟨s', hs', ?_⟩
        obtain ⟨g, hg, rfl⟩ := hs
        have W1 := W.w hg
        have est1 : b2 (sStands (sW sg g) i (sg 1 0)) = 1 := b2_t c1
        rw [m12_another_p15]
        have aux : ∀ r : Int, -1 ≤ r ∧ r ≤ 240240 → m12_another_p63 (m12_another_p15 n) M (iI v) (iI mo) (iI a) (iI i) (iI r) s' = m12_another_p15 n M (iI v) (iI mo) (iI (a + (if 0 ≤ r then (if mo = 0 then r / 1000 else r % 1000) else 0))) (iI (i + 1)) s' := by
          intro r hr
          unfold m12_another_p63
          have e1 : 0 ≤ r → r.tdiv 1000 = r / 1000 := fun q => Int.tdiv_eq_ediv_of_nonneg q
          have e2 : 0 ≤ r → r.tmod 1000 = r % 1000 := fun q => Int.tmod_eq_emod_of_nonneg q
          by_cases cr : 0 ≤ r
          · rw [if_pos cr]
            simp (config := { maxSteps := 1000000 }) (disch := first | assumption | exact W.i _ _ | exact sLine_i W _ _ _ | exact W1.i _ _ | exact hg _ _ | exact W3.i _ _ | (refine ⟨?_, ?_⟩ <;> omega) | omega | (simp only [sW_1, sW_2, sW_3, sW_4, sW_5, sW_8] <;> first | assumption | omega | (refine ⟨?_, ?_⟩ <;> omega)) | (simp only [sT_1, sT_2, sT_3, sT_4, sT_5, sT_8] <;> first | assumption | omega | (refine ⟨?_, ?_⟩ <;> omega))) only [Int.reduceEq, Int.reduceLT, Int.reduceLE, Int.reduceNeg, Int.reduceAdd, Int.reduceSub, Int.reduceMul, if_true, if_false, not_true, not_false_eq_true, false_or, or_false, true_or, or_true, true_and, and_true, false_and, and_false, iI_on, iI_mul, iI_add, iI_sub, iI_neg, ap_if, mp_eq, mz_0, mz_1, mz_b, b2_0, b2_1, iI_lt, iI_le, iI_inj, mb_div, mb_rem, m12_another_p94, cr, e1 cr, e2 cr]
            split <;> rfl
          · rw [if_neg cr]
            simp (config := { maxSteps := 1000000 }) (disch := first | assumption | exact W.i _ _ | exact sLine_i W _ _ _ | exact W1.i _ _ | exact hg _ _ | exact W3.i _ _ | (refine ⟨?_, ?_⟩ <;> omega) | omega | (simp only [sW_1, sW_2, sW_3, sW_4, sW_5, sW_8] <;> first | assumption | omega | (refine ⟨?_, ?_⟩ <;> omega)) | (simp only [sT_1, sT_2, sT_3, sT_4, sT_5, sT_8] <;> first | assumption | omega | (refine ⟨?_, ?_⟩ <;> omega))) only [Int.reduceEq, Int.reduceLT, Int.reduceLE, Int.reduceNeg, Int.reduceAdd, Int.reduceSub, Int.reduceMul, if_true, if_false, not_true, not_false_eq_true, false_or, or_false, true_or, or_true, true_and, and_true, false_and, and_false, iI_on, iI_mul, iI_add, iI_sub, iI_neg, ap_if, mp_eq, mz_0, mz_1, mz_b, b2_0, b2_1, iI_lt, iI_le, iI_inj, mb_div, mb_rem, m12_another_p94, cr]
        simp (config := { maxSteps := 1000000 }) (disch := first | assumption | exact W.i _ _ | exact sLine_i W _ _ _ | exact W1.i _ _ | exact hg _ _ | exact W3.i _ _ | (refine ⟨?_, ?_⟩ <;> omega) | omega | (simp only [sW_1, sW_2, sW_3, sW_4, sW_5, sW_8] <;> first | assumption | omega | (refine ⟨?_, ?_⟩ <;> omega)) | (simp only [sT_1, sT_2, sT_3, sT_4, sT_5, sT_8] <;> first | assumption | omega | (refine ⟨?_, ?_⟩ <;> omega))) only [Int.reduceEq, Int.reduceLT, Int.reduceLE, Int.reduceNeg, Int.reduceAdd, Int.reduceSub, Int.reduceMul, if_true, if_false, not_true, not_false_eq_true, false_or, or_false, true_or, or_true, true_and, and_true, false_and, and_false, iI_on, iI_mul, iI_add, iI_sub, iI_neg, ap_if, mp_eq, mz_0, mz_1, mz_b, b2_0, b2_1, iI_lt, iI_le, iI_inj, mb_div, mb_rem, hM.m, hM.a1, hM.a2, hM.a3, hM.a4, hM.a5, hM.a6, hM.a7, hM.a8, hM.a9, hM.a10, hM.a11, hM.a12, hM.a13, hM.a14, hM.a15, hM.a16, hM.a17, hM.a18, hM.a19, hM.a20, hM.a21, hM.a22, hM.a23, hM.a24, hM.a25, hM.a26, hM.a27, hM.a28, hM.l1, hM.l2, hM.l3, hM.l4, hM.l5, hM.l6, hM.l7, hM.l8, hM.l9, hM.l10, hM.l11, hM.l12, hM.l13, hM.l14, hM.l15, hM.l16, hM.l17, hM.l18, hM.l19, hM.l20, hM.l21, hM.l22, hM.l23, hM.l24, hM.l25, hM.l26, hM.l27, hM.l28, hM.c10, hM.c11, hM.c12, hM.c13, hM.c14, hM.c15, hM.c19, hM.c20, hM.c23, hM.c27, hM.c36, hM.c37, hM.c38, hM.c40, hM.c41, hM.c42, hM.c44, sW_1, i5, mb_eq (B_stands hM W1 _ _ _), est1, mb_eq (B_of hM _ _), Int.add_zero, sW_8, mb_eq he]
        rw [aux _ hr]
        have e3 : (if sStands sg i (sg 1 0) ∧ 0 ≤ sRng sg (sg 8 (7 * i)) v (sg 1 0) then (if mo = 0 then sRng sg (sg 8 (7 * i)) v (sg 1 0) / 1000 else sRng sg (sg 8 (7 * i)) v (sg 1 0) % 1000) else 0) = (if 0 ≤ sRng sg (sg 8 (7 * i)) v (sg 1 0) then (if mo = 0 then sRng sg (sg 8 (7 * i)) v (sg 1 0) / 1000 else sRng sg (sg 8 (7 * i)) v (sg 1 0) % 1000) else 0) := by
          by_cases cr : 0 ≤ sRng sg (sg 8 (7 * i)) v (sg 1 0)
          · rw [if_pos cr, if_pos ⟨c1, cr⟩]
          · rw [if_neg cr, if_neg (fun q => cr q.2)]
        rw [e3]
      · refine ⟨s, hs, ?_⟩
        obtain ⟨g, hg, rfl⟩ := hs
        have W1 := W.w hg
        have est1 : b2 (sStands (sW sg g) i (sg 1 0)) = 0 := b2_f c1
        rw [m12_another_p15, if_neg (fun q => c1 q.1)]
        simp (config := { maxSteps := 1000000 }) (disch := first | assumption | exact W.i _ _ | exact sLine_i W _ _ _ | exact W1.i _ _ | exact hg _ _ | exact W3.i _ _ | (refine ⟨?_, ?_⟩ <;> omega) | omega | (simp only [sW_1, sW_2, sW_3, sW_4, sW_5, sW_8] <;> first | assumption | omega | (refine ⟨?_, ?_⟩ <;> omega)) | (simp only [sT_1, sT_2, sT_3, sT_4, sT_5, sT_8] <;> first | assumption | omega | (refine ⟨?_, ?_⟩ <;> omega))) only [Int.reduceEq, Int.reduceLT, Int.reduceLE, Int.reduceNeg, Int.reduceAdd, Int.reduceSub, Int.reduceMul, if_true, if_false, not_true, not_false_eq_true, false_or, or_false, true_or, or_true, true_and, and_true, false_and, and_false, iI_on, iI_mul, iI_add, iI_sub, iI_neg, ap_if, mp_eq, mz_0, mz_1, mz_b, b2_0, b2_1, iI_lt, iI_le, iI_inj, mb_div, mb_rem, hM.m, hM.a1, hM.a2, hM.a3, hM.a4, hM.a5, hM.a6, hM.a7, hM.a8, hM.a9, hM.a10, hM.a11, hM.a12, hM.a13, hM.a14, hM.a15, hM.a16, hM.a17, hM.a18, hM.a19, hM.a20, hM.a21, hM.a22, hM.a23, hM.a24, hM.a25, hM.a26, hM.a27, hM.a28, hM.l1, hM.l2, hM.l3, hM.l4, hM.l5, hM.l6, hM.l7, hM.l8, hM.l9, hM.l10, hM.l11, hM.l12, hM.l13, hM.l14, hM.l15, hM.l16, hM.l17, hM.l18, hM.l19, hM.l20, hM.l21, hM.l22, hM.l23, hM.l24, hM.l25, hM.l26, hM.l27, hM.l28, hM.c10, hM.c11, hM.c12, hM.c13, hM.c14, hM.c15, hM.c19, hM.c20, hM.c23, hM.c27, hM.c36, hM.c37, hM.c38, hM.c40, hM.c41, hM.c42, hM.c44, sW_1, i5, mb_eq (B_stands hM W1 _ _ _), est1, m12_another_p63, m12_another_p94]
  · rw [if_neg c]
    refine ⟨_, RS.self W, ?_⟩
    unfold m12_another
    simp (config := { maxSteps := 1000000 }) (disch := first | assumption | exact W.i _ _ | exact sLine_i W _ _ _ | exact W1.i _ _ | exact hg _ _ | exact W3.i _ _ | (refine ⟨?_, ?_⟩ <;> omega) | omega | (simp only [sW_1, sW_2, sW_3, sW_4, sW_5, sW_8] <;> first | assumption | omega | (refine ⟨?_, ?_⟩ <;> omega)) | (simp only [sT_1, sT_2, sT_3, sT_4, sT_5, sT_8] <;> first | assumption | omega | (refine ⟨?_, ?_⟩ <;> omega))) only [Int.reduceEq, Int.reduceLT, Int.reduceLE, Int.reduceNeg, Int.reduceAdd, Int.reduceSub, Int.reduceMul, if_true, if_false, not_true, not_false_eq_true, false_or, or_false, true_or, or_true, true_and, and_true, false_and, and_false, iI_on, iI_mul, iI_add, iI_sub, iI_neg, ap_if, mp_eq, mz_0, mz_1, mz_b, b2_0, b2_1, iI_lt, iI_le, iI_inj, mb_div, mb_rem, hM.m, hM.a1, hM.a2, hM.a3, hM.a4, hM.a5, hM.a6, hM.a7, hM.a8, hM.a9, hM.a10, hM.a11, hM.a12, hM.a13, hM.a14, hM.a15, hM.a16, hM.a17, hM.a18, hM.a19, hM.a20, hM.a21, hM.a22, hM.a23, hM.a24, hM.a25, hM.a26, hM.a27, hM.a28, hM.l1, hM.l2, hM.l3, hM.l4, hM.l5, hM.l6, hM.l7, hM.l8, hM.l9, hM.l10, hM.l11, hM.l12, hM.l13, hM.l14, hM.l15, hM.l16, hM.l17, hM.l18, hM.l19, hM.l20, hM.l21, hM.l22, hM.l23, hM.l24, hM.l25, hM.l26, hM.l27, hM.l28, hM.c10, hM.c11, hM.c12, hM.c13, hM.c14, hM.c15, hM.c19, hM.c20, hM.c23, hM.c27, hM.c36, hM.c37, hM.c38, hM.c40, hM.c41, hM.c42, hM.c44, mb_eq (B_isVersion hM W _)]
    rw [if_pos c]
def sPJ (sg : Nat → Int → Int) (d k : Int) : Int := if sLaw sg d k < 0 then 0 else sPts sg d (sLaw sg d k) k
theorem sPJ_b (W : WD sg) (d k : Int) : 0 ≤ sPJ sg d k ∧ sPJ sg d k ≤ 144 := by
  have hl := sLaw_b W d k
  unfold sPJ
  split
  · omega
  · exact sPts_b W (by omega) hl.2
theorem B_pointsBy (hM : OKM M h) (W : WD sg) {d k : Int} (h0 : 0 ≤ d) (h1 : d < sg 1 2) (hk : i32 k) : m12_pointsBy M (iI d) (iI k) (mK M sg h) = some (iI (sPJ sg d k), mK M sg h) := by
  have n4 := W.n4
  have hl := sLaw_b W d k
  unfold m12_pointsBy sPJ
  (repeat' (first | simp (config := { maxSteps := 1000000 }) (disch := first | assumption | exact W.i _ _ | exact sLine_i W _ _ _ | exact W1.i _ _ | exact hg _ _ | exact W3.i _ _ | (refine ⟨?_, ?_⟩ <;> omega) | omega | (simp only [sW_1, sW_2, sW_3, sW_4, sW_5, sW_8] <;> first | assumption | omega | (refine ⟨?_, ?_⟩ <;> omega)) | (simp only [sT_1, sT_2, sT_3, sT_4, sT_5, sT_8] <;> first | assumption | omega | (refine ⟨?_, ?_⟩ <;> omega))) only [Int.reduceEq, Int.reduceLT, Int.reduceLE, Int.reduceNeg, Int.reduceAdd, Int.reduceSub, Int.reduceMul, if_true, if_false, not_true, not_false_eq_true, false_or, or_false, true_or, or_true, true_and, and_true, false_and, and_false, iI_on, iI_mul, iI_add, iI_sub, iI_neg, ap_if, mp_eq, mz_0, mz_1, mz_b, b2_0, b2_1, iI_lt, iI_le, iI_inj, mb_div, mb_rem, hM.m, hM.a1, hM.a2, hM.a3, hM.a4, hM.a5, hM.a6, hM.a7, hM.a8, hM.a9, hM.a10, hM.a11, hM.a12, hM.a13, hM.a14, hM.a15, hM.a16, hM.a17, hM.a18, hM.a19, hM.a20, hM.a21, hM.a22, hM.a23, hM.a24, hM.a25, hM.a26, hM.a27, hM.a28, hM.l1, hM.l2, hM.l3, hM.l4, hM.l5, hM.l6, hM.l7, hM.l8, hM.l9, hM.l10, hM.l11, hM.l12, hM.l13, hM.l14, hM.l15, hM.l16, hM.l17, hM.l18, hM.l19, hM.l20, hM.l21, hM.l22, hM.l23, hM.l24, hM.l25, hM.l26, hM.l27, hM.l28, hM.c10, hM.c11, hM.c12, hM.c13, hM.c14, hM.c15, hM.c19, hM.c20, hM.c23, hM.c27, hM.c36, hM.c37, hM.c38, hM.c40, hM.c41, hM.c42, hM.c44, mb_eq (B_lawOf hM W _ _ _), mb_eq (B_pointsOf hM W _ _ _ _ _), m12_pointsBy_p22] | split)) <;> (first | with_reducible rfl | omega | rfl | (subst_vars; rfl) | (simp only [*, Int.add_zero]; done) | (rw [b2_t (by omega)]; done) | (rw [b2_f (by omega)]; done) | (rw [b2_f (by omega), Int.add_zero]))
def xBit (x : Int32) (f : Int) : Int := ((x >>> (iI f &&& 31)) &&& 1).toInt
theorem xBit_i (x : Int32) (f : Int) : (x >>> (iI f &&& iI 31)) &&& iI 1 = iI (xBit x f) := (iI_of _).symm
theorem xBit_b (x : Int32) (f : Int) : 0 ≤ xBit x f ∧ xBit x f ≤ 1 := by
  unfold xBit
  rcases and1 (x >>> (iI f &&& 31)) with h | h
  · rw [h]; exact ⟨by decide, by decide⟩
  · rw [h]; exact ⟨by decide, by decide⟩
def sUnl (sg : Nat → Int → Int) (a b k : Int) : Int := sumN (xBit (iI (sFacts sg a k) ^^^ iI (sFacts sg b k))) 4 + (if sg 3 (3 * a + 1) = sg 3 (3 * b + 1) then 0 else 3) + (if (sAge sg a < 18) ↔ (sAge sg b < 18) then 0 else 2) + (if sPJ sg a k < sPJ sg b k then sPJ sg b k - sPJ sg a k else sPJ sg a k - sPJ sg b k)
theorem sUnl_b (W : WD sg) (a b k : Int) : 0 ≤ sUnl sg a b k ∧ sUnl sg a b k ≤ 153 := by
  have h1 := sPJ_b W a k
  have h2 := sPJ_b W b k
  have h3 := sumN_b (f := xBit (iI (sFacts sg a k) ^^^ iI (sFacts sg b k))) (c := 0) (d := 1) (n := 4) (fun i _ _ => xBit_b _ _)
  unfold sUnl
  repeat' split
  all_goals omega
theorem fo_add (f : Int → Int) : ∀ (m : Nat) (a i : Int), fo (fun a i => a + f i) m a i = a + fo (fun a i => a + f i) m 0 i
  | 0, a, i => by simp [fo]
  | m + 1, a, i => by
    rw [fo, fo_add f m (a + f i), fo, fo_add f m (0 + f i)]
    omega
theorem B_unlike (hM : OKM M h) (W : WD sg) {a b k : Int} (h0 : 0 ≤ a) (h1 : a < sg 1 2) (h2 : 0 ≤ b) (h3 : b < sg 1 2) (hk : i32 k) : m12_unlike M (iI a) (iI b) (iI k) (mK M sg h) = some (iI (sUnl sg a b k), mK M sg h) := by
  have n2 := W.n2
  have pa := sPJ_b W a k
  have pb := sPJ_b W b k
  have fin : ∀ c : Int, m12_unlike_p28 M (iI a) (iI b) (iI k) (iI c) (mK M sg h) = some (iI (c + sumN (xBit (iI (sFacts sg a k) ^^^ iI (sFacts sg b k))) 4 + (if (sAge sg a < 18) ↔ (sAge sg b < 18) then 0 else 2) + (if sPJ sg a k < sPJ sg b k then sPJ sg b k - sPJ sg a k else sPJ sg a k - sPJ sg b k)), mK M sg h) := by
    intro c
    unfold m12_unlike_p28
    simp (config := { maxSteps := 1000000 }) (disch := first | assumption | exact W.i _ _ | exact sLine_i W _ _ _ | exact W1.i _ _ | exact hg _ _ | exact W3.i _ _ | (refine ⟨?_, ?_⟩ <;> omega) | omega | (simp only [sW_1, sW_2, sW_3, sW_4, sW_5, sW_8] <;> first | assumption | omega | (refine ⟨?_, ?_⟩ <;> omega)) | (simp only [sT_1, sT_2, sT_3, sT_4, sT_5, sT_8] <;> first | assumption | omega | (refine ⟨?_, ?_⟩ <;> omega))) only [Int.reduceEq, Int.reduceLT, Int.reduceLE, Int.reduceNeg, Int.reduceAdd, Int.reduceSub, Int.reduceMul, if_true, if_false, not_true, not_false_eq_true, false_or, or_false, true_or, or_true, true_and, and_true, false_and, and_false, iI_on, iI_mul, iI_add, iI_sub, iI_neg, ap_if, mp_eq, mz_0, mz_1, mz_b, b2_0, b2_1, iI_lt, iI_le, iI_inj, mb_div, mb_rem, hM.m, hM.a1, hM.a2, hM.a3, hM.a4, hM.a5, hM.a6, hM.a7, hM.a8, hM.a9, hM.a10, hM.a11, hM.a12, hM.a13, hM.a14, hM.a15, hM.a16, hM.a17, hM.a18, hM.a19, hM.a20, hM.a21, hM.a22, hM.a23, hM.a24, hM.a25, hM.a26, hM.a27, hM.a28, hM.l1, hM.l2, hM.l3, hM.l4, hM.l5, hM.l6, hM.l7, hM.l8, hM.l9, hM.l10, hM.l11, hM.l12, hM.l13, hM.l14, hM.l15, hM.l16, hM.l17, hM.l18, hM.l19, hM.l20, hM.l21, hM.l22, hM.l23, hM.l24, hM.l25, hM.l26, hM.l27, hM.l28, hM.c10, hM.c11, hM.c12, hM.c13, hM.c14, hM.c15, hM.c19, hM.c20, hM.c23, hM.c27, hM.c36, hM.c37, hM.c38, hM.c40, hM.c41, hM.c42, hM.c44, mb_eq (B_factsOf hM W _ _)]
    refine (lop (F := fun n c i => m12_unlike_p48 n M (iI a) (iI b) (iI k) (iI c) (iI (sFacts sg a k) ^^^ iI (sFacts sg b k)) (iI i) (mK M sg h)) (K := fun c => some (iI (c + (if (sAge sg a < 18) ↔ (sAge sg b < 18) then 0 else 2) + (if sPJ sg a k < sPJ sg b k then sPJ sg b k - sPJ sg a k else sPJ sg a k - sPJ sg b k)), mK M sg h)) (N := 4) (st := fun c i => c + xBit (iI (sFacts sg a k) ^^^ iI (sFacts sg b k)) i) (I := fun _ _ => True) (fun n c _ => ?_) (fun n c i _ q2 q3 => ⟨?_, trivial⟩) 4 FU c 0 trivial (by omega) (by omega) (FU_lt (by omega))).1.trans ?_
    · show m12_unlike_p48 (n + 1) M (iI a) (iI b) (iI k) (iI c) (iI (sFacts sg a k) ^^^ iI (sFacts sg b k)) (iI 4) (mK M sg h) = some (iI (c + (if (sAge sg a < 18) ↔ (sAge sg b < 18) then 0 else 2) + (if sPJ sg a k < sPJ sg b k then sPJ sg b k - sPJ sg a k else sPJ sg a k - sPJ sg b k)), mK M sg h)
      rw [m12_unlike_p48]
      have fin2 : ∀ x : Int, m12_unlike_p92 M (iI a) (iI b) (iI k) (iI c) (iI x) (mK M sg h) = some (iI (c + x + (if sPJ sg a k < sPJ sg b k then sPJ sg b k - sPJ sg a k else sPJ sg a k - sPJ sg b k)), mK M sg h) := by
        intro x
        unfold m12_unlike_p92
        simp (config := { maxSteps := 1000000 }) (disch := first | assumption | exact W.i _ _ | exact sLine_i W _ _ _ | exact W1.i _ _ | exact hg _ _ | exact W3.i _ _ | (refine ⟨?_, ?_⟩ <;> omega) | omega | (simp only [sW_1, sW_2, sW_3, sW_4, sW_5, sW_8] <;> first | assumption | omega | (refine ⟨?_, ?_⟩ <;> omega)) | (simp only [sT_1, sT_2, sT_3, sT_4, sT_5, sT_8] <;> first | assumption | omega | (refine ⟨?_, ?_⟩ <;> omega))) only [Int.reduceEq, Int.reduceLT, Int.reduceLE, Int.reduceNeg, Int.reduceAdd, Int.reduceSub, Int.reduceMul, if_true, if_false, not_true, not_false_eq_true, false_or, or_false, true_or, or_true, true_and, and_true, false_and, and_false, iI_on, iI_mul, iI_add, iI_sub, iI_neg, ap_if, mp_eq, mz_0, mz_1, mz_b, b2_0, b2_1, iI_lt, iI_le, iI_inj, mb_div, mb_rem, hM.m, hM.a1, hM.a2, hM.a3, hM.a4, hM.a5, hM.a6, hM.a7, hM.a8, hM.a9, hM.a10, hM.a11, hM.a12, hM.a13, hM.a14, hM.a15, hM.a16, hM.a17, hM.a18, hM.a19, hM.a20, hM.a21, hM.a22, hM.a23, hM.a24, hM.a25, hM.a26, hM.a27, hM.a28, hM.l1, hM.l2, hM.l3, hM.l4, hM.l5, hM.l6, hM.l7, hM.l8, hM.l9, hM.l10, hM.l11, hM.l12, hM.l13, hM.l14, hM.l15, hM.l16, hM.l17, hM.l18, hM.l19, hM.l20, hM.l21, hM.l22, hM.l23, hM.l24, hM.l25, hM.l26, hM.l27, hM.l28, hM.c10, hM.c11, hM.c12, hM.c13, hM.c14, hM.c15, hM.c19, hM.c20, hM.c23, hM.c27, hM.c36, hM.c37, hM.c38, hM.c40, hM.c41, hM.c42, hM.c44, mb_eq (B_pointsBy hM W _ _ _), m12_unlike_p125]
        by_cases cp : sPJ sg a k < sPJ sg b k
        · rw [if_pos cp, if_neg (by omega)]
          have e : c + x + -(sPJ sg a k - sPJ sg b k) = c + x + (sPJ sg b k - sPJ sg a k) := by omega
          rw [e]
        · rw [if_neg cp, if_pos (by omega)]
      by_cases ya : sAge sg a < 18 <;> by_cases yb : sAge sg b < 18
      all_goals (simp (config := { maxSteps := 1000000 }) (disch := first | assumption | exact W.i _ _ | exact sLine_i W _ _ _ | exact W1.i _ _ | exact hg _ _ | exact W3.i _ _ | (refine ⟨?_, ?_⟩ <;> omega) | omega | (simp only [sW_1, sW_2, sW_3, sW_4, sW_5, sW_8] <;> first | assumption | omega | (refine ⟨?_, ?_⟩ <;> omega)) | (simp only [sT_1, sT_2, sT_3, sT_4, sT_5, sT_8] <;> first | assumption | omega | (refine ⟨?_, ?_⟩ <;> omega))) only [Int.reduceEq, Int.reduceLT, Int.reduceLE, Int.reduceNeg, Int.reduceAdd, Int.reduceSub, Int.reduceMul, if_true, if_false, not_true, not_false_eq_true, false_or, or_false, true_or, or_true, true_and, and_true, false_and, and_false, iI_on, iI_mul, iI_add, iI_sub, iI_neg, ap_if, mp_eq, mz_0, mz_1, mz_b, b2_0, b2_1, iI_lt, iI_le, iI_inj, mb_div, mb_rem, hM.m, hM.a1, hM.a2, hM.a3, hM.a4, hM.a5, hM.a6, hM.a7, hM.a8, hM.a9, hM.a10, hM.a11, hM.a12, hM.a13, hM.a14, hM.a15, hM.a16, hM.a17, hM.a18, hM.a19, hM.a20, hM.a21, hM.a22, hM.a23, hM.a24, hM.a25, hM.a26, hM.a27, hM.a28, hM.l1, hM.l2, hM.l3, hM.l4, hM.l5, hM.l6, hM.l7, hM.l8, hM.l9, hM.l10, hM.l11, hM.l12, hM.l13, hM.l14, hM.l15, hM.l16, hM.l17, hM.l18, hM.l19, hM.l20, hM.l21, hM.l22, hM.l23, hM.l24, hM.l25, hM.l26, hM.l27, hM.l28, hM.c10, hM.c11, hM.c12, hM.c13, hM.c14, hM.c15, hM.c19, hM.c20, hM.c23, hM.c27, hM.c36, hM.c37, hM.c38, hM.c40, hM.c41, hM.c42, hM.c44, mb_eq (B_isYoung hM W _ _), b2, ya, yb, fin2])
      all_goals (simp only [ya, yb, if_true, if_false, true_iff, iff_true, false_iff, iff_false, not_true, not_false_eq_true])
    · show m12_unlike_p48 (n + 1) M (iI a) (iI b) (iI k) (iI c) (iI (sFacts sg a k) ^^^ iI (sFacts sg b k)) (iI i) (mK M sg h) = m12_unlike_p48 n M (iI a) (iI b) (iI k) (iI (c + xBit (iI (sFacts sg a k) ^^^ iI (sFacts sg b k)) i)) (iI (sFacts sg a k) ^^^ iI (sFacts sg b k)) (iI (i + 1)) (mK M sg h)
      rw [m12_unlike_p48]
      simp (config := { maxSteps := 1000000 }) (disch := first | assumption | exact W.i _ _ | exact sLine_i W _ _ _ | exact W1.i _ _ | exact hg _ _ | exact W3.i _ _ | (refine ⟨?_, ?_⟩ <;> omega) | omega | (simp only [sW_1, sW_2, sW_3, sW_4, sW_5, sW_8] <;> first | assumption | omega | (refine ⟨?_, ?_⟩ <;> omega)) | (simp only [sT_1, sT_2, sT_3, sT_4, sT_5, sT_8] <;> first | assumption | omega | (refine ⟨?_, ?_⟩ <;> omega))) only [Int.reduceEq, Int.reduceLT, Int.reduceLE, Int.reduceNeg, Int.reduceAdd, Int.reduceSub, Int.reduceMul, if_true, if_false, not_true, not_false_eq_true, false_or, or_false, true_or, or_true, true_and, and_true, false_and, and_false, iI_on, iI_mul, iI_add, iI_sub, iI_neg, ap_if, mp_eq, mz_0, mz_1, mz_b, b2_0, b2_1, iI_lt, iI_le, iI_inj, mb_div, mb_rem, hM.m, hM.a1, hM.a2, hM.a3, hM.a4, hM.a5, hM.a6, hM.a7, hM.a8, hM.a9, hM.a10, hM.a11, hM.a12, hM.a13, hM.a14, hM.a15, hM.a16, hM.a17, hM.a18, hM.a19, hM.a20, hM.a21, hM.a22, hM.a23, hM.a24, hM.a25, hM.a26, hM.a27, hM.a28, hM.l1, hM.l2, hM.l3, hM.l4, hM.l5, hM.l6, hM.l7, hM.l8, hM.l9, hM.l10, hM.l11, hM.l12, hM.l13, hM.l14, hM.l15, hM.l16, hM.l17, hM.l18, hM.l19, hM.l20, hM.l21, hM.l22, hM.l23, hM.l24, hM.l25, hM.l26, hM.l27, hM.l28, hM.c10, hM.c11, hM.c12, hM.c13, hM.c14, hM.c15, hM.c19, hM.c20, hM.c23, hM.c27, hM.c36, hM.c37, hM.c38, hM.c40, hM.c41, hM.c42, hM.c44, xBit_i]
      rw [if_neg (by omega)]
    · rw [fo_add]
      rfl
  unfold m12_unlike sUnl
  by_cases ck : sg 3 (3 * a + 1) = sg 3 (3 * b + 1)
  · rw [if_pos ck]
    simp (config := { maxSteps := 1000000 }) (disch := first | assumption | exact W.i _ _ | exact sLine_i W _ _ _ | exact W1.i _ _ | exact hg _ _ | exact W3.i _ _ | (refine ⟨?_, ?_⟩ <;> omega) | omega | (simp only [sW_1, sW_2, sW_3, sW_4, sW_5, sW_8] <;> first | assumption | omega | (refine ⟨?_, ?_⟩ <;> omega)) | (simp only [sT_1, sT_2, sT_3, sT_4, sT_5, sT_8] <;> first | assumption | omega | (refine ⟨?_, ?_⟩ <;> omega))) only [Int.reduceEq, Int.reduceLT, Int.reduceLE, Int.reduceNeg, Int.reduceAdd, Int.reduceSub, Int.reduceMul, if_true, if_false, not_true, not_false_eq_true, false_or, or_false, true_or, or_true, true_and, and_true, false_and, and_false, iI_on, iI_mul, iI_add, iI_sub, iI_neg, ap_if, mp_eq, mz_0, mz_1, mz_b, b2_0, b2_1, iI_lt, iI_le, iI_inj, mb_div, mb_rem, hM.m, hM.a1, hM.a2, hM.a3, hM.a4, hM.a5, hM.a6, hM.a7, hM.a8, hM.a9, hM.a10, hM.a11, hM.a12, hM.a13, hM.a14, hM.a15, hM.a16, hM.a17, hM.a18, hM.a19, hM.a20, hM.a21, hM.a22, hM.a23, hM.a24, hM.a25, hM.a26, hM.a27, hM.a28, hM.l1, hM.l2, hM.l3, hM.l4, hM.l5, hM.l6, hM.l7, hM.l8, hM.l9, hM.l10, hM.l11, hM.l12, hM.l13, hM.l14, hM.l15, hM.l16, hM.l17, hM.l18, hM.l19, hM.l20, hM.l21, hM.l22, hM.l23, hM.l24, hM.l25, hM.l26, hM.l27, hM.l28, hM.c10, hM.c11, hM.c12, hM.c13, hM.c14, hM.c15, hM.c19, hM.c20, hM.c23, hM.c27, hM.c36, hM.c37, hM.c38, hM.c40, hM.c41, hM.c42, hM.c44, ck, fin]
    rw [Int.zero_add, Int.add_zero]
  · rw [if_neg ck]
    simp (config := { maxSteps := 1000000 }) (disch := first | assumption | exact W.i _ _ | exact sLine_i W _ _ _ | exact W1.i _ _ | exact hg _ _ | exact W3.i _ _ | (refine ⟨?_, ?_⟩ <;> omega) | omega | (simp only [sW_1, sW_2, sW_3, sW_4, sW_5, sW_8] <;> first | assumption | omega | (refine ⟨?_, ?_⟩ <;> omega)) | (simp only [sT_1, sT_2, sT_3, sT_4, sT_5, sT_8] <;> first | assumption | omega | (refine ⟨?_, ?_⟩ <;> omega))) only [Int.reduceEq, Int.reduceLT, Int.reduceLE, Int.reduceNeg, Int.reduceAdd, Int.reduceSub, Int.reduceMul, if_true, if_false, not_true, not_false_eq_true, false_or, or_false, true_or, or_true, true_and, and_true, false_and, and_false, iI_on, iI_mul, iI_add, iI_sub, iI_neg, ap_if, mp_eq, mz_0, mz_1, mz_b, b2_0, b2_1, iI_lt, iI_le, iI_inj, mb_div, mb_rem, hM.m, hM.a1, hM.a2, hM.a3, hM.a4, hM.a5, hM.a6, hM.a7, hM.a8, hM.a9, hM.a10, hM.a11, hM.a12, hM.a13, hM.a14, hM.a15, hM.a16, hM.a17, hM.a18, hM.a19, hM.a20, hM.a21, hM.a22, hM.a23, hM.a24, hM.a25, hM.a26, hM.a27, hM.a28, hM.l1, hM.l2, hM.l3, hM.l4, hM.l5, hM.l6, hM.l7, hM.l8, hM.l9, hM.l10, hM.l11, hM.l12, hM.l13, hM.l14, hM.l15, hM.l16, hM.l17, hM.l18, hM.l19, hM.l20, hM.l21, hM.l22, hM.l23, hM.l24, hM.l25, hM.l26, hM.l27, hM.l28, hM.c10, hM.c11, hM.c12, hM.c13, hM.c14, hM.c15, hM.c19, hM.c20, hM.c23, hM.c27, hM.c36, hM.c37, hM.c38, hM.c40, hM.c41, hM.c42, hM.c44, ck, fin]
    rw [Int.add_comm 3]
def sLkS (sg : Nat → Int → Int) (d k : Int) : Int × Int → Int → Int × Int := fun x i => if i ≠ d ∧ 0 ≤ sTerm sg i k then (if x.1 < 0 ∨ sUnl sg d i k < x.2 then (i, sUnl sg d i k) else x) else x
def oLike (sg : Nat → Int → Int) (d k : Int) : Int := if (0 ≤ d ∧ d < sg 1 2) ∧ inD k then orN (fo (sLkS sg d k) (sg 1 2).toNat (-1, 0) 0).1 else -1
theorem B_like (hM : OKM M h) (W : WD sg) {d k : Int} (hd : i32 d) (hk : i32 k) : m12_like M (iI d) (iI k) (mK M sg h) = some (iI (oLike sg d k), mK M sg h) := by
  have n2 := W.n2
  have n5 := W.n5
  unfold oLike
  by_cases c : (0 ≤ d ∧ d < sg 1 2) ∧ inD k
  · rw [if_pos c]
    unfold m12_like
    simp (config := { maxSteps := 1000000 }) (disch := first | assumption | exact W.i _ _ | exact sLine_i W _ _ _ | exact W1.i _ _ | exact hg _ _ | exact W3.i _ _ | (refine ⟨?_, ?_⟩ <;> omega) | omega | (simp only [sW_1, sW_2, sW_3, sW_4, sW_5, sW_8] <;> first | assumption | omega | (refine ⟨?_, ?_⟩ <;> omega)) | (simp only [sT_1, sT_2, sT_3, sT_4, sT_5, sT_8] <;> first | assumption | omega | (refine ⟨?_, ?_⟩ <;> omega))) only [Int.reduceEq, Int.reduceLT, Int.reduceLE, Int.reduceNeg, Int.reduceAdd, Int.reduceSub, Int.reduceMul, if_true, if_false, not_true, not_false_eq_true, false_or, or_false, true_or, or_true, true_and, and_true, false_and, and_false, iI_on, iI_mul, iI_add, iI_sub, iI_neg, ap_if, mp_eq, mz_0, mz_1, mz_b, b2_0, b2_1, iI_lt, iI_le, iI_inj, mb_div, mb_rem, hM.m, hM.a1, hM.a2, hM.a3, hM.a4, hM.a5, hM.a6, hM.a7, hM.a8, hM.a9, hM.a10, hM.a11, hM.a12, hM.a13, hM.a14, hM.a15, hM.a16, hM.a17, hM.a18, hM.a19, hM.a20, hM.a21, hM.a22, hM.a23, hM.a24, hM.a25, hM.a26, hM.a27, hM.a28, hM.l1, hM.l2, hM.l3, hM.l4, hM.l5, hM.l6, hM.l7, hM.l8, hM.l9, hM.l10, hM.l11, hM.l12, hM.l13, hM.l14, hM.l15, hM.l16, hM.l17, hM.l18, hM.l19, hM.l20, hM.l21, hM.l22, hM.l23, hM.l24, hM.l25, hM.l26, hM.l27, hM.l28, hM.c10, hM.c11, hM.c12, hM.c13, hM.c14, hM.c15, hM.c19, hM.c20, hM.c23, hM.c27, hM.c36, hM.c37, hM.c38, hM.c40, hM.c41, hM.c42, hM.c44, mb_eq (B_isDeed hM W _), c.1.1, c.1.2, mb_eq (B_isDay _ _), c.2]
    refine (lop (F := fun n (x : Int × Int) i => m12_like_p25 n M (iI d) (iI k) (iI x.1) (iI x.2) (iI i) (mK M sg h)) (K := fun x => some (iI (orN x.1), mK M sg h)) (N := sg 1 2) (st := sLkS sg d k) (I := fun x i => (-1 ≤ x.1 ∧ x.1 < i) ∧ 0 ≤ x.2 ∧ x.2 ≤ 153) (fun n x hx => ?_) (fun n x i hx q2 q3 => ⟨?_, ?_⟩) (sg 1 2).toNat FU (-1, 0) 0 ⟨⟨by decide, by decide⟩, by decide, by decide⟩ (by omega) (by omega) (FU_lt (by omega))).1
    · show m12_like_p25 (n + 1) M (iI d) (iI k) (iI x.1) (iI x.2) (iI (sg 1 2)) (mK M sg h) = some (iI (orN x.1), mK M sg h)
      rw [m12_like_p25]
      unfold orN
      simp (config := { maxSteps := 1000000 }) (disch := first | assumption | exact W.i _ _ | exact sLine_i W _ _ _ | exact W1.i _ _ | exact hg _ _ | exact W3.i _ _ | (refine ⟨?_, ?_⟩ <;> omega) | omega | (simp only [sW_1, sW_2, sW_3, sW_4, sW_5, sW_8] <;> first | assumption | omega | (refine ⟨?_, ?_⟩ <;> omega)) | (simp only [sT_1, sT_2, sT_3, sT_4, sT_5, sT_8] <;> first | assumption | omega | (refine ⟨?_, ?_⟩ <;> omega))) only [Int.reduceEq, Int.reduceLT, Int.reduceLE, Int.reduceNeg, Int.reduceAdd, Int.reduceSub, Int.reduceMul, if_true, if_false, not_true, not_false_eq_true, false_or, or_false, true_or, or_true, true_and, and_true, false_and, and_false, iI_on, iI_mul, iI_add, iI_sub, iI_neg, ap_if, mp_eq, mz_0, mz_1, mz_b, b2_0, b2_1, iI_lt, iI_le, iI_inj, mb_div, mb_rem, hM.m, hM.a1, hM.a2, hM.a3, hM.a4, hM.a5, hM.a6, hM.a7, hM.a8, hM.a9, hM.a10, hM.a11, hM.a12, hM.a13, hM.a14, hM.a15, hM.a16, hM.a17, hM.a18, hM.a19, hM.a20, hM.a21, hM.a22, hM.a23, hM.a24, hM.a25, hM.a26, hM.a27, hM.a28, hM.l1, hM.l2, hM.l3, hM.l4, hM.l5, hM.l6, hM.l7, hM.l8, hM.l9, hM.l10, hM.l11, hM.l12, hM.l13, hM.l14, hM.l15, hM.l16, hM.l17, hM.l18, hM.l19, hM.l20, hM.l21, hM.l22, hM.l23, hM.l24, hM.l25, hM.l26, hM.l27, hM.l28, hM.c10, hM.c11, hM.c12, hM.c13, hM.c14, hM.c15, hM.c19, hM.c20, hM.c23, hM.c27, hM.c36, hM.c37, hM.c38, hM.c40, hM.c41, hM.c42, hM.c44, mb_eq (B_orNone _ _)]
      rw [if_pos (by omega)]
    · show m12_like_p25 (n + 1) M (iI d) (iI k) (iI x.1) (iI x.2) (iI i) (mK M sg h) = m12_like_p25 n M (iI d) (iI k) (iI (sLkS sg d k x i).1) (iI (sLkS sg d k x i).2) (iI (i + 1)) (mK M sg h)
      have hu := sUnl_b W d i k
      have ht := sTerm_b W i k
      rw [m12_like_p25]
      unfold sLkS
      (repeat' (first | simp (config := { maxSteps := 1000000 }) (disch := first | assumption | exact W.i _ _ | exact sLine_i W _ _ _ | exact W1.i _ _ | exact hg _ _ | exact W3.i _ _ | (refine ⟨?_, ?_⟩ <;> omega) | omega | (simp only [sW_1, sW_2, sW_3, sW_4, sW_5, sW_8] <;> first | assumption | omega | (refine ⟨?_, ?_⟩ <;> omega)) | (simp only [sT_1, sT_2, sT_3, sT_4, sT_5, sT_8] <;> first | assumption | omega | (refine ⟨?_, ?_⟩ <;> omega))) only [Int.reduceEq, Int.reduceLT, Int.reduceLE, Int.reduceNeg, Int.reduceAdd, Int.reduceSub, Int.reduceMul, if_true, if_false, not_true, not_false_eq_true, false_or, or_false, true_or, or_true, true_and, and_true, false_and, and_false, iI_on, iI_mul, iI_add, iI_sub, iI_neg, ap_if, mp_eq, mz_0, mz_1, mz_b, b2_0, b2_1, iI_lt, iI_le, iI_inj, mb_div, mb_rem, hM.m, hM.a1, hM.a2, hM.a3, hM.a4, hM.a5, hM.a6, hM.a7, hM.a8, hM.a9, hM.a10, hM.a11, hM.a12, hM.a13, hM.a14, hM.a15, hM.a16, hM.a17, hM.a18, hM.a19, hM.a20, hM.a21, hM.a22, hM.a23, hM.a24, hM.a25, hM.a26, hM.a27, hM.a28, hM.l1, hM.l2, hM.l3, hM.l4, hM.l5, hM.l6, hM.l7, hM.l8, hM.l9, hM.l10, hM.l11, hM.l12, hM.l13, hM.l14, hM.l15, hM.l16, hM.l17, hM.l18, hM.l19, hM.l20, hM.l21, hM.l22, hM.l23, hM.l24, hM.l25, hM.l26, hM.l27, hM.l28, hM.c10, hM.c11, hM.c12, hM.c13, hM.c14, hM.c15, hM.c19, hM.c20, hM.c23, hM.c27, hM.c36, hM.c37, hM.c38, hM.c40, hM.c41, hM.c42, hM.c44, m12_like_p80, m12_like_p73, mb_eq (B_termOf hM W _ _), mb_eq (B_unlike hM W _ _ _ _ _), c.1.1, c.1.2] | split)) <;> (first | with_reducible rfl | omega | rfl | (subst_vars; rfl) | (simp only [*, Int.add_zero]; done) | (rw [b2_t (by omega)]; done) | (rw [b2_f (by omega)]; done) | (rw [b2_f (by omega), Int.add_zero]))
    · have hu := sUnl_b W d i k
      show (-1 ≤ (sLkS sg d k x i).1 ∧ (sLkS sg d k x i).1 < i + 1) ∧ 0 ≤ (sLkS sg d k x i).2 ∧ (sLkS sg d k x i).2 ≤ 153
      unfold sLkS
      split
      · split
        · exact ⟨⟨by dsimp only; omega, by dsimp only; omega⟩, by dsimp only; omega, by dsimp only; omega⟩
        · omega
      · omega
  · rw [if_neg c]
    unfold m12_like
    simp (config := { maxSteps := 1000000 }) (disch := first | assumption | exact W.i _ _ | exact sLine_i W _ _ _ | exact W1.i _ _ | exact hg _ _ | exact W3.i _ _ | (refine ⟨?_, ?_⟩ <;> omega) | omega | (simp only [sW_1, sW_2, sW_3, sW_4, sW_5, sW_8] <;> first | assumption | omega | (refine ⟨?_, ?_⟩ <;> omega)) | (simp only [sT_1, sT_2, sT_3, sT_4, sT_5, sT_8] <;> first | assumption | omega | (refine ⟨?_, ?_⟩ <;> omega))) only [Int.reduceEq, Int.reduceLT, Int.reduceLE, Int.reduceNeg, Int.reduceAdd, Int.reduceSub, Int.reduceMul, if_true, if_false, not_true, not_false_eq_true, false_or, or_false, true_or, or_true, true_and, and_true, false_and, and_false, iI_on, iI_mul, iI_add, iI_sub, iI_neg, ap_if, mp_eq, mz_0, mz_1, mz_b, b2_0, b2_1, iI_lt, iI_le, iI_inj, mb_div, mb_rem, hM.m, hM.a1, hM.a2, hM.a3, hM.a4, hM.a5, hM.a6, hM.a7, hM.a8, hM.a9, hM.a10, hM.a11, hM.a12, hM.a13, hM.a14, hM.a15, hM.a16, hM.a17, hM.a18, hM.a19, hM.a20, hM.a21, hM.a22, hM.a23, hM.a24, hM.a25, hM.a26, hM.a27, hM.a28, hM.l1, hM.l2, hM.l3, hM.l4, hM.l5, hM.l6, hM.l7, hM.l8, hM.l9, hM.l10, hM.l11, hM.l12, hM.l13, hM.l14, hM.l15, hM.l16, hM.l17, hM.l18, hM.l19, hM.l20, hM.l21, hM.l22, hM.l23, hM.l24, hM.l25, hM.l26, hM.l27, hM.l28, hM.c10, hM.c11, hM.c12, hM.c13, hM.c14, hM.c15, hM.c19, hM.c20, hM.c23, hM.c27, hM.c36, hM.c37, hM.c38, hM.c40, hM.c41, hM.c42, hM.c44, mb_eq (B_isDeed hM W _), mb_eq (B_isDay _ _), m12_like_p15]
    (repeat' split) <;> first | with_reducible rfl | omega
end ROWS

/-! ===== the reference reads a condition: its loop ===== -/
section RLOOP
variable {M : Nat} {b : Nat → Int → Int} {h : gH} {g : Int → Int} {f k o : Int} {S w : List Int}
/-- the loop -/
abbrev Lp (M n : Nat) (o a m : Int) (s : gH) : Option (Unit × gH) := m12_wantCond_p11 n M (iI o) (iI a) (iI m) s
theorem QR.push (Q : QR g f k S w) {x : Int} (ix : i32 x) (hq : (S.length : Int) + w.length < 255) : QR g f k S (x :: w) := ⟨Q.1, Q.2.1, Q.2.2.1, fun y hy => (List.mem_cons.mp hy).elim (fun e => by rw [e]; exact ix) (Q.2.2.2.1 y), Q.2.2.2.2.1, by rw [List.length_cons]; omega⟩
theorem L_not (hM : OKM M h) (B : BR b) (Q : QR g (-1) k S w) (hq : (S.length : Int) + w.length < 255) (c : CD b k = 1020) (n : Nat) (io : i32 o) : Lp M (n + 1) o 1 1 (mK M (rSt b g (-1) k S w) h) = Lp M n o 1 1 (mK M (rSt b g (-1) (k + 1) S (7 :: w)) h) := by
  have hg := R_isGood (M := M) (b := b) (h := h) hM Q
  rw [b2_t (by omega)] at hg
  have hh := R_hold (h := h) hM B (Q.push (x := 7) ⟨by omega, by omega⟩ hq)
  have h20 := R_w20 (h := h) hM B Q
  show m12_wantCond_p11 (n + 1) M (iI o) (iI 1) (iI 1) _ = m12_wantCond_p11 n M (iI o) (iI 1) (iI 1) _
  rw [m12_wantCond_p11]
  simp (config := { maxSteps := 1000000 }) (disch := first | assumption | exact W.i _ _ | exact sLine_i W _ _ _ | exact W1.i _ _ | exact hg _ _ | exact W3.i _ _ | (refine ⟨?_, ?_⟩ <;> omega) | omega | (simp only [sW_1, sW_2, sW_3, sW_4, sW_5, sW_8] <;> first | assumption | omega | (refine ⟨?_, ?_⟩ <;> omega)) | (simp only [sT_1, sT_2, sT_3, sT_4, sT_5, sT_8] <;> first | assumption | omega | (refine ⟨?_, ?_⟩ <;> omega)) | (simp only [List.length_append, List.length_cons, List.length_nil, Nat.reduceAdd] <;> omega)) only [Int.reduceEq, Int.reduceLT, Int.reduceLE, Int.reduceNeg, Int.reduceAdd, Int.reduceSub, Int.reduceMul, if_true, if_false, not_true, not_false_eq_true, false_or, or_false, true_or, or_true, true_and, and_true, false_and, and_false, iI_on, iI_mul, iI_add, iI_sub, iI_neg, ap_if, mp_eq, mz_0, mz_1, mz_b, b2_0, b2_1, iI_lt, iI_le, iI_inj, mb_div, mb_rem, hM.m, hM.a1, hM.a2, hM.a3, hM.a4, hM.a5, hM.a6, hM.a7, hM.a8, hM.a9, hM.a10, hM.a11, hM.a12, hM.a13, hM.a14, hM.a15, hM.a16, hM.a17, hM.a18, hM.a19, hM.a20, hM.a21, hM.a22, hM.a23, hM.a24, hM.a25, hM.a26, hM.a27, hM.a28, hM.l1, hM.l2, hM.l3, hM.l4, hM.l5, hM.l6, hM.l7, hM.l8, hM.l9, hM.l10, hM.l11, hM.l12, hM.l13, hM.l14, hM.l15, hM.l16, hM.l17, hM.l18, hM.l19, hM.l20, hM.l21, hM.l22, hM.l23, hM.l24, hM.l25, hM.l26, hM.l27, hM.l28, hM.c10, hM.c11, hM.c12, hM.c13, hM.c14, hM.c15, hM.c19, hM.c20, hM.c23, hM.c27, hM.c36, hM.c37, hM.c38, hM.c40, hM.c41, hM.c42, hM.c44, mb_eq hg, mb_eq h20, c, mb_eq hh]
theorem L_open (hM : OKM M h) (B : BR b) (Q : QR g (-1) k S w) (hq : (S.length : Int) + w.length < 255) (c : CD b k = 2040) (n : Nat) (io : 0 ≤ o ∧ o < 4) : Lp M (n + 1) o 1 1 (mK M (rSt b g (-1) k S w) h) = Lp M n (o + 1) 1 1 (mK M (rSt b g (-1) (k + 1) S (10 :: w)) h) := by
  have hg := R_isGood (M := M) (b := b) (h := h) hM Q
  rw [b2_t (by omega)] at hg
  have hh := R_hold (h := h) hM B (Q.push (x := 10) ⟨by omega, by omega⟩ hq)
  have h20 := R_w20 (h := h) hM B Q
  have hm := R_isMark (h := h) hM B Q (m := 40) ⟨by omega, by omega⟩
  show m12_wantCond_p11 (n + 1) M (iI o) (iI 1) (iI 1) _ = m12_wantCond_p11 n M (iI (o + 1)) (iI 1) (iI 1) _
  rw [m12_wantCond_p11]
  simp (config := { maxSteps := 1000000 }) (disch := first | assumption | exact W.i _ _ | exact sLine_i W _ _ _ | exact W1.i _ _ | exact hg _ _ | exact W3.i _ _ | (refine ⟨?_, ?_⟩ <;> omega) | omega | (simp only [sW_1, sW_2, sW_3, sW_4, sW_5, sW_8] <;> first | assumption | omega | (refine ⟨?_, ?_⟩ <;> omega)) | (simp only [sT_1, sT_2, sT_3, sT_4, sT_5, sT_8] <;> first | assumption | omega | (refine ⟨?_, ?_⟩ <;> omega)) | (simp only [List.length_append, List.length_cons, List.length_nil, Nat.reduceAdd] <;> omega)) only [Int.reduceEq, Int.reduceLT, Int.reduceLE, Int.reduceNeg, Int.reduceAdd, Int.reduceSub, Int.reduceMul, if_true, if_false, not_true, not_false_eq_true, false_or, or_false, true_or, or_true, true_and, and_true, false_and, and_false, iI_on, iI_mul, iI_add, iI_sub, iI_neg, ap_if, mp_eq, mz_0, mz_1, mz_b, b2_0, b2_1, iI_lt, iI_le, iI_inj, mb_div, mb_rem, hM.m, hM.a1, hM.a2, hM.a3, hM.a4, hM.a5, hM.a6, hM.a7, hM.a8, hM.a9, hM.a10, hM.a11, hM.a12, hM.a13, hM.a14, hM.a15, hM.a16, hM.a17, hM.a18, hM.a19, hM.a20, hM.a21, hM.a22, hM.a23, hM.a24, hM.a25, hM.a26, hM.a27, hM.a28, hM.l1, hM.l2, hM.l3, hM.l4, hM.l5, hM.l6, hM.l7, hM.l8, hM.l9, hM.l10, hM.l11, hM.l12, hM.l13, hM.l14, hM.l15, hM.l16, hM.l17, hM.l18, hM.l19, hM.l20, hM.l21, hM.l22, hM.l23, hM.l24, hM.l25, hM.l26, hM.l27, hM.l28, hM.c10, hM.c11, hM.c12, hM.c13, hM.c14, hM.c15, hM.c19, hM.c20, hM.c23, hM.c27, hM.c36, hM.c37, hM.c38, hM.c40, hM.c41, hM.c42, hM.c44, mb_eq hg, mb_eq h20, c, mb_eq hm, show ¬ o = 4 by omega, mb_eq hh]
theorem L_open4 (hM : OKM M h) (B : BR b) (Q : QR g (-1) k S w) (c : CD b k = 2040) (n : Nat) : Lp M (n + 1) 4 1 1 (mK M (rSt b g (-1) k S w) h) = Lp M n 4 1 1 (mK M (rSt b g (pA0 b k) k S w) h) := by
  have hg := R_isGood (M := M) (b := b) (h := h) hM Q
  rw [b2_t (by omega)] at hg
  have h20 := R_w20 (h := h) hM B Q
  have hm := R_isMark (h := h) hM B Q (m := 40) ⟨by omega, by omega⟩
  have hw := R_wrong (M := M) (b := b) (h := h) hM Q
  rw [if_pos (by omega)] at hw
  show m12_wantCond_p11 (n + 1) M (iI 4) (iI 1) (iI 1) _ = m12_wantCond_p11 n M (iI 4) (iI 1) (iI 1) _
  rw [m12_wantCond_p11]
  simp (config := { maxSteps := 1000000 }) (disch := first | assumption | exact W.i _ _ | exact sLine_i W _ _ _ | exact W1.i _ _ | exact hg _ _ | exact W3.i _ _ | (refine ⟨?_, ?_⟩ <;> omega) | omega | (simp only [sW_1, sW_2, sW_3, sW_4, sW_5, sW_8] <;> first | assumption | omega | (refine ⟨?_, ?_⟩ <;> omega)) | (simp only [sT_1, sT_2, sT_3, sT_4, sT_5, sT_8] <;> first | assumption | omega | (refine ⟨?_, ?_⟩ <;> omega)) | (simp only [List.length_append, List.length_cons, List.length_nil, Nat.reduceAdd] <;> omega)) only [Int.reduceEq, Int.reduceLT, Int.reduceLE, Int.reduceNeg, Int.reduceAdd, Int.reduceSub, Int.reduceMul, if_true, if_false, not_true, not_false_eq_true, false_or, or_false, true_or, or_true, true_and, and_true, false_and, and_false, iI_on, iI_mul, iI_add, iI_sub, iI_neg, ap_if, mp_eq, mz_0, mz_1, mz_b, b2_0, b2_1, iI_lt, iI_le, iI_inj, mb_div, mb_rem, hM.m, hM.a1, hM.a2, hM.a3, hM.a4, hM.a5, hM.a6, hM.a7, hM.a8, hM.a9, hM.a10, hM.a11, hM.a12, hM.a13, hM.a14, hM.a15, hM.a16, hM.a17, hM.a18, hM.a19, hM.a20, hM.a21, hM.a22, hM.a23, hM.a24, hM.a25, hM.a26, hM.a27, hM.a28, hM.l1, hM.l2, hM.l3, hM.l4, hM.l5, hM.l6, hM.l7, hM.l8, hM.l9, hM.l10, hM.l11, hM.l12, hM.l13, hM.l14, hM.l15, hM.l16, hM.l17, hM.l18, hM.l19, hM.l20, hM.l21, hM.l22, hM.l23, hM.l24, hM.l25, hM.l26, hM.l27, hM.l28, hM.c10, hM.c11, hM.c12, hM.c13, hM.c14, hM.c15, hM.c19, hM.c20, hM.c23, hM.c27, hM.c36, hM.c37, hM.c38, hM.c40, hM.c41, hM.c42, hM.c44, mb_eq hg, mb_eq h20, c, mb_eq hm, mb_eq hw]
theorem L_ask (hM : OKM M h) (B : BR b) (Q : QR g (-1) k S w) (hl : (S.length : Int) + w.length ≤ k) (hk : k ≤ CT b) (c1 : CD b k ≠ 1020) (c2 : CD b k ≠ 2040) : ∃ g', QR g' (fl b (pA (CD b) k).1 (pA (CD b) k).2.1) (pA (CD b) k).2.1 (stl 7 w (S ++ (pA (CD b) k).2.2.map ct)).1 (stl 7 w (S ++ (pA (CD b) k).2.2.map ct)).2 ∧ ∀ (n : Nat), Lp M (n + 1) o 1 1 (mK M (rSt b g (-1) k S w) h) = Lp M n o 0 1 (mK M (rSt b g' (fl b (pA (CD b) k).1 (pA (CD b) k).2.1) (pA (CD b) k).2.1 (stl 7 w (S ++ (pA (CD b) k).2.2.map ct)).1 (stl 7 w (S ++ (pA (CD b) k).2.2.map ct)).2) h) := by
  have h0 := Q.2.2.2.2.1
  have n0 := B.CN.1
  have ab := pA_b B.CN h0 hk
  have ao := pA_ok B.CN h0 hk
  have ha := R_ask (h := h) hM B Q hl hk
  have hx1 : 0 ≤ (pA (CD b) k).2.1 := by omega
  have Q1 : QR g (fl b (pA (CD b) k).1 (pA (CD b) k).2.1) (pA (CD b) k).2.1 (S ++ (pA (CD b) k).2.2.map ct) w := ⟨Q.1, fl_i B _ hx1, okL_app Q.2.2.1 (fun y hy => by have := okL_ct ao y hy; omega), Q.2.2.2.1, hx1, by rw [List.length_append, List.length_map]; omega⟩
  generalize pA (CD b) k = x at *
  obtain ⟨g', q1, q2⟩ := R_settleM (M := M) (b := b) (h := h) hM (l := 7) ⟨by omega, by omega⟩ Q1
  refine ⟨g', q1, fun n => ?_⟩
  have hg := R_isGood (M := M) (b := b) (h := h) hM Q
  rw [b2_t (by omega)] at hg
  have h20 := R_w20 (h := h) hM B Q
  have hm := R_isMark (h := h) hM B Q (m := 40) ⟨by omega, by omega⟩
  show m12_wantCond_p11 (n + 1) M (iI o) (iI 1) (iI 1) _ = m12_wantCond_p11 n M (iI o) (iI 0) (iI 1) _
  rw [m12_wantCond_p11]
  simp (config := { maxSteps := 1000000 }) (disch := first | assumption | exact W.i _ _ | exact sLine_i W _ _ _ | exact W1.i _ _ | exact hg _ _ | exact W3.i _ _ | (refine ⟨?_, ?_⟩ <;> omega) | omega | (simp only [sW_1, sW_2, sW_3, sW_4, sW_5, sW_8] <;> first | assumption | omega | (refine ⟨?_, ?_⟩ <;> omega)) | (simp only [sT_1, sT_2, sT_3, sT_4, sT_5, sT_8] <;> first | assumption | omega | (refine ⟨?_, ?_⟩ <;> omega)) | (simp only [List.length_append, List.length_cons, List.length_nil, Nat.reduceAdd] <;> omega)) only [Int.reduceEq, Int.reduceLT, Int.reduceLE, Int.reduceNeg, Int.reduceAdd, Int.reduceSub, Int.reduceMul, if_true, if_false, not_true, not_false_eq_true, false_or, or_false, true_or, or_true, true_and, and_true, false_and, and_false, iI_on, iI_mul, iI_add, iI_sub, iI_neg, ap_if, mp_eq, mz_0, mz_1, mz_b, b2_0, b2_1, iI_lt, iI_le, iI_inj, mb_div, mb_rem, hM.m, hM.a1, hM.a2, hM.a3, hM.a4, hM.a5, hM.a6, hM.a7, hM.a8, hM.a9, hM.a10, hM.a11, hM.a12, hM.a13, hM.a14, hM.a15, hM.a16, hM.a17, hM.a18, hM.a19, hM.a20, hM.a21, hM.a22, hM.a23, hM.a24, hM.a25, hM.a26, hM.a27, hM.a28, hM.l1, hM.l2, hM.l3, hM.l4, hM.l5, hM.l6, hM.l7, hM.l8, hM.l9, hM.l10, hM.l11, hM.l12, hM.l13, hM.l14, hM.l15, hM.l16, hM.l17, hM.l18, hM.l19, hM.l20, hM.l21, hM.l22, hM.l23, hM.l24, hM.l25, hM.l26, hM.l27, hM.l28, hM.c10, hM.c11, hM.c12, hM.c13, hM.c14, hM.c15, hM.c19, hM.c20, hM.c23, hM.c27, hM.c36, hM.c37, hM.c38, hM.c40, hM.c41, hM.c42, hM.c44, mb_eq hg, mb_eq h20, c1, mb_eq hm, c2, mb_eq ha, mb_eq q2]
theorem L_and (hM : OKM M h) (B : BR b) (Q : QR g (-1) k S w) (hq : (S.length : Int) + w.length < 255) {x : Int} (hx : (x = 8 ∧ CD b k = 1019) ∨ (x = 9 ∧ CD b k = 1018)) : ∃ g', QR g' (-1) (k + 1) (stl x w S).1 (x :: (stl x w S).2) ∧ ∀ (n : Nat), Lp M (n + 1) o 0 1 (mK M (rSt b g (-1) k S w) h) = Lp M n o 1 1 (mK M (rSt b g' (-1) (k + 1) (stl x w S).1 (x :: (stl x w S).2)) h) := by
  have ix : i32 x := ⟨by omega, by omega⟩
  obtain ⟨g', q1, q2⟩ := R_settleM (M := M) (b := b) (h := h) hM ix Q
  have hln := stl_len x w S
  have Q2 := q1.push ix (by omega)
  have hh := R_hold (h := h) hM B Q2
  refine ⟨g', Q2.nx, fun n => ?_⟩
  have hg := R_isGood (M := M) (b := b) (h := h) hM Q
  rw [b2_t (by omega)] at hg
  have h18 := R_w18 (h := h) hM B Q
  have h19 := R_w19 (h := h) hM B Q
  show m12_wantCond_p11 (n + 1) M (iI o) (iI 0) (iI 1) _ = m12_wantCond_p11 n M (iI o) (iI 1) (iI 1) _
  rw [m12_wantCond_p11]
  rcases hx with ⟨rfl, c⟩ | ⟨rfl, c⟩
  · simp (config := { maxSteps := 1000000 }) (disch := first | assumption | exact W.i _ _ | exact sLine_i W _ _ _ | exact W1.i _ _ | exact hg _ _ | exact W3.i _ _ | (refine ⟨?_, ?_⟩ <;> omega) | omega | (simp only [sW_1, sW_2, sW_3, sW_4, sW_5, sW_8] <;> first | assumption | omega | (refine ⟨?_, ?_⟩ <;> omega)) | (simp only [sT_1, sT_2, sT_3, sT_4, sT_5, sT_8] <;> first | assumption | omega | (refine ⟨?_, ?_⟩ <;> omega)) | (simp only [List.length_append, List.length_cons, List.length_nil, Nat.reduceAdd] <;> omega)) only [Int.reduceEq, Int.reduceLT, Int.reduceLE, Int.reduceNeg, Int.reduceAdd, Int.reduceSub, Int.reduceMul, if_true, if_false, not_true, not_false_eq_true, false_or, or_false, true_or, or_true, true_and, and_true, false_and, and_false, iI_on, iI_mul, iI_add, iI_sub, iI_neg, ap_if, mp_eq, mz_0, mz_1, mz_b, b2_0, b2_1, iI_lt, iI_le, iI_inj, mb_div, mb_rem, hM.m, hM.a1, hM.a2, hM.a3, hM.a4, hM.a5, hM.a6, hM.a7, hM.a8, hM.a9, hM.a10, hM.a11, hM.a12, hM.a13, hM.a14, hM.a15, hM.a16, hM.a17, hM.a18, hM.a19, hM.a20, hM.a21, hM.a22, hM.a23, hM.a24, hM.a25, hM.a26, hM.a27, hM.a28, hM.l1, hM.l2, hM.l3, hM.l4, hM.l5, hM.l6, hM.l7, hM.l8, hM.l9, hM.l10, hM.l11, hM.l12, hM.l13, hM.l14, hM.l15, hM.l16, hM.l17, hM.l18, hM.l19, hM.l20, hM.l21, hM.l22, hM.l23, hM.l24, hM.l25, hM.l26, hM.l27, hM.l28, hM.c10, hM.c11, hM.c12, hM.c13, hM.c14, hM.c15, hM.c19, hM.c20, hM.c23, hM.c27, hM.c36, hM.c37, hM.c38, hM.c40, hM.c41, hM.c42, hM.c44, mb_eq hg, mb_eq h19, c, m12_wantCond_p113, m12_wantCond_p130, mb_eq q2, mb_eq hh]
  · simp (config := { maxSteps := 1000000 }) (disch := first | assumption | exact W.i _ _ | exact sLine_i W _ _ _ | exact W1.i _ _ | exact hg _ _ | exact W3.i _ _ | (refine ⟨?_, ?_⟩ <;> omega) | omega | (simp only [sW_1, sW_2, sW_3, sW_4, sW_5, sW_8] <;> first | assumption | omega | (refine ⟨?_, ?_⟩ <;> omega)) | (simp only [sT_1, sT_2, sT_3, sT_4, sT_5, sT_8] <;> first | assumption | omega | (refine ⟨?_, ?_⟩ <;> omega)) | (simp only [List.length_append, List.length_cons, List.length_nil, Nat.reduceAdd] <;> omega)) only [Int.reduceEq, Int.reduceLT, Int.reduceLE, Int.reduceNeg, Int.reduceAdd, Int.reduceSub, Int.reduceMul, if_true, if_false, not_true, not_false_eq_true, false_or, or_false, true_or, or_true, true_and, and_true, false_and, and_false, iI_on, iI_mul, iI_add, iI_sub, iI_neg, ap_if, mp_eq, mz_0, mz_1, mz_b, b2_0, b2_1, iI_lt, iI_le, iI_inj, mb_div, mb_rem, hM.m, hM.a1, hM.a2, hM.a3, hM.a4, hM.a5, hM.a6, hM.a7, hM.a8, hM.a9, hM.a10, hM.a11, hM.a12, hM.a13, hM.a14, hM.a15, hM.a16, hM.a17, hM.a18, hM.a19, hM.a20, hM.a21, hM.a22, hM.a23, hM.a24, hM.a25, hM.a26, hM.a27, hM.a28, hM.l1, hM.l2, hM.l3, hM.l4, hM.l5, hM.l6, hM.l7, hM.l8, hM.l9, hM.l10, hM.l11, hM.l12, hM.l13, hM.l14, hM.l15, hM.l16, hM.l17, hM.l18, hM.l19, hM.l20, hM.l21, hM.l22, hM.l23, hM.l24, hM.l25, hM.l26, hM.l27, hM.l28, hM.c10, hM.c11, hM.c12, hM.c13, hM.c14, hM.c15, hM.c19, hM.c20, hM.c23, hM.c27, hM.c36, hM.c37, hM.c38, hM.c40, hM.c41, hM.c42, hM.c44, mb_eq hg, mb_eq h19, mb_eq h18, c, m12_wantCond_p113, m12_wantCond_p130, mb_eq q2, mb_eq hh]
theorem L_close (hM : OKM M h) (B : BR b) (Q : QR g (-1) k S w) (hk : k ≤ CT b) (c1 : CD b k ≠ 1019) (c2 : CD b k ≠ 1018) (ho : 0 < o ∧ o ≤ 4) {S1 w0 : List Int} (hst : stl 9 w S = (S1, 10 :: w0)) : ∃ g', QR g' (if CD b k = 2041 then -1 else pA0 b k) (if CD b k = 2041 then k + 1 else k) (stl 7 w0 S1).1 (stl 7 w0 S1).2 ∧ ∀ (n : Nat), Lp M (n + 1) o 0 1 (mK M (rSt b g (-1) k S w) h) = Lp M n (o - 1) 0 1 (mK M (rSt b g' (if CD b k = 2041 then -1 else pA0 b k) (if CD b k = 2041 then k + 1 else k) (stl 7 w0 S1).1 (stl 7 w0 S1).2) h) := by
  have h0 := Q.2.2.2.2.1
  obtain ⟨g1, q1, q2⟩ := R_settleM (M := M) (b := b) (h := h) hM (l := 9) ⟨by omega, by omega⟩ Q
  rw [hst] at q1 q2
  dsimp only at q1 q2
  have hl1 := q1.2.2.2.2.2
  rw [List.length_cons] at hl1
  have Q2 : QR (fun j => if j = (w0.length : Int) then 10 else g1 j) (-1) k S1 w0 := by
    refine ⟨fun j => ?_, q1.2.1, q1.2.2.1, fun y hy => q1.2.2.2.1 y (List.mem_cons_of_mem _ hy), q1.2.2.2.2.1, by omega⟩
    dsimp only
    split
    · exact ⟨by omega, by omega⟩
    · exact q1.1 j
  have hg := R_isGood (M := M) (b := b) (h := h) hM Q
  rw [b2_t (by omega)] at hg
  have h18 := R_w18 (h := h) hM B Q
  have h19 := R_w19 (h := h) hM B Q
  have hm := R_isMark (h := h) hM B Q2 (m := 41) ⟨by omega, by omega⟩
  have el : (((10 :: w0 : List Int).length : Nat) : Int) = (w0.length : Int) + 1 := by rw [List.length_cons]; rfl
  have e1 : (w0.length : Int) + 1 - 1 = (w0.length : Int) := by omega
  have eo : o + -1 = o - 1 := by omega
  by_cases c3 : CD b k = 2041
  · rw [if_pos c3, if_pos c3]
    rw [b2_t (by omega)] at hm
    have hw1 := R_want1 (h := h) hM B Q2 (by omega)
    obtain ⟨g', p1, p2⟩ := R_settleM (M := M) (b := b) (h := h) hM (l := 7) ⟨by omega, by omega⟩ Q2.nx
    refine ⟨g', p1, fun n => ?_⟩
    show m12_wantCond_p11 (n + 1) M (iI o) (iI 0) (iI 1) _ = m12_wantCond_p11 n M (iI (o - 1)) (iI 0) (iI 1) _
    rw [m12_wantCond_p11]
    simp (config := { maxSteps := 1000000 }) (disch := first | assumption | exact W.i _ _ | exact sLine_i W _ _ _ | exact W1.i _ _ | exact hg _ _ | exact W3.i _ _ | (refine ⟨?_, ?_⟩ <;> omega) | omega | (simp only [sW_1, sW_2, sW_3, sW_4, sW_5, sW_8] <;> first | assumption | omega | (refine ⟨?_, ?_⟩ <;> omega)) | (simp only [sT_1, sT_2, sT_3, sT_4, sT_5, sT_8] <;> first | assumption | omega | (refine ⟨?_, ?_⟩ <;> omega)) | (simp only [List.length_append, List.length_cons, List.length_nil, Nat.reduceAdd] <;> omega)) only [Int.reduceEq, Int.reduceLT, Int.reduceLE, Int.reduceNeg, Int.reduceAdd, Int.reduceSub, Int.reduceMul, if_true, if_false, not_true, not_false_eq_true, false_or, or_false, true_or, or_true, true_and, and_true, false_and, and_false, iI_on, iI_mul, iI_add, iI_sub, iI_neg, ap_if, mp_eq, mz_0, mz_1, mz_b, b2_0, b2_1, iI_lt, iI_le, iI_inj, mb_div, mb_rem, hM.m, hM.a1, hM.a2, hM.a3, hM.a4, hM.a5, hM.a6, hM.a7, hM.a8, hM.a9, hM.a10, hM.a11, hM.a12, hM.a13, hM.a14, hM.a15, hM.a16, hM.a17, hM.a18, hM.a19, hM.a20, hM.a21, hM.a22, hM.a23, hM.a24, hM.a25, hM.a26, hM.a27, hM.a28, hM.l1, hM.l2, hM.l3, hM.l4, hM.l5, hM.l6, hM.l7, hM.l8, hM.l9, hM.l10, hM.l11, hM.l12, hM.l13, hM.l14, hM.l15, hM.l16, hM.l17, hM.l18, hM.l19, hM.l20, hM.l21, hM.l22, hM.l23, hM.l24, hM.l25, hM.l26, hM.l27, hM.l28, hM.c10, hM.c11, hM.c12, hM.c13, hM.c14, hM.c15, hM.c19, hM.c20, hM.c23, hM.c27, hM.c36, hM.c37, hM.c38, hM.c40, hM.c41, hM.c42, hM.c44, hM.w1, hM.w2, hM.w3, hM.w4, hM.w5, hM.w6, hM.w7, hM.w8, hM.w9, hM.w10, hM.w11, hM.w12, hM.w13, hM.w14, hM.w15, hM.w16, hM.w17, hM.w18, hM.w19, hM.w20, hM.w21, hM.w22, hM.w23, hM.w24, hM.w25, hM.w26, hM.w27, hM.w28, hM.p10, hM.p11, hM.p12, hM.p13, hM.p14, hM.p15, hM.p19, hM.p20, hM.p23, hM.p27, hM.p36, hM.p37, hM.p38, hM.p40, hM.p41, hM.p42, hM.p44, s3_at, s3_nk, s3_nj, mb_eq hg, mb_eq h19, mb_eq h18, c1, c2, show ¬ o ≤ 0 by omega, mb_eq q2, hM.sc 20, hM.ps 20, rSt_20, el, e1, rSt_pop, mb_eq hm, c3, mb_eq hw1, mb_eq p2, eo]
  · rw [if_neg c3, if_neg c3]
    rw [b2_f (by omega)] at hm
    have hw0 := R_want0 (M := M) (b := b) (h := h) hM Q2 (by omega)
    obtain ⟨g', p1, p2⟩ := R_settleM (M := M) (b := b) (h := h) hM (l := 7) ⟨by omega, by omega⟩ (Q2.fa (pA0_i B h0))
    refine ⟨g', p1, fun n => ?_⟩
    show m12_wantCond_p11 (n + 1) M (iI o) (iI 0) (iI 1) _ = m12_wantCond_p11 n M (iI (o - 1)) (iI 0) (iI 1) _
    rw [m12_wantCond_p11]
    simp (config := { maxSteps := 1000000 }) (disch := first | assumption | exact W.i _ _ | exact sLine_i W _ _ _ | exact W1.i _ _ | exact hg _ _ | exact W3.i _ _ | (refine ⟨?_, ?_⟩ <;> omega) | omega | (simp only [sW_1, sW_2, sW_3, sW_4, sW_5, sW_8] <;> first | assumption | omega | (refine ⟨?_, ?_⟩ <;> omega)) | (simp only [sT_1, sT_2, sT_3, sT_4, sT_5, sT_8] <;> first | assumption | omega | (refine ⟨?_, ?_⟩ <;> omega)) | (simp only [List.length_append, List.length_cons, List.length_nil, Nat.reduceAdd] <;> omega)) only [Int.reduceEq, Int.reduceLT, Int.reduceLE, Int.reduceNeg, Int.reduceAdd, Int.reduceSub, Int.reduceMul, if_true, if_false, not_true, not_false_eq_true, false_or, or_false, true_or, or_true, true_and, and_true, false_and, and_false, iI_on, iI_mul, iI_add, iI_sub, iI_neg, ap_if, mp_eq, mz_0, mz_1, mz_b, b2_0, b2_1, iI_lt, iI_le, iI_inj, mb_div, mb_rem, hM.m, hM.a1, hM.a2, hM.a3, hM.a4, hM.a5, hM.a6, hM.a7, hM.a8, hM.a9, hM.a10, hM.a11, hM.a12, hM.a13, hM.a14, hM.a15, hM.a16, hM.a17, hM.a18, hM.a19, hM.a20, hM.a21, hM.a22, hM.a23, hM.a24, hM.a25, hM.a26, hM.a27, hM.a28, hM.l1, hM.l2, hM.l3, hM.l4, hM.l5, hM.l6, hM.l7, hM.l8, hM.l9, hM.l10, hM.l11, hM.l12, hM.l13, hM.l14, hM.l15, hM.l16, hM.l17, hM.l18, hM.l19, hM.l20, hM.l21, hM.l22, hM.l23, hM.l24, hM.l25, hM.l26, hM.l27, hM.l28, hM.c10, hM.c11, hM.c12, hM.c13, hM.c14, hM.c15, hM.c19, hM.c20, hM.c23, hM.c27, hM.c36, hM.c37, hM.c38, hM.c40, hM.c41, hM.c42, hM.c44, hM.w1, hM.w2, hM.w3, hM.w4, hM.w5, hM.w6, hM.w7, hM.w8, hM.w9, hM.w10, hM.w11, hM.w12, hM.w13, hM.w14, hM.w15, hM.w16, hM.w17, hM.w18, hM.w19, hM.w20, hM.w21, hM.w22, hM.w23, hM.w24, hM.w25, hM.w26, hM.w27, hM.w28, hM.p10, hM.p11, hM.p12, hM.p13, hM.p14, hM.p15, hM.p19, hM.p20, hM.p23, hM.p27, hM.p36, hM.p37, hM.p38, hM.p40, hM.p41, hM.p42, hM.p44, s3_at, s3_nk, s3_nj, mb_eq hg, mb_eq h19, mb_eq h18, c1, c2, show ¬ o ≤ 0 by omega, mb_eq q2, hM.sc 20, hM.ps 20, rSt_20, el, e1, rSt_pop, mb_eq hm, c3, mb_eq hw0, mb_eq p2, eo]
theorem L_out (hM : OKM M h) (Q : QR g f k S w) {m a : Int} (io : i32 o) (hm : m = 0 ∨ (m = 1 ∧ 0 ≤ f)) : ∃ g', QR g' f k (stl 9 w S).1 (stl 9 w S).2 ∧ ∀ (n : Nat), Lp M (n + 1) o a m (mK M (rSt b g f k S w) h) = some ((), mK M (rSt b g' f k (stl 9 w S).1 (stl 9 w S).2) h) := by
  obtain ⟨g', q1, q2⟩ := R_settleM (M := M) (b := b) (h := h) hM (l := 9) ⟨by omega, by omega⟩ Q
  refine ⟨g', q1, fun n => ?_⟩
  show m12_wantCond_p11 (n + 1) M (iI o) (iI a) (iI m) _ = _
  rw [m12_wantCond_p11]
  unfold m12_wantCond_p196
  rcases hm with rfl | ⟨rfl, hf⟩
  · simp (config := { maxSteps := 1000000 }) (disch := first | assumption | exact W.i _ _ | exact sLine_i W _ _ _ | exact W1.i _ _ | exact hg _ _ | exact W3.i _ _ | (refine ⟨?_, ?_⟩ <;> omega) | omega | (simp only [sW_1, sW_2, sW_3, sW_4, sW_5, sW_8] <;> first | assumption | omega | (refine ⟨?_, ?_⟩ <;> omega)) | (simp only [sT_1, sT_2, sT_3, sT_4, sT_5, sT_8] <;> first | assumption | omega | (refine ⟨?_, ?_⟩ <;> omega)) | (simp only [List.length_append, List.length_cons, List.length_nil, Nat.reduceAdd] <;> omega)) only [Int.reduceEq, Int.reduceLT, Int.reduceLE, Int.reduceNeg, Int.reduceAdd, Int.reduceSub, Int.reduceMul, if_true, if_false, not_true, not_false_eq_true, false_or, or_false, true_or, or_true, true_and, and_true, false_and, and_false, iI_on, iI_mul, iI_add, iI_sub, iI_neg, ap_if, mp_eq, mz_0, mz_1, mz_b, b2_0, b2_1, iI_lt, iI_le, iI_inj, mb_div, mb_rem, hM.m, hM.a1, hM.a2, hM.a3, hM.a4, hM.a5, hM.a6, hM.a7, hM.a8, hM.a9, hM.a10, hM.a11, hM.a12, hM.a13, hM.a14, hM.a15, hM.a16, hM.a17, hM.a18, hM.a19, hM.a20, hM.a21, hM.a22, hM.a23, hM.a24, hM.a25, hM.a26, hM.a27, hM.a28, hM.l1, hM.l2, hM.l3, hM.l4, hM.l5, hM.l6, hM.l7, hM.l8, hM.l9, hM.l10, hM.l11, hM.l12, hM.l13, hM.l14, hM.l15, hM.l16, hM.l17, hM.l18, hM.l19, hM.l20, hM.l21, hM.l22, hM.l23, hM.l24, hM.l25, hM.l26, hM.l27, hM.l28, hM.c10, hM.c11, hM.c12, hM.c13, hM.c14, hM.c15, hM.c19, hM.c20, hM.c23, hM.c27, hM.c36, hM.c37, hM.c38, hM.c40, hM.c41, hM.c42, hM.c44, mb_eq q2]
  · have hg := R_isGood (M := M) (b := b) (h := h) hM Q
    rw [b2_f (by omega)] at hg
    simp (config := { maxSteps := 1000000 }) (disch := first | assumption | exact W.i _ _ | exact sLine_i W _ _ _ | exact W1.i _ _ | exact hg _ _ | exact W3.i _ _ | (refine ⟨?_, ?_⟩ <;> omega) | omega | (simp only [sW_1, sW_2, sW_3, sW_4, sW_5, sW_8] <;> first | assumption | omega | (refine ⟨?_, ?_⟩ <;> omega)) | (simp only [sT_1, sT_2, sT_3, sT_4, sT_5, sT_8] <;> first | assumption | omega | (refine ⟨?_, ?_⟩ <;> omega)) | (simp only [List.length_append, List.length_cons, List.length_nil, Nat.reduceAdd] <;> omega)) only [Int.reduceEq, Int.reduceLT, Int.reduceLE, Int.reduceNeg, Int.reduceAdd, Int.reduceSub, Int.reduceMul, if_true, if_false, not_true, not_false_eq_true, false_or, or_false, true_or, or_true, true_and, and_true, false_and, and_false, iI_on, iI_mul, iI_add, iI_sub, iI_neg, ap_if, mp_eq, mz_0, mz_1, mz_b, b2_0, b2_1, iI_lt, iI_le, iI_inj, mb_div, mb_rem, hM.m, hM.a1, hM.a2, hM.a3, hM.a4, hM.a5, hM.a6, hM.a7, hM.a8, hM.a9, hM.a10, hM.a11, hM.a12, hM.a13, hM.a14, hM.a15, hM.a16, hM.a17, hM.a18, hM.a19, hM.a20, hM.a21, hM.a22, hM.a23, hM.a24, hM.a25, hM.a26, hM.a27, hM.a28, hM.l1, hM.l2, hM.l3, hM.l4, hM.l5, hM.l6, hM.l7, hM.l8, hM.l9, hM.l10, hM.l11, hM.l12, hM.l13, hM.l14, hM.l15, hM.l16, hM.l17, hM.l18, hM.l19, hM.l20, hM.l21, hM.l22, hM.l23, hM.l24, hM.l25, hM.l26, hM.l27, hM.l28, hM.c10, hM.c11, hM.c12, hM.c13, hM.c14, hM.c15, hM.c19, hM.c20, hM.c23, hM.c27, hM.c36, hM.c37, hM.c38, hM.c40, hM.c41, hM.c42, hM.c44, mb_eq hg, mb_eq q2]
theorem L_end (hM : OKM M h) (B : BR b) (Q : QR g (-1) k S w) (c1 : CD b k ≠ 1019) (c2 : CD b k ≠ 1018) (n : Nat) : Lp M (n + 1) 0 0 1 (mK M (rSt b g (-1) k S w) h) = Lp M n 0 0 0 (mK M (rSt b g (-1) k S w) h) := by
  have hg := R_isGood (M := M) (b := b) (h := h) hM Q
  rw [b2_t (by omega)] at hg
  have h18 := R_w18 (h := h) hM B Q
  have h19 := R_w19 (h := h) hM B Q
  show m12_wantCond_p11 (n + 1) M (iI 0) (iI 0) (iI 1) _ = m12_wantCond_p11 n M (iI 0) (iI 0) (iI 0) _
  rw [m12_wantCond_p11]
  simp (config := { maxSteps := 1000000 }) (disch := first | assumption | exact W.i _ _ | exact sLine_i W _ _ _ | exact W1.i _ _ | exact hg _ _ | exact W3.i _ _ | (refine ⟨?_, ?_⟩ <;> omega) | omega | (simp only [sW_1, sW_2, sW_3, sW_4, sW_5, sW_8] <;> first | assumption | omega | (refine ⟨?_, ?_⟩ <;> omega)) | (simp only [sT_1, sT_2, sT_3, sT_4, sT_5, sT_8] <;> first | assumption | omega | (refine ⟨?_, ?_⟩ <;> omega)) | (simp only [List.length_append, List.length_cons, List.length_nil, Nat.reduceAdd] <;> omega)) only [Int.reduceEq, Int.reduceLT, Int.reduceLE, Int.reduceNeg, Int.reduceAdd, Int.reduceSub, Int.reduceMul, if_true, if_false, not_true, not_false_eq_true, false_or, or_false, true_or, or_true, true_and, and_true, false_and, and_false, iI_on, iI_mul, iI_add, iI_sub, iI_neg, ap_if, mp_eq, mz_0, mz_1, mz_b, b2_0, b2_1, iI_lt, iI_le, iI_inj, mb_div, mb_rem, hM.m, hM.a1, hM.a2, hM.a3, hM.a4, hM.a5, hM.a6, hM.a7, hM.a8, hM.a9, hM.a10, hM.a11, hM.a12, hM.a13, hM.a14, hM.a15, hM.a16, hM.a17, hM.a18, hM.a19, hM.a20, hM.a21, hM.a22, hM.a23, hM.a24, hM.a25, hM.a26, hM.a27, hM.a28, hM.l1, hM.l2, hM.l3, hM.l4, hM.l5, hM.l6, hM.l7, hM.l8, hM.l9, hM.l10, hM.l11, hM.l12, hM.l13, hM.l14, hM.l15, hM.l16, hM.l17, hM.l18, hM.l19, hM.l20, hM.l21, hM.l22, hM.l23, hM.l24, hM.l25, hM.l26, hM.l27, hM.l28, hM.c10, hM.c11, hM.c12, hM.c13, hM.c14, hM.c15, hM.c19, hM.c20, hM.c23, hM.c27, hM.c36, hM.c37, hM.c38, hM.c40, hM.c41, hM.c42, hM.c44, mb_eq hg, mb_eq h19, mb_eq h18, c1, c2]
/-- it goes wrong -/
def Fails (M : Nat) (b : Nat → Int → Int) (h : gH) (o : Int) (s : gH) (k k' : Int) : Prop := ∃ (q : Nat) (g' : Int → Int) (k2 : Int) (S2 w2 : List Int), (q : Int) ≤ k' - k + 3 ∧ QR g' (pA0 b k') k2 S2 w2 ∧ ∀ n : Nat, Lp M (n + q) o 1 1 s = some ((), mK M (rSt b g' (pA0 b k') k2 S2 w2) h)
/-- it reads what stands between and, or -/
def OneR (M : Nat) (b : Nat → Int → Int) (h : gH) (one : Int → Rs) (o : Int) : Prop := ∀ (k : Int) (g : Int → Int) (S w : List Int), QR g (-1) k S w → (S.length : Int) + w.length ≤ k → k ≤ CT b → (∀ x r, w = x :: r → 7 < x) →
  ((one k).1 = true → ∃ (q : Nat) (g' : Int → Int), (q : Int) ≤ (one k).2.1 - k ∧ QR g' (-1) (one k).2.1 (S ++ (one k).2.2.1) w ∧ ∀ n : Nat, Lp M (n + q) o 1 1 (mK M (rSt b g (-1) k S w) h) = Lp M n o 0 1 (mK M (rSt b g' (-1) (one k).2.1 (S ++ (one k).2.2.1) w) h)) ∧
  ((one k).1 = false → Fails M b h o (mK M (rSt b g (-1) k S w) h) k (one k).2.1)
/-- it reads up to where no and, or stands -/
def CondR (M : Nat) (b : Nat → Int → Int) (h : gH) (x : Rs) (o k : Int) (g : Int → Int) (S w0 w : List Int) : Prop :=
  (x.1 = true → ∃ (q : Nat) (g' : Int → Int) (S1 : List Int) (a r : Bool), (q : Int) ≤ x.2.1 - k ∧ x.2.2.1 = S1 ++ aS a ++ oS r ∧ CD b x.2.1 ≠ 1019 ∧ CD b x.2.1 ≠ 1018 ∧ QR g' (-1) x.2.1 (S ++ S1) (aS a ++ (oS r ++ w)) ∧ (((S ++ S1).length : Int) + (aS a ++ (oS r ++ w)).length ≤ x.2.1) ∧ ∀ n : Nat, Lp M (n + q) o 1 1 (mK M (rSt b g (-1) k S w0) h) = Lp M n o 0 1 (mK M (rSt b g' (-1) x.2.1 (S ++ S1) (aS a ++ (oS r ++ w))) h)) ∧
  (x.1 = false → Fails M b h o (mK M (rSt b g (-1) k S w0) h) k x.2.1)
abbrev base (w : List Int) : Prop := w = [] ∨ ∃ r, w = 10 :: r
theorem stl8 {w S : List Int} (hw : base w) (a r : Bool) : stl 8 (aS a ++ (oS r ++ w)) S = (S ++ aS a, oS r ++ w) := by
  have e1 : ∀ S : List Int, stl 8 (oS r ++ w) S = (S, oS r ++ w) := fun S => by
    cases r with
    | false =>
      rcases hw with e | ⟨r', e⟩
      · rw [e]; rfl
      · rw [e]
        show stl 8 (10 :: r') S = _
        rw [stl, if_pos (Or.inl rfl)]; rfl
    | true =>
      show stl 8 (9 :: w) S = _
      rw [stl, if_pos (Or.inr (by omega))]; rfl
  cases a with
  | false =>
    show stl 8 (oS r ++ w) S = (S ++ [], oS r ++ w)
    rw [e1, List.append_nil]
  | true =>
    show stl 8 (8 :: (oS r ++ w)) S = (S ++ [8], oS r ++ w)
    rw [stl, if_neg (by omega), e1]
theorem stl9 {w S : List Int} (hw : base w) (a r : Bool) : stl 9 (aS a ++ (oS r ++ w)) S = (S ++ aS a ++ oS r, w) := by
  have e0 : ∀ S : List Int, stl 9 w S = (S, w) := fun S => by
    rcases hw with e | ⟨r', e⟩
    · rw [e]; rfl
    · rw [e, stl, if_pos (Or.inl rfl)]
  have e1 : ∀ S : List Int, stl 9 (oS r ++ w) S = (S ++ oS r, w) := fun S => by
    cases r with
    | false =>
      show stl 9 w S = (S ++ [], w)
      rw [e0, List.append_nil]
    | true =>
      show stl 9 (9 :: w) S = (S ++ [9], w)
      rw [stl, if_neg (by omega), e0]
  cases a with
  | false =>
    show stl 9 (oS r ++ w) S = (S ++ [] ++ oS r, w)
    rw [e1, List.append_nil]
  | true =>
    show stl 9 (8 :: (oS r ++ w)) S = (S ++ [8] ++ oS r, w)
    rw [stl, if_neg (by omega), e1]
theorem stl7 {w : List Int} (hw : ∀ x r, w = x :: r → 7 < x) : ∀ (j : Nat) (S : List Int), stl 7 (List.replicate j 7 ++ w) S = (S ++ List.replicate j 7, w)
  | 0, S => by
    show stl 7 w S = (S ++ [], w)
    rw [List.append_nil]
    cases w with
    | nil => rfl
    | cons x r =>
      rw [stl, if_pos (Or.inr (hw x r rfl))]
  | j + 1, S => by
    rw [List.replicate_succ, List.cons_append, stl, if_neg (by omega), stl7 hw j, List.append_assoc]
    rfl
theorem L_nots (hM : OKM M h) (B : BR b) (io : i32 o) : ∀ (j : Nat) (k : Int) (w : List Int), QR g (-1) k S w → (S.length : Int) + w.length + j ≤ 254 → (∀ i : Nat, i < j → CD b (k + i) = 1020) → QR g (-1) (k + j) S (List.replicate j 7 ++ w) ∧ ∀ n : Nat, Lp M (n + j) o 1 1 (mK M (rSt b g (-1) k S w) h) = Lp M n o 1 1 (mK M (rSt b g (-1) (k + j) S (List.replicate j 7 ++ w)) h) := by
  intro j
  induction j with
  | zero =>
    intro k w Q _ _
    have e1 : k + ((0 : Nat) : Int) = k := Int.add_zero k
    have e2 : List.replicate 0 7 ++ w = w := rfl
    rw [e1, e2]
    exact ⟨Q, fun n => rfl⟩
  | succ j ih =>
    intro k w Q hl hc
    have c0 := hc 0 (by omega)
    rw [Int.natCast_zero, Int.add_zero] at c0
    have Q1 := (Q.push (x := 7) ⟨by omega, by omega⟩ (by omega)).nx
    obtain ⟨q1, q2⟩ := ih (k + 1) (7 :: w) Q1 (by rw [List.length_cons]; omega) (fun i hi => by
      have := hc (i + 1) (by omega)
      have e : k + ((i + 1 : Nat) : Int) = k + 1 + i := by omega
      rw [e] at this; exact this)
    have e1 : k + 1 + (j : Int) = k + ((j + 1 : Nat) : Int) := by omega
    have e2 : List.replicate j 7 ++ 7 :: w = List.replicate (j + 1) 7 ++ w := by
      rw [List.replicate_succ']
      simp
    rw [e1, e2] at q1 q2
    refine ⟨q1, fun n => ?_⟩
    have e3 : n + (j + 1) = (n + j) + 1 := by omega
    rw [e3, L_not hM B Q (by omega) c0 (n + j) io]
    exact q2 n
end RLOOP

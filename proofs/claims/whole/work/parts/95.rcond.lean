/-! ===== the reference reads a condition ===== -/
section RCOND
variable {M : Nat} {b : Nat → Int → Int} {h : gH} {g : Int → Int} {f k o : Int} {S w : List Int}
/-- signs that wait, down to one that binds less, are told -/
def stl (l : Int) : List Int → List Int → List Int × List Int
  | [], S => (S, [])
  | x :: r, S => if x = 10 ∨ l < x then (S, x :: r) else stl l r (S ++ [x])
theorem stl_len (l : Int) : ∀ (w S : List Int), (stl l w S).1.length + (stl l w S).2.length = S.length + w.length
  | [], S => rfl
  | x :: r, S => by
    rw [stl]
    split
    · rfl
    · rw [stl_len l r]
      simp only [List.length_append, List.length_cons, List.length_nil]
      omega
theorem stl_i (l : Int) {P : Int → Prop} : ∀ (w S : List Int), (∀ x, x ∈ S → P x) → (∀ x, x ∈ w → P x) → (∀ x, x ∈ (stl l w S).1 → P x) ∧ ∀ x, x ∈ (stl l w S).2 → P x
  | [], S, h1, h2 => ⟨h1, h2⟩
  | x :: r, S, h1, h2 => by
    rw [stl]
    split
    · exact ⟨h1, h2⟩
    · exact stl_i l r (S ++ [x]) (okL_app h1 (okL_1 (h2 x List.mem_cons_self))) (fun y hy => h2 y (List.mem_cons_of_mem _ hy))
theorem QR.stl (Q : QR g f k S w) (l : Int) : QR g f k (stl l w S).1 (stl l w S).2 := by
  have h1 := stl_i l (P := i32) w S Q.2.2.1 Q.2.2.2.1
  have h2 := stl_len l w S
  exact ⟨Q.1, Q.2.1, h1.1, h1.2, Q.2.2.2.2.1, by have := Q.2.2.2.2.2; omega⟩
theorem R_settle (hM : OKM M h) {l : Int} (il : i32 l) : ∀ (w : List Int) (n : Nat) (g : Int → Int) (S : List Int), w.length < n → QR g f k S w → ∃ g', QR g' f k (stl l w S).1 (stl l w S).2 ∧ m12_settle_p0 n M (iI l) (mK M (rSt b g f k S w) h) = some ((), mK M (rSt b g' f k (stl l w S).1 (stl l w S).2) h)
  | [], n + 1, g, S, hn, Q => by
    refine ⟨g, Q, ?_⟩
    have e0 : (([] : List Int).length : Int) = 0 := rfl
    rw [m12_settle_p0]
    unfold m12_settle_p64
    simp (config := { maxSteps := 1000000 }) (disch := first | assumption | exact W.i _ _ | exact sLine_i W _ _ _ | exact W1.i _ _ | exact hg _ _ | exact W3.i _ _ | (refine ⟨?_, ?_⟩ <;> omega) | omega | (simp only [sW_1, sW_2, sW_3, sW_4, sW_5, sW_8] <;> first | assumption | omega | (refine ⟨?_, ?_⟩ <;> omega)) | (simp only [sT_1, sT_2, sT_3, sT_4, sT_5, sT_8] <;> first | assumption | omega | (refine ⟨?_, ?_⟩ <;> omega)) | (simp only [List.length_append, List.length_cons, List.length_nil, Nat.reduceAdd] <;> omega)) only [Int.reduceEq, Int.reduceLT, Int.reduceLE, Int.reduceNeg, Int.reduceAdd, Int.reduceSub, Int.reduceMul, if_true, if_false, not_true, not_false_eq_true, false_or, or_false, true_or, or_true, true_and, and_true, false_and, and_false, iI_on, iI_mul, iI_add, iI_sub, iI_neg, ap_if, mp_eq, mz_0, mz_1, mz_b, b2_0, b2_1, iI_lt, iI_le, iI_inj, mb_div, mb_rem, hM.m, hM.a1, hM.a2, hM.a3, hM.a4, hM.a5, hM.a6, hM.a7, hM.a8, hM.a9, hM.a10, hM.a11, hM.a12, hM.a13, hM.a14, hM.a15, hM.a16, hM.a17, hM.a18, hM.a19, hM.a20, hM.a21, hM.a22, hM.a23, hM.a24, hM.a25, hM.a26, hM.a27, hM.a28, hM.l1, hM.l2, hM.l3, hM.l4, hM.l5, hM.l6, hM.l7, hM.l8, hM.l9, hM.l10, hM.l11, hM.l12, hM.l13, hM.l14, hM.l15, hM.l16, hM.l17, hM.l18, hM.l19, hM.l20, hM.l21, hM.l22, hM.l23, hM.l24, hM.l25, hM.l26, hM.l27, hM.l28, hM.c10, hM.c11, hM.c12, hM.c13, hM.c14, hM.c15, hM.c19, hM.c20, hM.c23, hM.c27, hM.c36, hM.c37, hM.c38, hM.c40, hM.c41, hM.c42, hM.c44, hM.sc 20, rSt_20, e0]
    rfl
  | x :: r, n + 1, g, S, hn, Q => by
    have ix := Q.2.2.2.1 x List.mem_cons_self
    have ql := Q.2.2.2.2.2
    have el : (((x :: r).length : Nat) : Int) = (r.length : Int) + 1 := by rw [List.length_cons]; rfl
    have e1 : (r.length : Int) + 1 - 1 = (r.length : Int) := by omega
    have np : ¬ (r.length : Int) + 1 ≤ 0 := by omega
    rw [List.length_cons] at ql hn
    rw [m12_settle_p0, stl]
    unfold m12_settle_p64
    by_cases c : x = 10 ∨ l < x
    · rw [if_pos c]
      refine ⟨g, Q, ?_⟩
      by_cases c1 : x = 10
      · simp (config := { maxSteps := 1000000 }) (disch := first | assumption | exact W.i _ _ | exact sLine_i W _ _ _ | exact W1.i _ _ | exact hg _ _ | exact W3.i _ _ | (refine ⟨?_, ?_⟩ <;> omega) | omega | (simp only [sW_1, sW_2, sW_3, sW_4, sW_5, sW_8] <;> first | assumption | omega | (refine ⟨?_, ?_⟩ <;> omega)) | (simp only [sT_1, sT_2, sT_3, sT_4, sT_5, sT_8] <;> first | assumption | omega | (refine ⟨?_, ?_⟩ <;> omega)) | (simp only [List.length_append, List.length_cons, List.length_nil, Nat.reduceAdd] <;> omega)) only [Int.reduceEq, Int.reduceLT, Int.reduceLE, Int.reduceNeg, Int.reduceAdd, Int.reduceSub, Int.reduceMul, if_true, if_false, not_true, not_false_eq_true, false_or, or_false, true_or, or_true, true_and, and_true, false_and, and_false, iI_on, iI_mul, iI_add, iI_sub, iI_neg, ap_if, mp_eq, mz_0, mz_1, mz_b, b2_0, b2_1, iI_lt, iI_le, iI_inj, mb_div, mb_rem, hM.m, hM.a1, hM.a2, hM.a3, hM.a4, hM.a5, hM.a6, hM.a7, hM.a8, hM.a9, hM.a10, hM.a11, hM.a12, hM.a13, hM.a14, hM.a15, hM.a16, hM.a17, hM.a18, hM.a19, hM.a20, hM.a21, hM.a22, hM.a23, hM.a24, hM.a25, hM.a26, hM.a27, hM.a28, hM.l1, hM.l2, hM.l3, hM.l4, hM.l5, hM.l6, hM.l7, hM.l8, hM.l9, hM.l10, hM.l11, hM.l12, hM.l13, hM.l14, hM.l15, hM.l16, hM.l17, hM.l18, hM.l19, hM.l20, hM.l21, hM.l22, hM.l23, hM.l24, hM.l25, hM.l26, hM.l27, hM.l28, hM.c10, hM.c11, hM.c12, hM.c13, hM.c14, hM.c15, hM.c19, hM.c20, hM.c23, hM.c27, hM.c36, hM.c37, hM.c38, hM.c40, hM.c41, hM.c42, hM.c44, hM.sc 20, rSt_20, el, e1, np, rSt_top, eq_true c1]
      · have c2 : l < x := by omega
        simp (config := { maxSteps := 1000000 }) (disch := first | assumption | exact W.i _ _ | exact sLine_i W _ _ _ | exact W1.i _ _ | exact hg _ _ | exact W3.i _ _ | (refine ⟨?_, ?_⟩ <;> omega) | omega | (simp only [sW_1, sW_2, sW_3, sW_4, sW_5, sW_8] <;> first | assumption | omega | (refine ⟨?_, ?_⟩ <;> omega)) | (simp only [sT_1, sT_2, sT_3, sT_4, sT_5, sT_8] <;> first | assumption | omega | (refine ⟨?_, ?_⟩ <;> omega)) | (simp only [List.length_append, List.length_cons, List.length_nil, Nat.reduceAdd] <;> omega)) only [Int.reduceEq, Int.reduceLT, Int.reduceLE, Int.reduceNeg, Int.reduceAdd, Int.reduceSub, Int.reduceMul, if_true, if_false, not_true, not_false_eq_true, false_or, or_false, true_or, or_true, true_and, and_true, false_and, and_false, iI_on, iI_mul, iI_add, iI_sub, iI_neg, ap_if, mp_eq, mz_0, mz_1, mz_b, b2_0, b2_1, iI_lt, iI_le, iI_inj, mb_div, mb_rem, hM.m, hM.a1, hM.a2, hM.a3, hM.a4, hM.a5, hM.a6, hM.a7, hM.a8, hM.a9, hM.a10, hM.a11, hM.a12, hM.a13, hM.a14, hM.a15, hM.a16, hM.a17, hM.a18, hM.a19, hM.a20, hM.a21, hM.a22, hM.a23, hM.a24, hM.a25, hM.a26, hM.a27, hM.a28, hM.l1, hM.l2, hM.l3, hM.l4, hM.l5, hM.l6, hM.l7, hM.l8, hM.l9, hM.l10, hM.l11, hM.l12, hM.l13, hM.l14, hM.l15, hM.l16, hM.l17, hM.l18, hM.l19, hM.l20, hM.l21, hM.l22, hM.l23, hM.l24, hM.l25, hM.l26, hM.l27, hM.l28, hM.c10, hM.c11, hM.c12, hM.c13, hM.c14, hM.c15, hM.c19, hM.c20, hM.c23, hM.c27, hM.c36, hM.c37, hM.c38, hM.c40, hM.c41, hM.c42, hM.c44, hM.sc 20, rSt_20, el, e1, np, rSt_top, eq_false c1, eq_true c2]
    · rw [if_neg c]
      have Q2 : QR (fun j => if j = (r.length : Int) then x else g j) f k (S ++ [x]) r := by
        refine ⟨fun j => ?_, Q.2.1, okL_app Q.2.2.1 (okL_1 ix), fun y hy => Q.2.2.2.1 y (List.mem_cons_of_mem _ hy), Q.2.2.2.2.1, by rw [List.length_append, List.length_singleton]; omega⟩
        dsimp only
        split
        · exact ix
        · exact Q.1 j
      obtain ⟨g', q1, q2⟩ := R_settle hM il r n _ (S ++ [x]) (by omega) Q2
      refine ⟨g', q1, ?_⟩
      have he := R_emit (M := M) (b := b) (g := fun j => if j = (r.length : Int) then x else g j) (f := f) (k := k) (S := S) (w := r) (h := h) (x := x) hM (by omega)
      have eg : rSt b (fun j => if j = (r.length : Int) then x else g j) f k S r 13 (r.length : Int) = x := by
        unfold rSt
        rw [if_neg (by omega), if_neg (by omega), if_pos rfl, if_neg (by omega)]
        dsimp only
        rw [if_pos rfl]
      rw [← q2]
      simp (config := { maxSteps := 1000000 }) (disch := first | assumption | exact W.i _ _ | exact sLine_i W _ _ _ | exact W1.i _ _ | exact hg _ _ | exact W3.i _ _ | (refine ⟨?_, ?_⟩ <;> omega) | omega | (simp only [sW_1, sW_2, sW_3, sW_4, sW_5, sW_8] <;> first | assumption | omega | (refine ⟨?_, ?_⟩ <;> omega)) | (simp only [sT_1, sT_2, sT_3, sT_4, sT_5, sT_8] <;> first | assumption | omega | (refine ⟨?_, ?_⟩ <;> omega)) | (simp only [List.length_append, List.length_cons, List.length_nil, Nat.reduceAdd] <;> omega)) only [Int.reduceEq, Int.reduceLT, Int.reduceLE, Int.reduceNeg, Int.reduceAdd, Int.reduceSub, Int.reduceMul, if_true, if_false, not_true, not_false_eq_true, false_or, or_false, true_or, or_true, true_and, and_true, false_and, and_false, iI_on, iI_mul, iI_add, iI_sub, iI_neg, ap_if, mp_eq, mz_0, mz_1, mz_b, b2_0, b2_1, iI_lt, iI_le, iI_inj, mb_div, mb_rem, hM.m, hM.a1, hM.a2, hM.a3, hM.a4, hM.a5, hM.a6, hM.a7, hM.a8, hM.a9, hM.a10, hM.a11, hM.a12, hM.a13, hM.a14, hM.a15, hM.a16, hM.a17, hM.a18, hM.a19, hM.a20, hM.a21, hM.a22, hM.a23, hM.a24, hM.a25, hM.a26, hM.a27, hM.a28, hM.l1, hM.l2, hM.l3, hM.l4, hM.l5, hM.l6, hM.l7, hM.l8, hM.l9, hM.l10, hM.l11, hM.l12, hM.l13, hM.l14, hM.l15, hM.l16, hM.l17, hM.l18, hM.l19, hM.l20, hM.l21, hM.l22, hM.l23, hM.l24, hM.l25, hM.l26, hM.l27, hM.l28, hM.c10, hM.c11, hM.c12, hM.c13, hM.c14, hM.c15, hM.c19, hM.c20, hM.c23, hM.c27, hM.c36, hM.c37, hM.c38, hM.c40, hM.c41, hM.c42, hM.c44, hM.w1, hM.w2, hM.w3, hM.w4, hM.w5, hM.w6, hM.w7, hM.w8, hM.w9, hM.w10, hM.w11, hM.w12, hM.w13, hM.w14, hM.w15, hM.w16, hM.w17, hM.w18, hM.w19, hM.w20, hM.w21, hM.w22, hM.w23, hM.w24, hM.w25, hM.w26, hM.w27, hM.w28, hM.p10, hM.p11, hM.p12, hM.p13, hM.p14, hM.p15, hM.p19, hM.p20, hM.p23, hM.p27, hM.p36, hM.p37, hM.p38, hM.p40, hM.p41, hM.p42, hM.p44, s3_at, s3_nk, s3_nj, hM.sc 20, hM.ps 20, rSt_20, el, e1, np, rSt_top, show ¬ x = 10 by omega, show ¬ l < x by omega, rSt_pop, eg, mb_eq he]
theorem R_settleM (hM : OKM M h) {l : Int} (il : i32 l) (Q : QR g f k S w) : ∃ g', QR g' f k (stl l w S).1 (stl l w S).2 ∧ m12_settle M (iI l) (mK M (rSt b g f k S w) h) = some ((), mK M (rSt b g' f k (stl l w S).1 (stl l w S).2) h) := by
  unfold m12_settle
  exact R_settle hM il w FU g S (by have := Q.2.2.2.2.2; unfold FU; omega) Q
theorem cd_i (B : BR b) (h0 : 0 ≤ k) : i32 (CD b k) := by
  have := B.CN.2.2 k h0
  exact ⟨by omega, by omega⟩
/-- which fact is asked -/
theorem R_factHere (hM : OKM M h) (B : BR b) (Q : QR g f k S w) : m12_factHere M (mK M (rSt b g f k S w) h) = some (iI (if 1008 ≤ CD b k ∧ CD b k ≤ 1013 then CD b k - 1007 else 0), mK M (rSt b g f k S w) h) := by
  have ic := cd_i B Q.2.2.2.2.1
  have h8 := R_w8 (h := h) hM B Q
  have h9 := R_w9 (h := h) hM B Q
  have h10 := R_w10 (h := h) hM B Q
  have h11 := R_w11 (h := h) hM B Q
  have h12 := R_w12 (h := h) hM B Q
  have h13 := R_w13 (h := h) hM B Q
  unfold m12_factHere
  generalize CD b k = C at *
  (repeat' (first | simp (config := { maxSteps := 1000000 }) (disch := first | assumption | exact W.i _ _ | exact sLine_i W _ _ _ | exact W1.i _ _ | exact hg _ _ | exact W3.i _ _ | (refine ⟨?_, ?_⟩ <;> omega) | omega | (simp only [sW_1, sW_2, sW_3, sW_4, sW_5, sW_8] <;> first | assumption | omega | (refine ⟨?_, ?_⟩ <;> omega)) | (simp only [sT_1, sT_2, sT_3, sT_4, sT_5, sT_8] <;> first | assumption | omega | (refine ⟨?_, ?_⟩ <;> omega)) | (simp only [List.length_append, List.length_cons, List.length_nil, Nat.reduceAdd] <;> omega)) only [Int.reduceEq, Int.reduceLT, Int.reduceLE, Int.reduceNeg, Int.reduceAdd, Int.reduceSub, Int.reduceMul, if_true, if_false, not_true, not_false_eq_true, false_or, or_false, true_or, or_true, true_and, and_true, false_and, and_false, iI_on, iI_mul, iI_add, iI_sub, iI_neg, ap_if, mp_eq, mz_0, mz_1, mz_b, b2_0, b2_1, iI_lt, iI_le, iI_inj, mb_div, mb_rem, hM.m, hM.a1, hM.a2, hM.a3, hM.a4, hM.a5, hM.a6, hM.a7, hM.a8, hM.a9, hM.a10, hM.a11, hM.a12, hM.a13, hM.a14, hM.a15, hM.a16, hM.a17, hM.a18, hM.a19, hM.a20, hM.a21, hM.a22, hM.a23, hM.a24, hM.a25, hM.a26, hM.a27, hM.a28, hM.l1, hM.l2, hM.l3, hM.l4, hM.l5, hM.l6, hM.l7, hM.l8, hM.l9, hM.l10, hM.l11, hM.l12, hM.l13, hM.l14, hM.l15, hM.l16, hM.l17, hM.l18, hM.l19, hM.l20, hM.l21, hM.l22, hM.l23, hM.l24, hM.l25, hM.l26, hM.l27, hM.l28, hM.c10, hM.c11, hM.c12, hM.c13, hM.c14, hM.c15, hM.c19, hM.c20, hM.c23, hM.c27, hM.c36, hM.c37, hM.c38, hM.c40, hM.c41, hM.c42, hM.c44, mb_eq h8, mb_eq h9, mb_eq h10, mb_eq h11, mb_eq h12, mb_eq h13, m12_factHere_p80] | split)) <;> first | omega | rfl | (obtain rfl : C = 1008 := (by omega); rfl) | (obtain rfl : C = 1009 := (by omega); rfl) | (obtain rfl : C = 1010 := (by omega); rfl) | (obtain rfl : C = 1011 := (by omega); rfl) | (obtain rfl : C = 1012 := (by omega); rfl) | (obtain rfl : C = 1013 := (by omega); rfl)
theorem QR.add (Q : QR g f k S w) {x : Int} (ix : i32 x) (hq : (S.length : Int) + w.length < 255) : QR g f k (S ++ [x]) w := ⟨Q.1, Q.2.1, okL_app Q.2.2.1 (okL_1 ix), Q.2.2.2.1, Q.2.2.2.2.1, by rw [List.length_append, List.length_singleton]; omega⟩
theorem R_p4B (hM : OKM M h) (Q : QR g f k S w) (hf : 0 ≤ f) (n : Nat) : m12_wantSum_p4 (n + 1) M (mK M (rSt b g f k S w) h) = some ((), mK M (rSt b g f k S w) h) := by
  have hg := R_isGood (M := M) (b := b) (h := h) hM Q
  rw [b2_f (by omega)] at hg
  rw [m12_wantSum_p4]
  unfold m12_wantSum_p44
  simp (config := { maxSteps := 1000000 }) (disch := first | assumption | exact W.i _ _ | exact sLine_i W _ _ _ | exact W1.i _ _ | exact hg _ _ | exact W3.i _ _ | (refine ⟨?_, ?_⟩ <;> omega) | omega | (simp only [sW_1, sW_2, sW_3, sW_4, sW_5, sW_8] <;> first | assumption | omega | (refine ⟨?_, ?_⟩ <;> omega)) | (simp only [sT_1, sT_2, sT_3, sT_4, sT_5, sT_8] <;> first | assumption | omega | (refine ⟨?_, ?_⟩ <;> omega)) | (simp only [List.length_append, List.length_cons, List.length_nil, Nat.reduceAdd] <;> omega)) only [Int.reduceEq, Int.reduceLT, Int.reduceLE, Int.reduceNeg, Int.reduceAdd, Int.reduceSub, Int.reduceMul, if_true, if_false, not_true, not_false_eq_true, false_or, or_false, true_or, or_true, true_and, and_true, false_and, and_false, iI_on, iI_mul, iI_add, iI_sub, iI_neg, ap_if, mp_eq, mz_0, mz_1, mz_b, b2_0, b2_1, iI_lt, iI_le, iI_inj, mb_div, mb_rem, hM.m, hM.a1, hM.a2, hM.a3, hM.a4, hM.a5, hM.a6, hM.a7, hM.a8, hM.a9, hM.a10, hM.a11, hM.a12, hM.a13, hM.a14, hM.a15, hM.a16, hM.a17, hM.a18, hM.a19, hM.a20, hM.a21, hM.a22, hM.a23, hM.a24, hM.a25, hM.a26, hM.a27, hM.a28, hM.l1, hM.l2, hM.l3, hM.l4, hM.l5, hM.l6, hM.l7, hM.l8, hM.l9, hM.l10, hM.l11, hM.l12, hM.l13, hM.l14, hM.l15, hM.l16, hM.l17, hM.l18, hM.l19, hM.l20, hM.l21, hM.l22, hM.l23, hM.l24, hM.l25, hM.l26, hM.l27, hM.l28, hM.c10, hM.c11, hM.c12, hM.c13, hM.c14, hM.c15, hM.c19, hM.c20, hM.c23, hM.c27, hM.c36, hM.c37, hM.c38, hM.c40, hM.c41, hM.c42, hM.c44, mb_eq hg]
/-- a value is wanted -/
theorem R_wantValue (hM : OKM M h) (B : BR b) (Q : QR g (-1) k S w) (hl : (S.length : Int) + w.length < 255) : m12_wantValue M (mK M (rSt b g (-1) k S w) h) = some ((), mK M (if 0 ≤ pv (CD b k) then rSt b g (-1) (k + 1) (S ++ [ct (pv (CD b k))]) w else rSt b g (pA0 b k) k S w) h) := by
  have h0 := Q.2.2.2.2.1
  have ic := cd_i B h0
  have hc := B.CN.2.2 k h0
  have h1 := R_w1 (h := h) hM B Q
  have h14 := R_w14 (h := h) hM B Q
  have h15 := R_w15 (h := h) hM B Q
  obtain ⟨hn, hv⟩ := R_wantNumber (h := h) hM B Q (by omega) (l := 0) (m := 999) (by omega) (by omega) ⟨by omega, by omega⟩ ⟨by omega, by omega⟩
  have hem : ∀ (x kk : Int), m12_emit M (iI x) (mK M (rSt b g (-1) kk S w) h) = some ((), mK M (rSt b g (-1) kk (S ++ [x]) w) h) := fun x kk => R_emit hM (by omega)
  have had : ∀ (x : Int), i32 x → m12_advance M (mK M (rSt b g (-1) k (S ++ [x]) w) h) = some ((), mK M (rSt b g (-1) (k + 1) (S ++ [x]) w) h) := fun x ix => R_advance hM B (Q.add ix hl)
  unfold m12_wantValue m12_wantValue_p44 m12_wantValue_p86
  by_cases c1 : CD b k = 1001
  · have e : pv (CD b k) = 1008 := by unfold pv; rw [if_pos c1]
    have e2 : ct 1008 = 11 := rfl
    rw [e, if_pos (show (0 : Int) ≤ 1008 by omega), e2]
    simp (config := { maxSteps := 1000000 }) (disch := first | assumption | exact W.i _ _ | exact sLine_i W _ _ _ | exact W1.i _ _ | exact hg _ _ | exact W3.i _ _ | (refine ⟨?_, ?_⟩ <;> omega) | omega | (simp only [sW_1, sW_2, sW_3, sW_4, sW_5, sW_8] <;> first | assumption | omega | (refine ⟨?_, ?_⟩ <;> omega)) | (simp only [sT_1, sT_2, sT_3, sT_4, sT_5, sT_8] <;> first | assumption | omega | (refine ⟨?_, ?_⟩ <;> omega)) | (simp only [List.length_append, List.length_cons, List.length_nil, Nat.reduceAdd] <;> omega)) only [Int.reduceEq, Int.reduceLT, Int.reduceLE, Int.reduceNeg, Int.reduceAdd, Int.reduceSub, Int.reduceMul, if_true, if_false, not_true, not_false_eq_true, false_or, or_false, true_or, or_true, true_and, and_true, false_and, and_false, iI_on, iI_mul, iI_add, iI_sub, iI_neg, ap_if, mp_eq, mz_0, mz_1, mz_b, b2_0, b2_1, iI_lt, iI_le, iI_inj, mb_div, mb_rem, hM.m, hM.a1, hM.a2, hM.a3, hM.a4, hM.a5, hM.a6, hM.a7, hM.a8, hM.a9, hM.a10, hM.a11, hM.a12, hM.a13, hM.a14, hM.a15, hM.a16, hM.a17, hM.a18, hM.a19, hM.a20, hM.a21, hM.a22, hM.a23, hM.a24, hM.a25, hM.a26, hM.a27, hM.a28, hM.l1, hM.l2, hM.l3, hM.l4, hM.l5, hM.l6, hM.l7, hM.l8, hM.l9, hM.l10, hM.l11, hM.l12, hM.l13, hM.l14, hM.l15, hM.l16, hM.l17, hM.l18, hM.l19, hM.l20, hM.l21, hM.l22, hM.l23, hM.l24, hM.l25, hM.l26, hM.l27, hM.l28, hM.c10, hM.c11, hM.c12, hM.c13, hM.c14, hM.c15, hM.c19, hM.c20, hM.c23, hM.c27, hM.c36, hM.c37, hM.c38, hM.c40, hM.c41, hM.c42, hM.c44, mb_eq h1, c1, mb_eq (hem 11 k), mb_eq (had 11 ⟨by omega, by omega⟩)]
  · by_cases c2 : CD b k = 1014
    · have e : pv (CD b k) = 1006 := by unfold pv; rw [if_neg c1, if_pos c2]
      have e2 : ct 1006 = 12 := rfl
      rw [e, if_pos (show (0 : Int) ≤ 1006 by omega), e2]
      simp (config := { maxSteps := 1000000 }) (disch := first | assumption | exact W.i _ _ | exact sLine_i W _ _ _ | exact W1.i _ _ | exact hg _ _ | exact W3.i _ _ | (refine ⟨?_, ?_⟩ <;> omega) | omega | (simp only [sW_1, sW_2, sW_3, sW_4, sW_5, sW_8] <;> first | assumption | omega | (refine ⟨?_, ?_⟩ <;> omega)) | (simp only [sT_1, sT_2, sT_3, sT_4, sT_5, sT_8] <;> first | assumption | omega | (refine ⟨?_, ?_⟩ <;> omega)) | (simp only [List.length_append, List.length_cons, List.length_nil, Nat.reduceAdd] <;> omega)) only [Int.reduceEq, Int.reduceLT, Int.reduceLE, Int.reduceNeg, Int.reduceAdd, Int.reduceSub, Int.reduceMul, if_true, if_false, not_true, not_false_eq_true, false_or, or_false, true_or, or_true, true_and, and_true, false_and, and_false, iI_on, iI_mul, iI_add, iI_sub, iI_neg, ap_if, mp_eq, mz_0, mz_1, mz_b, b2_0, b2_1, iI_lt, iI_le, iI_inj, mb_div, mb_rem, hM.m, hM.a1, hM.a2, hM.a3, hM.a4, hM.a5, hM.a6, hM.a7, hM.a8, hM.a9, hM.a10, hM.a11, hM.a12, hM.a13, hM.a14, hM.a15, hM.a16, hM.a17, hM.a18, hM.a19, hM.a20, hM.a21, hM.a22, hM.a23, hM.a24, hM.a25, hM.a26, hM.a27, hM.a28, hM.l1, hM.l2, hM.l3, hM.l4, hM.l5, hM.l6, hM.l7, hM.l8, hM.l9, hM.l10, hM.l11, hM.l12, hM.l13, hM.l14, hM.l15, hM.l16, hM.l17, hM.l18, hM.l19, hM.l20, hM.l21, hM.l22, hM.l23, hM.l24, hM.l25, hM.l26, hM.l27, hM.l28, hM.c10, hM.c11, hM.c12, hM.c13, hM.c14, hM.c15, hM.c19, hM.c20, hM.c23, hM.c27, hM.c36, hM.c37, hM.c38, hM.c40, hM.c41, hM.c42, hM.c44, mb_eq h1, mb_eq h14, c1, c2, mb_eq (hem 12 k), mb_eq (had 12 ⟨by omega, by omega⟩)]
    · by_cases c3 : CD b k = 1015
      · have e : pv (CD b k) = 1007 := by unfold pv; rw [if_neg c1, if_neg c2, if_pos c3]
        have e2 : ct 1007 = 13 := rfl
        rw [e, if_pos (show (0 : Int) ≤ 1007 by omega), e2]
        simp (config := { maxSteps := 1000000 }) (disch := first | assumption | exact W.i _ _ | exact sLine_i W _ _ _ | exact W1.i _ _ | exact hg _ _ | exact W3.i _ _ | (refine ⟨?_, ?_⟩ <;> omega) | omega | (simp only [sW_1, sW_2, sW_3, sW_4, sW_5, sW_8] <;> first | assumption | omega | (refine ⟨?_, ?_⟩ <;> omega)) | (simp only [sT_1, sT_2, sT_3, sT_4, sT_5, sT_8] <;> first | assumption | omega | (refine ⟨?_, ?_⟩ <;> omega)) | (simp only [List.length_append, List.length_cons, List.length_nil, Nat.reduceAdd] <;> omega)) only [Int.reduceEq, Int.reduceLT, Int.reduceLE, Int.reduceNeg, Int.reduceAdd, Int.reduceSub, Int.reduceMul, if_true, if_false, not_true, not_false_eq_true, false_or, or_false, true_or, or_true, true_and, and_true, false_and, and_false, iI_on, iI_mul, iI_add, iI_sub, iI_neg, ap_if, mp_eq, mz_0, mz_1, mz_b, b2_0, b2_1, iI_lt, iI_le, iI_inj, mb_div, mb_rem, hM.m, hM.a1, hM.a2, hM.a3, hM.a4, hM.a5, hM.a6, hM.a7, hM.a8, hM.a9, hM.a10, hM.a11, hM.a12, hM.a13, hM.a14, hM.a15, hM.a16, hM.a17, hM.a18, hM.a19, hM.a20, hM.a21, hM.a22, hM.a23, hM.a24, hM.a25, hM.a26, hM.a27, hM.a28, hM.l1, hM.l2, hM.l3, hM.l4, hM.l5, hM.l6, hM.l7, hM.l8, hM.l9, hM.l10, hM.l11, hM.l12, hM.l13, hM.l14, hM.l15, hM.l16, hM.l17, hM.l18, hM.l19, hM.l20, hM.l21, hM.l22, hM.l23, hM.l24, hM.l25, hM.l26, hM.l27, hM.l28, hM.c10, hM.c11, hM.c12, hM.c13, hM.c14, hM.c15, hM.c19, hM.c20, hM.c23, hM.c27, hM.c36, hM.c37, hM.c38, hM.c40, hM.c41, hM.c42, hM.c44, mb_eq h1, mb_eq h14, mb_eq h15, c1, c2, c3, mb_eq (hem 13 k), mb_eq (had 13 ⟨by omega, by omega⟩)]
      · by_cases c4 : CD b k ≤ 999
        · have e : pv (CD b k) = CD b k := by unfold pv; rw [if_neg c1, if_neg c2, if_neg c3, if_neg (by omega)]
          have e2 : ct (CD b k) = 1000 + CD b k := by unfold ct; rw [if_pos (by omega)]
          have hg := R_isGood (M := M) (b := b) (h := h) hM Q.nx
          rw [b2_t (by omega)] at hg
          rw [if_pos ⟨hc.1, c4⟩, hv ⟨hc.1, c4⟩] at hn
          rw [e, if_pos hc.1, e2]
          simp (config := { maxSteps := 1000000 }) (disch := first | assumption | exact W.i _ _ | exact sLine_i W _ _ _ | exact W1.i _ _ | exact hg _ _ | exact W3.i _ _ | (refine ⟨?_, ?_⟩ <;> omega) | omega | (simp only [sW_1, sW_2, sW_3, sW_4, sW_5, sW_8] <;> first | assumption | omega | (refine ⟨?_, ?_⟩ <;> omega)) | (simp only [sT_1, sT_2, sT_3, sT_4, sT_5, sT_8] <;> first | assumption | omega | (refine ⟨?_, ?_⟩ <;> omega)) | (simp only [List.length_append, List.length_cons, List.length_nil, Nat.reduceAdd] <;> omega)) only [Int.reduceEq, Int.reduceLT, Int.reduceLE, Int.reduceNeg, Int.reduceAdd, Int.reduceSub, Int.reduceMul, if_true, if_false, not_true, not_false_eq_true, false_or, or_false, true_or, or_true, true_and, and_true, false_and, and_false, iI_on, iI_mul, iI_add, iI_sub, iI_neg, ap_if, mp_eq, mz_0, mz_1, mz_b, b2_0, b2_1, iI_lt, iI_le, iI_inj, mb_div, mb_rem, hM.m, hM.a1, hM.a2, hM.a3, hM.a4, hM.a5, hM.a6, hM.a7, hM.a8, hM.a9, hM.a10, hM.a11, hM.a12, hM.a13, hM.a14, hM.a15, hM.a16, hM.a17, hM.a18, hM.a19, hM.a20, hM.a21, hM.a22, hM.a23, hM.a24, hM.a25, hM.a26, hM.a27, hM.a28, hM.l1, hM.l2, hM.l3, hM.l4, hM.l5, hM.l6, hM.l7, hM.l8, hM.l9, hM.l10, hM.l11, hM.l12, hM.l13, hM.l14, hM.l15, hM.l16, hM.l17, hM.l18, hM.l19, hM.l20, hM.l21, hM.l22, hM.l23, hM.l24, hM.l25, hM.l26, hM.l27, hM.l28, hM.c10, hM.c11, hM.c12, hM.c13, hM.c14, hM.c15, hM.c19, hM.c20, hM.c23, hM.c27, hM.c36, hM.c37, hM.c38, hM.c40, hM.c41, hM.c42, hM.c44, mb_eq h1, mb_eq h14, mb_eq h15, c1, c2, c3, mb_eq hn, mb_eq hg, mb_eq (hem (1000 + CD b k) (k + 1))]
        · have e : pv (CD b k) = -1 := by unfold pv; rw [if_neg c1, if_neg c2, if_neg c3, if_pos (by omega)]
          have pa := B.a h0
          have hg := R_isGood (M := M) (b := b) (h := h) hM (Q.fa (pA0_i B h0))
          rw [b2_f (by omega)] at hg
          rw [if_neg (fun q => c4 q.2)] at hn
          rw [e, if_neg (show ¬ (0 : Int) ≤ -1 by omega)]
          simp (config := { maxSteps := 1000000 }) (disch := first | assumption | exact W.i _ _ | exact sLine_i W _ _ _ | exact W1.i _ _ | exact hg _ _ | exact W3.i _ _ | (refine ⟨?_, ?_⟩ <;> omega) | omega | (simp only [sW_1, sW_2, sW_3, sW_4, sW_5, sW_8] <;> first | assumption | omega | (refine ⟨?_, ?_⟩ <;> omega)) | (simp only [sT_1, sT_2, sT_3, sT_4, sT_5, sT_8] <;> first | assumption | omega | (refine ⟨?_, ?_⟩ <;> omega)) | (simp only [List.length_append, List.length_cons, List.length_nil, Nat.reduceAdd] <;> omega)) only [Int.reduceEq, Int.reduceLT, Int.reduceLE, Int.reduceNeg, Int.reduceAdd, Int.reduceSub, Int.reduceMul, if_true, if_false, not_true, not_false_eq_true, false_or, or_false, true_or, or_true, true_and, and_true, false_and, and_false, iI_on, iI_mul, iI_add, iI_sub, iI_neg, ap_if, mp_eq, mz_0, mz_1, mz_b, b2_0, b2_1, iI_lt, iI_le, iI_inj, mb_div, mb_rem, hM.m, hM.a1, hM.a2, hM.a3, hM.a4, hM.a5, hM.a6, hM.a7, hM.a8, hM.a9, hM.a10, hM.a11, hM.a12, hM.a13, hM.a14, hM.a15, hM.a16, hM.a17, hM.a18, hM.a19, hM.a20, hM.a21, hM.a22, hM.a23, hM.a24, hM.a25, hM.a26, hM.a27, hM.a28, hM.l1, hM.l2, hM.l3, hM.l4, hM.l5, hM.l6, hM.l7, hM.l8, hM.l9, hM.l10, hM.l11, hM.l12, hM.l13, hM.l14, hM.l15, hM.l16, hM.l17, hM.l18, hM.l19, hM.l20, hM.l21, hM.l22, hM.l23, hM.l24, hM.l25, hM.l26, hM.l27, hM.l28, hM.c10, hM.c11, hM.c12, hM.c13, hM.c14, hM.c15, hM.c19, hM.c20, hM.c23, hM.c27, hM.c36, hM.c37, hM.c38, hM.c40, hM.c41, hM.c42, hM.c44, mb_eq h1, mb_eq h14, mb_eq h15, c1, c2, c3, mb_eq hn, mb_eq hg]
/-- the fault, when a reading ended at k -/
def fl (b : Nat → Int → Int) (ok : Bool) (k : Int) : Int := if ok = true then -1 else pA0 b k
theorem fl_i (B : BR b) (ok : Bool) (h0 : 0 ≤ k) : i32 (fl b ok k) := by
  have := pA0_i B h0
  unfold fl
  split
  · exact ⟨by omega, by omega⟩
  · exact this
theorem R_sumL (hM : OKM M h) (B : BR b) : ∀ (m n : Nat) (i k : Int) (S : List Int), 1 ≤ i → CT b - (k + 1) < m → m < n → QR g (-1) k S w → (S.length : Int) + w.length ≤ k → k ≤ CT b → m12_wantSum_p4 n M (mK M (rSt b g (-1) k S w) h) = some ((), mK M (if CD b k = 2043 then rSt b g (fl b (pS (CD b) m i (k + 1)).1 (pS (CD b) m i (k + 1)).2.1) (pS (CD b) m i (k + 1)).2.1 (S ++ (pS (CD b) m i (k + 1)).2.2.map ct) w else rSt b g (-1) k S w) h) := by
  intro m
  induction m with
  | zero =>
    intro n i k S hi hm hn Q hl hk
    obtain ⟨n, rfl⟩ : ∃ z, n = z + 1 := ⟨n - 1, by omega⟩
    have c1 : ¬ CD b k = 2043 := fun q => by
      have := B.CN.2.1 k (by omega)
      omega
    have hg := R_isGood (M := M) (b := b) (h := h) hM Q
    rw [b2_t (by omega)] at hg
    have hmk := R_isMark (h := h) hM B Q (m := 43) ⟨by omega, by omega⟩
    rw [if_neg c1, m12_wantSum_p4]
    unfold m12_wantSum_p44
    simp (config := { maxSteps := 1000000 }) (disch := first | assumption | exact W.i _ _ | exact sLine_i W _ _ _ | exact W1.i _ _ | exact hg _ _ | exact W3.i _ _ | (refine ⟨?_, ?_⟩ <;> omega) | omega | (simp only [sW_1, sW_2, sW_3, sW_4, sW_5, sW_8] <;> first | assumption | omega | (refine ⟨?_, ?_⟩ <;> omega)) | (simp only [sT_1, sT_2, sT_3, sT_4, sT_5, sT_8] <;> first | assumption | omega | (refine ⟨?_, ?_⟩ <;> omega)) | (simp only [List.length_append, List.length_cons, List.length_nil, Nat.reduceAdd] <;> omega)) only [Int.reduceEq, Int.reduceLT, Int.reduceLE, Int.reduceNeg, Int.reduceAdd, Int.reduceSub, Int.reduceMul, if_true, if_false, not_true, not_false_eq_true, false_or, or_false, true_or, or_true, true_and, and_true, false_and, and_false, iI_on, iI_mul, iI_add, iI_sub, iI_neg, ap_if, mp_eq, mz_0, mz_1, mz_b, b2_0, b2_1, iI_lt, iI_le, iI_inj, mb_div, mb_rem, hM.m, hM.a1, hM.a2, hM.a3, hM.a4, hM.a5, hM.a6, hM.a7, hM.a8, hM.a9, hM.a10, hM.a11, hM.a12, hM.a13, hM.a14, hM.a15, hM.a16, hM.a17, hM.a18, hM.a19, hM.a20, hM.a21, hM.a22, hM.a23, hM.a24, hM.a25, hM.a26, hM.a27, hM.a28, hM.l1, hM.l2, hM.l3, hM.l4, hM.l5, hM.l6, hM.l7, hM.l8, hM.l9, hM.l10, hM.l11, hM.l12, hM.l13, hM.l14, hM.l15, hM.l16, hM.l17, hM.l18, hM.l19, hM.l20, hM.l21, hM.l22, hM.l23, hM.l24, hM.l25, hM.l26, hM.l27, hM.l28, hM.c10, hM.c11, hM.c12, hM.c13, hM.c14, hM.c15, hM.c19, hM.c20, hM.c23, hM.c27, hM.c36, hM.c37, hM.c38, hM.c40, hM.c41, hM.c42, hM.c44, mb_eq hg, mb_eq hmk, c1]
  | succ m ih =>
    intro n i k S hi hm hn Q hl hk
    obtain ⟨n, rfl⟩ : ∃ z, n = z + 1 := ⟨n - 1, by omega⟩
    have h0 := Q.2.2.2.2.1
    have n0 := B.CN.1
    have hg := R_isGood (M := M) (b := b) (h := h) hM Q
    rw [b2_t (by omega)] at hg
    have hmk := R_isMark (h := h) hM B Q (m := 43) ⟨by omega, by omega⟩
    by_cases c1 : CD b k = 2043
    · have kN : k < CT b := by
        rcases Int.lt_or_le k (CT b) with q | q
        · exact q
        · have := B.CN.2.1 _ q; omega
      have ha := R_advance (h := h) hM B Q
      have hv := R_wantValue (h := h) hM B Q.nx (by omega)
      rw [if_pos c1]
      have hc1 := B.CN.2.2 (k + 1) (by omega)
      by_cases c2 : pv (CD b (k + 1)) < 0
      · have pa := B.a (k := k + 1) (by omega)
        have Qb := (Q.nx).fa (pA0_i B (k := k + 1) (by omega))
        have hgb := R_isGood (M := M) (b := b) (h := h) hM Qb
        rw [b2_f (by omega)] at hgb
        rw [if_neg (by omega)] at hv
        obtain ⟨n, rfl⟩ : ∃ z, n = z + 1 := ⟨n - 1, by omega⟩
        have hp := R_p4B (M := M) (b := b) (h := h) hM Qb (by omega) n
        have eS : pS (CD b) (m + 1) i (k + 1) = (false, k + 1, []) := by rw [pS, if_pos c2]
        rw [eS]
        unfold fl
        rw [if_neg (show ¬ (false = true) by simp), List.map_nil, List.append_nil, m12_wantSum_p4]
        simp (config := { maxSteps := 1000000 }) (disch := first | assumption | exact W.i _ _ | exact sLine_i W _ _ _ | exact W1.i _ _ | exact hg _ _ | exact W3.i _ _ | (refine ⟨?_, ?_⟩ <;> omega) | omega | (simp only [sW_1, sW_2, sW_3, sW_4, sW_5, sW_8] <;> first | assumption | omega | (refine ⟨?_, ?_⟩ <;> omega)) | (simp only [sT_1, sT_2, sT_3, sT_4, sT_5, sT_8] <;> first | assumption | omega | (refine ⟨?_, ?_⟩ <;> omega)) | (simp only [List.length_append, List.length_cons, List.length_nil, Nat.reduceAdd] <;> omega)) only [Int.reduceEq, Int.reduceLT, Int.reduceLE, Int.reduceNeg, Int.reduceAdd, Int.reduceSub, Int.reduceMul, if_true, if_false, not_true, not_false_eq_true, false_or, or_false, true_or, or_true, true_and, and_true, false_and, and_false, iI_on, iI_mul, iI_add, iI_sub, iI_neg, ap_if, mp_eq, mz_0, mz_1, mz_b, b2_0, b2_1, iI_lt, iI_le, iI_inj, mb_div, mb_rem, hM.m, hM.a1, hM.a2, hM.a3, hM.a4, hM.a5, hM.a6, hM.a7, hM.a8, hM.a9, hM.a10, hM.a11, hM.a12, hM.a13, hM.a14, hM.a15, hM.a16, hM.a17, hM.a18, hM.a19, hM.a20, hM.a21, hM.a22, hM.a23, hM.a24, hM.a25, hM.a26, hM.a27, hM.a28, hM.l1, hM.l2, hM.l3, hM.l4, hM.l5, hM.l6, hM.l7, hM.l8, hM.l9, hM.l10, hM.l11, hM.l12, hM.l13, hM.l14, hM.l15, hM.l16, hM.l17, hM.l18, hM.l19, hM.l20, hM.l21, hM.l22, hM.l23, hM.l24, hM.l25, hM.l26, hM.l27, hM.l28, hM.c10, hM.c11, hM.c12, hM.c13, hM.c14, hM.c15, hM.c19, hM.c20, hM.c23, hM.c27, hM.c36, hM.c37, hM.c38, hM.c40, hM.c41, hM.c42, hM.c44, mb_eq hg, mb_eq hmk, c1, mb_eq ha, mb_eq hv, mb_eq hgb]
        exact hp
      · have hvb := pv_b (x := CD b (k + 1)) (by omega) hc1.1
        have k1N := pv_lt B.CN (k := k + 1) (by omega)
        rw [if_pos (by omega)] at hv
        have ic : i32 (ct (pv (CD b (k + 1)))) := by
          have := ct_ok (x := pv (CD b (k + 1))) (by unfold okCode; omega)
          omega
        have Q2 := (Q.nx.nx).add ic (by omega)
        have el1 : (((S ++ [ct (pv (CD b (k + 1)))]).length : Nat) : Int) = (S.length : Int) + 1 := by rw [List.length_append]; rfl
        have hg2 := R_isGood (M := M) (b := b) (h := h) hM Q2
        rw [b2_t (by omega)] at hg2
        have he := R_emit (M := M) (b := b) (g := g) (f := -1) (k := k + 1 + 1) (S := S ++ [ct (pv (CD b (k + 1)))]) (w := w) (h := h) (x := 14) hM (by omega)
        have Q3 := Q2.add (x := 14) ⟨by omega, by omega⟩ (by omega)
        have el2 : (((S ++ [ct (pv (CD b (k + 1)))] ++ [14]).length : Nat) : Int) = (S.length : Int) + 2 := by rw [List.length_append, Int.natCast_add, el1]; show (S.length : Int) + 1 + 1 = _; omega
        have nx := ih n (i + 1) (k + 1 + 1) (S ++ [ct (pv (CD b (k + 1)))] ++ [14]) (by omega) (by omega) (by omega) Q3 (by omega) (by omega)
        have e14 : ct 2000 = 14 := rfl
        have eS : pS (CD b) (m + 1) i (k + 1) = if CD b (k + 1 + 1) = 2043 then ((pS (CD b) m (i + 1) (k + 1 + 1 + 1)).1, (pS (CD b) m (i + 1) (k + 1 + 1 + 1)).2.1, [pv (CD b (k + 1)), 2000] ++ (pS (CD b) m (i + 1) (k + 1 + 1 + 1)).2.2) else (true, k + 1 + 1, [pv (CD b (k + 1)), 2000]) := by
          have e3 : k + 1 + 2 = k + 1 + 1 + 1 := by omega
          rw [pS, if_neg c2, if_neg (show ¬ i ≤ 0 by omega), e3]
        have fin : rSt b g (fl b (pS (CD b) (m + 1) i (k + 1)).1 (pS (CD b) (m + 1) i (k + 1)).2.1) (pS (CD b) (m + 1) i (k + 1)).2.1 (S ++ (pS (CD b) (m + 1) i (k + 1)).2.2.map ct) w = if CD b (k + 1 + 1) = 2043 then rSt b g (fl b (pS (CD b) m (i + 1) (k + 1 + 1 + 1)).1 (pS (CD b) m (i + 1) (k + 1 + 1 + 1)).2.1) (pS (CD b) m (i + 1) (k + 1 + 1 + 1)).2.1 (S ++ [ct (pv (CD b (k + 1)))] ++ [14] ++ (pS (CD b) m (i + 1) (k + 1 + 1 + 1)).2.2.map ct) w else rSt b g (-1) (k + 1 + 1) (S ++ [ct (pv (CD b (k + 1)))] ++ [14]) w := by
          rw [eS]
          by_cases c3 : CD b (k + 1 + 1) = 2043
          · rw [if_pos c3, if_pos c3]
            dsimp only
            have eL : ∀ E : List Int, S ++ ([pv (CD b (k + 1)), 2000] ++ E).map ct = S ++ [ct (pv (CD b (k + 1)))] ++ [14] ++ E.map ct := fun E => by
              simp only [List.map_append, List.map_cons, List.map_nil, e14, List.append_assoc, List.cons_append, List.nil_append]
            rw [eL]
          · rw [if_neg c3, if_neg c3]
            dsimp only
            have eL : S ++ ([pv (CD b (k + 1)), 2000] : List Int).map ct = S ++ [ct (pv (CD b (k + 1)))] ++ [14] := by
              simp only [List.map_cons, List.map_nil, e14, List.append_assoc, List.cons_append, List.nil_append]
            rw [eL]
            rfl
        rw [fin, ← nx, m12_wantSum_p4]
        simp (config := { maxSteps := 1000000 }) (disch := first | assumption | exact W.i _ _ | exact sLine_i W _ _ _ | exact W1.i _ _ | exact hg _ _ | exact W3.i _ _ | (refine ⟨?_, ?_⟩ <;> omega) | omega | (simp only [sW_1, sW_2, sW_3, sW_4, sW_5, sW_8] <;> first | assumption | omega | (refine ⟨?_, ?_⟩ <;> omega)) | (simp only [sT_1, sT_2, sT_3, sT_4, sT_5, sT_8] <;> first | assumption | omega | (refine ⟨?_, ?_⟩ <;> omega)) | (simp only [List.length_append, List.length_cons, List.length_nil, Nat.reduceAdd] <;> omega)) only [Int.reduceEq, Int.reduceLT, Int.reduceLE, Int.reduceNeg, Int.reduceAdd, Int.reduceSub, Int.reduceMul, if_true, if_false, not_true, not_false_eq_true, false_or, or_false, true_or, or_true, true_and, and_true, false_and, and_false, iI_on, iI_mul, iI_add, iI_sub, iI_neg, ap_if, mp_eq, mz_0, mz_1, mz_b, b2_0, b2_1, iI_lt, iI_le, iI_inj, mb_div, mb_rem, hM.m, hM.a1, hM.a2, hM.a3, hM.a4, hM.a5, hM.a6, hM.a7, hM.a8, hM.a9, hM.a10, hM.a11, hM.a12, hM.a13, hM.a14, hM.a15, hM.a16, hM.a17, hM.a18, hM.a19, hM.a20, hM.a21, hM.a22, hM.a23, hM.a24, hM.a25, hM.a26, hM.a27, hM.a28, hM.l1, hM.l2, hM.l3, hM.l4, hM.l5, hM.l6, hM.l7, hM.l8, hM.l9, hM.l10, hM.l11, hM.l12, hM.l13, hM.l14, hM.l15, hM.l16, hM.l17, hM.l18, hM.l19, hM.l20, hM.l21, hM.l22, hM.l23, hM.l24, hM.l25, hM.l26, hM.l27, hM.l28, hM.c10, hM.c11, hM.c12, hM.c13, hM.c14, hM.c15, hM.c19, hM.c20, hM.c23, hM.c27, hM.c36, hM.c37, hM.c38, hM.c40, hM.c41, hM.c42, hM.c44, mb_eq hg, mb_eq hmk, c1, mb_eq ha, mb_eq hv, mb_eq hg2, mb_eq he]
    · rw [if_neg c1, m12_wantSum_p4]
      unfold m12_wantSum_p44
      simp (config := { maxSteps := 1000000 }) (disch := first | assumption | exact W.i _ _ | exact sLine_i W _ _ _ | exact W1.i _ _ | exact hg _ _ | exact W3.i _ _ | (refine ⟨?_, ?_⟩ <;> omega) | omega | (simp only [sW_1, sW_2, sW_3, sW_4, sW_5, sW_8] <;> first | assumption | omega | (refine ⟨?_, ?_⟩ <;> omega)) | (simp only [sT_1, sT_2, sT_3, sT_4, sT_5, sT_8] <;> first | assumption | omega | (refine ⟨?_, ?_⟩ <;> omega)) | (simp only [List.length_append, List.length_cons, List.length_nil, Nat.reduceAdd] <;> omega)) only [Int.reduceEq, Int.reduceLT, Int.reduceLE, Int.reduceNeg, Int.reduceAdd, Int.reduceSub, Int.reduceMul, if_true, if_false, not_true, not_false_eq_true, false_or, or_false, true_or, or_true, true_and, and_true, false_and, and_false, iI_on, iI_mul, iI_add, iI_sub, iI_neg, ap_if, mp_eq, mz_0, mz_1, mz_b, b2_0, b2_1, iI_lt, iI_le, iI_inj, mb_div, mb_rem, hM.m, hM.a1, hM.a2, hM.a3, hM.a4, hM.a5, hM.a6, hM.a7, hM.a8, hM.a9, hM.a10, hM.a11, hM.a12, hM.a13, hM.a14, hM.a15, hM.a16, hM.a17, hM.a18, hM.a19, hM.a20, hM.a21, hM.a22, hM.a23, hM.a24, hM.a25, hM.a26, hM.a27, hM.a28, hM.l1, hM.l2, hM.l3, hM.l4, hM.l5, hM.l6, hM.l7, hM.l8, hM.l9, hM.l10, hM.l11, hM.l12, hM.l13, hM.l14, hM.l15, hM.l16, hM.l17, hM.l18, hM.l19, hM.l20, hM.l21, hM.l22, hM.l23, hM.l24, hM.l25, hM.l26, hM.l27, hM.l28, hM.c10, hM.c11, hM.c12, hM.c13, hM.c14, hM.c15, hM.c19, hM.c20, hM.c23, hM.c27, hM.c36, hM.c37, hM.c38, hM.c40, hM.c41, hM.c42, hM.c44, mb_eq hg, mb_eq hmk, c1]
theorem R_wantSum (hM : OKM M h) (B : BR b) (Q : QR g (-1) k S w) (hl : (S.length : Int) + w.length ≤ k) (hk : k ≤ CT b) : m12_wantSum M (mK M (rSt b g (-1) k S w) h) = some ((), mK M (rSt b g (fl b (pS (CD b) 252 0 k).1 (pS (CD b) 252 0 k).2.1) (pS (CD b) 252 0 k).2.1 (S ++ (pS (CD b) 252 0 k).2.2.map ct) w) h) := by
  have h0 := Q.2.2.2.2.1
  have n0 := B.CN.1
  have hc := B.CN.2.2 k h0
  have hv := R_wantValue (h := h) hM B Q (by omega)
  unfold m12_wantSum
  by_cases c2 : pv (CD b k) < 0
  · have pa := B.a h0
    have Qb := Q.fa (pA0_i B h0)
    rw [if_neg (by omega)] at hv
    have eS : pS (CD b) 252 0 k = (false, k, []) := by rw [pS, if_pos c2]
    rw [eS]
    unfold fl
    rw [if_neg (show ¬ (false = true) by simp), List.map_nil, List.append_nil]
    simp (config := { maxSteps := 1000000 }) (disch := first | assumption | exact W.i _ _ | exact sLine_i W _ _ _ | exact W1.i _ _ | exact hg _ _ | exact W3.i _ _ | (refine ⟨?_, ?_⟩ <;> omega) | omega | (simp only [sW_1, sW_2, sW_3, sW_4, sW_5, sW_8] <;> first | assumption | omega | (refine ⟨?_, ?_⟩ <;> omega)) | (simp only [sT_1, sT_2, sT_3, sT_4, sT_5, sT_8] <;> first | assumption | omega | (refine ⟨?_, ?_⟩ <;> omega)) | (simp only [List.length_append, List.length_cons, List.length_nil, Nat.reduceAdd] <;> omega)) only [Int.reduceEq, Int.reduceLT, Int.reduceLE, Int.reduceNeg, Int.reduceAdd, Int.reduceSub, Int.reduceMul, if_true, if_false, not_true, not_false_eq_true, false_or, or_false, true_or, or_true, true_and, and_true, false_and, and_false, iI_on, iI_mul, iI_add, iI_sub, iI_neg, ap_if, mp_eq, mz_0, mz_1, mz_b, b2_0, b2_1, iI_lt, iI_le, iI_inj, mb_div, mb_rem, hM.m, hM.a1, hM.a2, hM.a3, hM.a4, hM.a5, hM.a6, hM.a7, hM.a8, hM.a9, hM.a10, hM.a11, hM.a12, hM.a13, hM.a14, hM.a15, hM.a16, hM.a17, hM.a18, hM.a19, hM.a20, hM.a21, hM.a22, hM.a23, hM.a24, hM.a25, hM.a26, hM.a27, hM.a28, hM.l1, hM.l2, hM.l3, hM.l4, hM.l5, hM.l6, hM.l7, hM.l8, hM.l9, hM.l10, hM.l11, hM.l12, hM.l13, hM.l14, hM.l15, hM.l16, hM.l17, hM.l18, hM.l19, hM.l20, hM.l21, hM.l22, hM.l23, hM.l24, hM.l25, hM.l26, hM.l27, hM.l28, hM.c10, hM.c11, hM.c12, hM.c13, hM.c14, hM.c15, hM.c19, hM.c20, hM.c23, hM.c27, hM.c36, hM.c37, hM.c38, hM.c40, hM.c41, hM.c42, hM.c44, mb_eq hv]
    exact R_p4B hM Qb (by omega) _
  · have hvb := pv_b (x := CD b k) (by omega) hc.1
    have kN := pv_lt B.CN (k := k) (by omega)
    rw [if_pos (by omega)] at hv
    have ic : i32 (ct (pv (CD b k))) := by
      have := ct_ok (x := pv (CD b k)) (by unfold okCode; omega)
      omega
    have Q2 := (Q.nx).add ic (by omega)
    have el1 : (((S ++ [ct (pv (CD b k))]).length : Nat) : Int) = (S.length : Int) + 1 := by rw [List.length_append]; rfl
    have nx := R_sumL (h := h) hM B 251 FU 1 (k + 1) (S ++ [ct (pv (CD b k))]) (by omega) (by omega) (by unfold FU; omega) Q2 (by omega) (by omega)
    have eS : pS (CD b) 252 0 k = if CD b (k + 1) = 2043 then ((pS (CD b) 251 1 (k + 1 + 1)).1, (pS (CD b) 251 1 (k + 1 + 1)).2.1, [pv (CD b k)] ++ (pS (CD b) 251 1 (k + 1 + 1)).2.2) else (true, k + 1, [pv (CD b k)]) := by
      have e3 : k + 2 = k + 1 + 1 := by omega
      rw [pS, if_neg c2, if_pos (Int.le_refl 0), e3]; rfl
    rw [eS]
    have fin : rSt b g (fl b (if CD b (k + 1) = 2043 then ((pS (CD b) 251 1 (k + 1 + 1)).1, (pS (CD b) 251 1 (k + 1 + 1)).2.1, [pv (CD b k)] ++ (pS (CD b) 251 1 (k + 1 + 1)).2.2) else (true, k + 1, [pv (CD b k)])).1 (if CD b (k + 1) = 2043 then ((pS (CD b) 251 1 (k + 1 + 1)).1, (pS (CD b) 251 1 (k + 1 + 1)).2.1, [pv (CD b k)] ++ (pS (CD b) 251 1 (k + 1 + 1)).2.2) else (true, k + 1, [pv (CD b k)])).2.1) (if CD b (k + 1) = 2043 then ((pS (CD b) 251 1 (k + 1 + 1)).1, (pS (CD b) 251 1 (k + 1 + 1)).2.1, [pv (CD b k)] ++ (pS (CD b) 251 1 (k + 1 + 1)).2.2) else (true, k + 1, [pv (CD b k)])).2.1 (S ++ (if CD b (k + 1) = 2043 then ((pS (CD b) 251 1 (k + 1 + 1)).1, (pS (CD b) 251 1 (k + 1 + 1)).2.1, [pv (CD b k)] ++ (pS (CD b) 251 1 (k + 1 + 1)).2.2) else (true, k + 1, [pv (CD b k)])).2.2.map ct) w = if CD b (k + 1) = 2043 then rSt b g (fl b (pS (CD b) 251 1 (k + 1 + 1)).1 (pS (CD b) 251 1 (k + 1 + 1)).2.1) (pS (CD b) 251 1 (k + 1 + 1)).2.1 (S ++ [ct (pv (CD b k))] ++ (pS (CD b) 251 1 (k + 1 + 1)).2.2.map ct) w else rSt b g (-1) (k + 1) (S ++ [ct (pv (CD b k))]) w := by
      by_cases c3 : CD b (k + 1) = 2043
      · rw [if_pos c3, if_pos c3]
        dsimp only
        rw [List.map_append, ← List.append_assoc]
        rfl
      · rw [if_neg c3, if_neg c3]
        rfl
    rw [fin, ← nx]
    simp (config := { maxSteps := 1000000 }) (disch := first | assumption | exact W.i _ _ | exact sLine_i W _ _ _ | exact W1.i _ _ | exact hg _ _ | exact W3.i _ _ | (refine ⟨?_, ?_⟩ <;> omega) | omega | (simp only [sW_1, sW_2, sW_3, sW_4, sW_5, sW_8] <;> first | assumption | omega | (refine ⟨?_, ?_⟩ <;> omega)) | (simp only [sT_1, sT_2, sT_3, sT_4, sT_5, sT_8] <;> first | assumption | omega | (refine ⟨?_, ?_⟩ <;> omega)) | (simp only [List.length_append, List.length_cons, List.length_nil, Nat.reduceAdd] <;> omega)) only [Int.reduceEq, Int.reduceLT, Int.reduceLE, Int.reduceNeg, Int.reduceAdd, Int.reduceSub, Int.reduceMul, if_true, if_false, not_true, not_false_eq_true, false_or, or_false, true_or, or_true, true_and, and_true, false_and, and_false, iI_on, iI_mul, iI_add, iI_sub, iI_neg, ap_if, mp_eq, mz_0, mz_1, mz_b, b2_0, b2_1, iI_lt, iI_le, iI_inj, mb_div, mb_rem, hM.m, hM.a1, hM.a2, hM.a3, hM.a4, hM.a5, hM.a6, hM.a7, hM.a8, hM.a9, hM.a10, hM.a11, hM.a12, hM.a13, hM.a14, hM.a15, hM.a16, hM.a17, hM.a18, hM.a19, hM.a20, hM.a21, hM.a22, hM.a23, hM.a24, hM.a25, hM.a26, hM.a27, hM.a28, hM.l1, hM.l2, hM.l3, hM.l4, hM.l5, hM.l6, hM.l7, hM.l8, hM.l9, hM.l10, hM.l11, hM.l12, hM.l13, hM.l14, hM.l15, hM.l16, hM.l17, hM.l18, hM.l19, hM.l20, hM.l21, hM.l22, hM.l23, hM.l24, hM.l25, hM.l26, hM.l27, hM.l28, hM.c10, hM.c11, hM.c12, hM.c13, hM.c14, hM.c15, hM.c19, hM.c20, hM.c23, hM.c27, hM.c36, hM.c37, hM.c38, hM.c40, hM.c41, hM.c42, hM.c44, mb_eq hv]
/-- what is asked for behind a fault changes nothing -/
theorem R_p66B (hM : OKM M h) (Q : QR g f k S w) (hf : 0 ≤ f) {s : Int} (is : i32 s) : m12_wantAsk_p66 M (iI s) (mK M (rSt b g f k S w) h) = some ((), mK M (rSt b g f k S w) h) := by
  have hg := R_isGood (M := M) (b := b) (h := h) hM Q
  rw [b2_f (by omega)] at hg
  have hw := R_wantB (M := M) (b := b) (h := h) hM Q hf
  unfold m12_wantAsk_p66 m12_wantAsk_p77 m12_wantAsk_p91 m12_wantAsk_p103
  by_cases c : s ≤ 0
  · simp (config := { maxSteps := 1000000 }) (disch := first | assumption | exact W.i _ _ | exact sLine_i W _ _ _ | exact W1.i _ _ | exact hg _ _ | exact W3.i _ _ | (refine ⟨?_, ?_⟩ <;> omega) | omega | (simp only [sW_1, sW_2, sW_3, sW_4, sW_5, sW_8] <;> first | assumption | omega | (refine ⟨?_, ?_⟩ <;> omega)) | (simp only [sT_1, sT_2, sT_3, sT_4, sT_5, sT_8] <;> first | assumption | omega | (refine ⟨?_, ?_⟩ <;> omega)) | (simp only [List.length_append, List.length_cons, List.length_nil, Nat.reduceAdd] <;> omega)) only [Int.reduceEq, Int.reduceLT, Int.reduceLE, Int.reduceNeg, Int.reduceAdd, Int.reduceSub, Int.reduceMul, if_true, if_false, not_true, not_false_eq_true, false_or, or_false, true_or, or_true, true_and, and_true, false_and, and_false, iI_on, iI_mul, iI_add, iI_sub, iI_neg, ap_if, mp_eq, mz_0, mz_1, mz_b, b2_0, b2_1, iI_lt, iI_le, iI_inj, mb_div, mb_rem, hM.m, hM.a1, hM.a2, hM.a3, hM.a4, hM.a5, hM.a6, hM.a7, hM.a8, hM.a9, hM.a10, hM.a11, hM.a12, hM.a13, hM.a14, hM.a15, hM.a16, hM.a17, hM.a18, hM.a19, hM.a20, hM.a21, hM.a22, hM.a23, hM.a24, hM.a25, hM.a26, hM.a27, hM.a28, hM.l1, hM.l2, hM.l3, hM.l4, hM.l5, hM.l6, hM.l7, hM.l8, hM.l9, hM.l10, hM.l11, hM.l12, hM.l13, hM.l14, hM.l15, hM.l16, hM.l17, hM.l18, hM.l19, hM.l20, hM.l21, hM.l22, hM.l23, hM.l24, hM.l25, hM.l26, hM.l27, hM.l28, hM.c10, hM.c11, hM.c12, hM.c13, hM.c14, hM.c15, hM.c19, hM.c20, hM.c23, hM.c27, hM.c36, hM.c37, hM.c38, hM.c40, hM.c41, hM.c42, hM.c44, c, mb_eq (hw _), mb_eq hg]
  · simp (config := { maxSteps := 1000000 }) (disch := first | assumption | exact W.i _ _ | exact sLine_i W _ _ _ | exact W1.i _ _ | exact hg _ _ | exact W3.i _ _ | (refine ⟨?_, ?_⟩ <;> omega) | omega | (simp only [sW_1, sW_2, sW_3, sW_4, sW_5, sW_8] <;> first | assumption | omega | (refine ⟨?_, ?_⟩ <;> omega)) | (simp only [sT_1, sT_2, sT_3, sT_4, sT_5, sT_8] <;> first | assumption | omega | (refine ⟨?_, ?_⟩ <;> omega)) | (simp only [List.length_append, List.length_cons, List.length_nil, Nat.reduceAdd] <;> omega)) only [Int.reduceEq, Int.reduceLT, Int.reduceLE, Int.reduceNeg, Int.reduceAdd, Int.reduceSub, Int.reduceMul, if_true, if_false, not_true, not_false_eq_true, false_or, or_false, true_or, or_true, true_and, and_true, false_and, and_false, iI_on, iI_mul, iI_add, iI_sub, iI_neg, ap_if, mp_eq, mz_0, mz_1, mz_b, b2_0, b2_1, iI_lt, iI_le, iI_inj, mb_div, mb_rem, hM.m, hM.a1, hM.a2, hM.a3, hM.a4, hM.a5, hM.a6, hM.a7, hM.a8, hM.a9, hM.a10, hM.a11, hM.a12, hM.a13, hM.a14, hM.a15, hM.a16, hM.a17, hM.a18, hM.a19, hM.a20, hM.a21, hM.a22, hM.a23, hM.a24, hM.a25, hM.a26, hM.a27, hM.a28, hM.l1, hM.l2, hM.l3, hM.l4, hM.l5, hM.l6, hM.l7, hM.l8, hM.l9, hM.l10, hM.l11, hM.l12, hM.l13, hM.l14, hM.l15, hM.l16, hM.l17, hM.l18, hM.l19, hM.l20, hM.l21, hM.l22, hM.l23, hM.l24, hM.l25, hM.l26, hM.l27, hM.l28, hM.c10, hM.c11, hM.c12, hM.c13, hM.c14, hM.c15, hM.c19, hM.c20, hM.c23, hM.c27, hM.c36, hM.c37, hM.c38, hM.c40, hM.c41, hM.c42, hM.c44, c, mb_eq (hw _), mb_eq hg]
theorem R_ask (hM : OKM M h) (B : BR b) (Q : QR g (-1) k S w) (hl : (S.length : Int) + w.length ≤ k) (hk : k ≤ CT b) : m12_wantAsk M (mK M (rSt b g (-1) k S w) h) = some ((), mK M (rSt b g (fl b (pA (CD b) k).1 (pA (CD b) k).2.1) (pA (CD b) k).2.1 (S ++ (pA (CD b) k).2.2.map ct) w) h) := by
  have h0 := Q.2.2.2.2.1
  have n0 := B.CN.1
  have hc := B.CN.2.2 k h0
  have hfh := R_factHere (h := h) hM B Q
  have b1 := pS_b B.CN 252 0 k h0 hk (by omega) (by omega)
  rw [if_pos (Int.le_refl 0)] at b1
  have hs1 := R_wantSum (h := h) hM B Q hl hk
  unfold m12_wantAsk pA
  by_cases c1 : 1008 ≤ CD b k ∧ CD b k ≤ 1013
  · have kN : k < CT b := by
      rcases Int.lt_or_le k (CT b) with q | q
      · exact q
      · have := B.CN.2.1 _ q; omega
    rw [if_pos c1] at hfh
    rw [if_pos c1]
    have ect : ct (CD b k - 8) = CD b k - 1007 := by
      unfold ct
      rw [if_neg (by omega)]
      repeat' split
      all_goals omega
    have he := R_emit (M := M) (b := b) (g := g) (f := -1) (k := k) (S := S) (w := w) (h := h) (x := CD b k - 1007) hM (by omega)
    have ha := R_advance (h := h) hM B (Q.add (x := CD b k - 1007) ⟨by omega, by omega⟩ (by omega))
    show _ = some ((), mK M (rSt b g (-1) (k + 1) (S ++ [ct (CD b k - 8)]) w) h)
    rw [ect]
    simp (config := { maxSteps := 1000000 }) (disch := first | assumption | exact W.i _ _ | exact sLine_i W _ _ _ | exact W1.i _ _ | exact hg _ _ | exact W3.i _ _ | (refine ⟨?_, ?_⟩ <;> omega) | omega | (simp only [sW_1, sW_2, sW_3, sW_4, sW_5, sW_8] <;> first | assumption | omega | (refine ⟨?_, ?_⟩ <;> omega)) | (simp only [sT_1, sT_2, sT_3, sT_4, sT_5, sT_8] <;> first | assumption | omega | (refine ⟨?_, ?_⟩ <;> omega)) | (simp only [List.length_append, List.length_cons, List.length_nil, Nat.reduceAdd] <;> omega)) only [Int.reduceEq, Int.reduceLT, Int.reduceLE, Int.reduceNeg, Int.reduceAdd, Int.reduceSub, Int.reduceMul, if_true, if_false, not_true, not_false_eq_true, false_or, or_false, true_or, or_true, true_and, and_true, false_and, and_false, iI_on, iI_mul, iI_add, iI_sub, iI_neg, ap_if, mp_eq, mz_0, mz_1, mz_b, b2_0, b2_1, iI_lt, iI_le, iI_inj, mb_div, mb_rem, hM.m, hM.a1, hM.a2, hM.a3, hM.a4, hM.a5, hM.a6, hM.a7, hM.a8, hM.a9, hM.a10, hM.a11, hM.a12, hM.a13, hM.a14, hM.a15, hM.a16, hM.a17, hM.a18, hM.a19, hM.a20, hM.a21, hM.a22, hM.a23, hM.a24, hM.a25, hM.a26, hM.a27, hM.a28, hM.l1, hM.l2, hM.l3, hM.l4, hM.l5, hM.l6, hM.l7, hM.l8, hM.l9, hM.l10, hM.l11, hM.l12, hM.l13, hM.l14, hM.l15, hM.l16, hM.l17, hM.l18, hM.l19, hM.l20, hM.l21, hM.l22, hM.l23, hM.l24, hM.l25, hM.l26, hM.l27, hM.l28, hM.c10, hM.c11, hM.c12, hM.c13, hM.c14, hM.c15, hM.c19, hM.c20, hM.c23, hM.c27, hM.c36, hM.c37, hM.c38, hM.c40, hM.c41, hM.c42, hM.c44, mb_eq hfh, show ¬ CD b k - 1007 ≤ 0 by omega, mb_eq he, mb_eq ha]
  · rw [if_neg c1] at hfh
    rw [if_neg c1]
    have o1 := pS_ok B.CN.2.2 252 0 k h0
    generalize hx : pS (CD b) 252 0 k = x at *
    have hx1 : 0 ≤ x.2.1 := by omega
    have Q1 : QR g (fl b x.1 x.2.1) x.2.1 (S ++ x.2.2.map ct) w := ⟨Q.1, fl_i B _ hx1, okL_app Q.2.2.1 (fun y hy => by have := okL_ct o1 y hy; omega), Q.2.2.2.1, hx1, by rw [List.length_append, List.length_map]; omega⟩
    by_cases c2 : x.1 = false
    · rw [if_pos c2]
      have pa := B.a hx1
      have ef : fl b x.1 x.2.1 = pA0 b x.2.1 := by rw [c2]; rfl
      rw [ef] at Q1 hs1
      have hm1 := R_isMark (h := h) hM B Q1 (m := 60) ⟨by omega, by omega⟩
      have hm2 := R_isMark (h := h) hM B Q1 (m := 61) ⟨by omega, by omega⟩
      have hm3 := R_isMark (h := h) hM B Q1 (m := 62) ⟨by omega, by omega⟩
      have hB := fun (s : Int) (is : i32 s) => R_p66B (M := M) (b := b) (h := h) hM Q1 (by omega) is
      show _ = some ((), mK M (rSt b g (pA0 b x.2.1) x.2.1 (S ++ x.2.2.map ct) w) h)
      simp (config := { maxSteps := 1000000 }) (disch := first | assumption | exact W.i _ _ | exact sLine_i W _ _ _ | exact W1.i _ _ | exact hg _ _ | exact W3.i _ _ | (refine ⟨?_, ?_⟩ <;> omega) | omega | (simp only [sW_1, sW_2, sW_3, sW_4, sW_5, sW_8] <;> first | assumption | omega | (refine ⟨?_, ?_⟩ <;> omega)) | (simp only [sT_1, sT_2, sT_3, sT_4, sT_5, sT_8] <;> first | assumption | omega | (refine ⟨?_, ?_⟩ <;> omega)) | (simp only [List.length_append, List.length_cons, List.length_nil, Nat.reduceAdd] <;> omega)) only [Int.reduceEq, Int.reduceLT, Int.reduceLE, Int.reduceNeg, Int.reduceAdd, Int.reduceSub, Int.reduceMul, if_true, if_false, not_true, not_false_eq_true, false_or, or_false, true_or, or_true, true_and, and_true, false_and, and_false, iI_on, iI_mul, iI_add, iI_sub, iI_neg, ap_if, mp_eq, mz_0, mz_1, mz_b, b2_0, b2_1, iI_lt, iI_le, iI_inj, mb_div, mb_rem, hM.m, hM.a1, hM.a2, hM.a3, hM.a4, hM.a5, hM.a6, hM.a7, hM.a8, hM.a9, hM.a10, hM.a11, hM.a12, hM.a13, hM.a14, hM.a15, hM.a16, hM.a17, hM.a18, hM.a19, hM.a20, hM.a21, hM.a22, hM.a23, hM.a24, hM.a25, hM.a26, hM.a27, hM.a28, hM.l1, hM.l2, hM.l3, hM.l4, hM.l5, hM.l6, hM.l7, hM.l8, hM.l9, hM.l10, hM.l11, hM.l12, hM.l13, hM.l14, hM.l15, hM.l16, hM.l17, hM.l18, hM.l19, hM.l20, hM.l21, hM.l22, hM.l23, hM.l24, hM.l25, hM.l26, hM.l27, hM.l28, hM.c10, hM.c11, hM.c12, hM.c13, hM.c14, hM.c15, hM.c19, hM.c20, hM.c23, hM.c27, hM.c36, hM.c37, hM.c38, hM.c40, hM.c41, hM.c42, hM.c44, mb_eq hfh, mb_eq hs1, mb_eq hm1, mb_eq hm2, mb_eq hm3, hB 0 ⟨by omega, by omega⟩, hB 15 ⟨by omega, by omega⟩, hB 16 ⟨by omega, by omega⟩, hB 17 ⟨by omega, by omega⟩]
      (repeat' split) <;> rfl
    · have c2' : x.1 = true := by
        revert c2; cases x.1 <;> simp
      rw [if_neg c2]
      have ef : fl b x.1 x.2.1 = -1 := by rw [c2']; rfl
      rw [ef] at Q1 hs1
      have ic := cd_i B hx1
      have hm1 := R_isMark (h := h) hM B Q1 (m := 60) ⟨by omega, by omega⟩
      have hm2 := R_isMark (h := h) hM B Q1 (m := 61) ⟨by omega, by omega⟩
      have hm3 := R_isMark (h := h) hM B Q1 (m := 62) ⟨by omega, by omega⟩
      by_cases c3 : pH (CD b x.2.1) < 0
      · rw [if_pos c3]
        have pa := B.a hx1
        have hw0 := R_want0 (M := M) (b := b) (h := h) hM Q1 (by omega)
        have Qb := Q1.fa (pA0_i B hx1)
        have hgb := R_isGood (M := M) (b := b) (h := h) hM Qb
        rw [b2_f (by omega)] at hgb
        have d1 : ¬ CD b x.2.1 = 2060 ∧ ¬ CD b x.2.1 = 2061 ∧ ¬ CD b x.2.1 = 2062 := by
          unfold pH at c3
          refine ⟨fun q => ?_, fun q => ?_, fun q => ?_⟩
          · rw [if_pos q] at c3; omega
          · rw [if_neg (by omega), if_pos q] at c3; omega
          · rw [if_neg (by omega), if_neg (by omega), if_pos q] at c3; omega
        show _ = some ((), mK M (rSt b g (pA0 b x.2.1) x.2.1 (S ++ x.2.2.map ct) w) h)
        simp (config := { maxSteps := 1000000 }) (disch := first | assumption | exact W.i _ _ | exact sLine_i W _ _ _ | exact W1.i _ _ | exact hg _ _ | exact W3.i _ _ | (refine ⟨?_, ?_⟩ <;> omega) | omega | (simp only [sW_1, sW_2, sW_3, sW_4, sW_5, sW_8] <;> first | assumption | omega | (refine ⟨?_, ?_⟩ <;> omega)) | (simp only [sT_1, sT_2, sT_3, sT_4, sT_5, sT_8] <;> first | assumption | omega | (refine ⟨?_, ?_⟩ <;> omega)) | (simp only [List.length_append, List.length_cons, List.length_nil, Nat.reduceAdd] <;> omega)) only [Int.reduceEq, Int.reduceLT, Int.reduceLE, Int.reduceNeg, Int.reduceAdd, Int.reduceSub, Int.reduceMul, if_true, if_false, not_true, not_false_eq_true, false_or, or_false, true_or, or_true, true_and, and_true, false_and, and_false, iI_on, iI_mul, iI_add, iI_sub, iI_neg, ap_if, mp_eq, mz_0, mz_1, mz_b, b2_0, b2_1, iI_lt, iI_le, iI_inj, mb_div, mb_rem, hM.m, hM.a1, hM.a2, hM.a3, hM.a4, hM.a5, hM.a6, hM.a7, hM.a8, hM.a9, hM.a10, hM.a11, hM.a12, hM.a13, hM.a14, hM.a15, hM.a16, hM.a17, hM.a18, hM.a19, hM.a20, hM.a21, hM.a22, hM.a23, hM.a24, hM.a25, hM.a26, hM.a27, hM.a28, hM.l1, hM.l2, hM.l3, hM.l4, hM.l5, hM.l6, hM.l7, hM.l8, hM.l9, hM.l10, hM.l11, hM.l12, hM.l13, hM.l14, hM.l15, hM.l16, hM.l17, hM.l18, hM.l19, hM.l20, hM.l21, hM.l22, hM.l23, hM.l24, hM.l25, hM.l26, hM.l27, hM.l28, hM.c10, hM.c11, hM.c12, hM.c13, hM.c14, hM.c15, hM.c19, hM.c20, hM.c23, hM.c27, hM.c36, hM.c37, hM.c38, hM.c40, hM.c41, hM.c42, hM.c44, mb_eq hfh, mb_eq hs1, mb_eq hm1, mb_eq hm2, mb_eq hm3, d1.1, d1.2.1, d1.2.2, m12_wantAsk_p66, m12_wantAsk_p77, m12_wantAsk_p91, m12_wantAsk_p103, mb_eq hw0, mb_eq hgb]
      · rw [if_neg c3]
        have kN : x.2.1 < CT b := by
          rcases Int.lt_or_le x.2.1 (CT b) with q | q
          · exact q
          · have := B.CN.2.1 _ q
            rw [this] at c3
            exact absurd (show pH 3000 < 0 by decide) c3
        have el1 : (((S ++ x.2.2.map ct).length : Nat) : Int) = (S.length : Int) + x.2.2.length := by rw [List.length_append, List.length_map]; omega
        have Q2 := Q1.nx
        have hw1 := R_want1 (h := h) hM B Q1 (by omega)
        have hg2 := R_isGood (M := M) (b := b) (h := h) hM Q2
        rw [b2_t (by omega)] at hg2
        have b2' := pS_b B.CN 252 0 (x.2.1 + 1) (by omega) (by omega) (by omega) (by omega)
        rw [if_pos (Int.le_refl 0)] at b2'
        have hs2 := R_wantSum (h := h) hM B Q2 (by omega) (by omega)
        have o2 := pS_ok B.CN.2.2 252 0 (x.2.1 + 1) (by omega)
        generalize hy : pS (CD b) 252 0 (x.2.1 + 1) = y at *
        have hy1 : 0 ≤ y.2.1 := by omega
        have el2 : (((S ++ x.2.2.map ct ++ y.2.2.map ct).length : Nat) : Int) = (S.length : Int) + x.2.2.length + y.2.2.length := by rw [List.length_append, List.length_map]; omega
        have Q3 : QR g (fl b y.1 y.2.1) y.2.1 (S ++ x.2.2.map ct ++ y.2.2.map ct) w := ⟨Q.1, fl_i B _ hy1, okL_app Q1.2.2.1 (fun z hz => by have := okL_ct o2 z hz; omega), Q.2.2.2.1, hy1, by omega⟩
        have hg3 := R_isGood (M := M) (b := b) (h := h) hM Q3
        -- by the sign
        have hsg : CD b x.2.1 = 2060 ∨ CD b x.2.1 = 2061 ∨ CD b x.2.1 = 2062 := by
          unfold pH at c3
          by_cases q1 : CD b x.2.1 = 2060
          · exact Or.inl q1
          · by_cases q2 : CD b x.2.1 = 2061
            · exact Or.inr (Or.inl q2)
            · by_cases q3 : CD b x.2.1 = 2062
              · exact Or.inr (Or.inr q3)
              · rw [if_neg q1, if_neg q2, if_neg q3] at c3; omega
        by_cases c4 : y.1 = false
        · rw [if_pos c4]
          have pa := B.a hy1
          have ef : fl b y.1 y.2.1 = pA0 b y.2.1 := by rw [c4]; rfl
          rw [ef] at Q3 hs2 hg3
          rw [b2_f (by omega)] at hg3
          show _ = some ((), mK M (rSt b g (pA0 b y.2.1) y.2.1 (S ++ (x.2.2 ++ y.2.2).map ct) w) h)
          rw [List.map_append, ← List.append_assoc]
          rcases hsg with q | q | q
          · simp (config := { maxSteps := 1000000 }) (disch := first | assumption | exact W.i _ _ | exact sLine_i W _ _ _ | exact W1.i _ _ | exact hg _ _ | exact W3.i _ _ | (refine ⟨?_, ?_⟩ <;> omega) | omega | (simp only [sW_1, sW_2, sW_3, sW_4, sW_5, sW_8] <;> first | assumption | omega | (refine ⟨?_, ?_⟩ <;> omega)) | (simp only [sT_1, sT_2, sT_3, sT_4, sT_5, sT_8] <;> first | assumption | omega | (refine ⟨?_, ?_⟩ <;> omega)) | (simp only [List.length_append, List.length_cons, List.length_nil, Nat.reduceAdd] <;> omega)) only [Int.reduceEq, Int.reduceLT, Int.reduceLE, Int.reduceNeg, Int.reduceAdd, Int.reduceSub, Int.reduceMul, if_true, if_false, not_true, not_false_eq_true, false_or, or_false, true_or, or_true, true_and, and_true, false_and, and_false, iI_on, iI_mul, iI_add, iI_sub, iI_neg, ap_if, mp_eq, mz_0, mz_1, mz_b, b2_0, b2_1, iI_lt, iI_le, iI_inj, mb_div, mb_rem, hM.m, hM.a1, hM.a2, hM.a3, hM.a4, hM.a5, hM.a6, hM.a7, hM.a8, hM.a9, hM.a10, hM.a11, hM.a12, hM.a13, hM.a14, hM.a15, hM.a16, hM.a17, hM.a18, hM.a19, hM.a20, hM.a21, hM.a22, hM.a23, hM.a24, hM.a25, hM.a26, hM.a27, hM.a28, hM.l1, hM.l2, hM.l3, hM.l4, hM.l5, hM.l6, hM.l7, hM.l8, hM.l9, hM.l10, hM.l11, hM.l12, hM.l13, hM.l14, hM.l15, hM.l16, hM.l17, hM.l18, hM.l19, hM.l20, hM.l21, hM.l22, hM.l23, hM.l24, hM.l25, hM.l26, hM.l27, hM.l28, hM.c10, hM.c11, hM.c12, hM.c13, hM.c14, hM.c15, hM.c19, hM.c20, hM.c23, hM.c27, hM.c36, hM.c37, hM.c38, hM.c40, hM.c41, hM.c42, hM.c44, mb_eq hfh, mb_eq hs1, mb_eq hm1, mb_eq hm2, mb_eq hm3, q, m12_wantAsk_p66, m12_wantAsk_p77, m12_wantAsk_p91, m12_wantAsk_p103, mb_eq hw1, mb_eq hg2, mb_eq hs2, mb_eq hg3]
          · simp (config := { maxSteps := 1000000 }) (disch := first | assumption | exact W.i _ _ | exact sLine_i W _ _ _ | exact W1.i _ _ | exact hg _ _ | exact W3.i _ _ | (refine ⟨?_, ?_⟩ <;> omega) | omega | (simp only [sW_1, sW_2, sW_3, sW_4, sW_5, sW_8] <;> first | assumption | omega | (refine ⟨?_, ?_⟩ <;> omega)) | (simp only [sT_1, sT_2, sT_3, sT_4, sT_5, sT_8] <;> first | assumption | omega | (refine ⟨?_, ?_⟩ <;> omega)) | (simp only [List.length_append, List.length_cons, List.length_nil, Nat.reduceAdd] <;> omega)) only [Int.reduceEq, Int.reduceLT, Int.reduceLE, Int.reduceNeg, Int.reduceAdd, Int.reduceSub, Int.reduceMul, if_true, if_false, not_true, not_false_eq_true, false_or, or_false, true_or, or_true, true_and, and_true, false_and, and_false, iI_on, iI_mul, iI_add, iI_sub, iI_neg, ap_if, mp_eq, mz_0, mz_1, mz_b, b2_0, b2_1, iI_lt, iI_le, iI_inj, mb_div, mb_rem, hM.m, hM.a1, hM.a2, hM.a3, hM.a4, hM.a5, hM.a6, hM.a7, hM.a8, hM.a9, hM.a10, hM.a11, hM.a12, hM.a13, hM.a14, hM.a15, hM.a16, hM.a17, hM.a18, hM.a19, hM.a20, hM.a21, hM.a22, hM.a23, hM.a24, hM.a25, hM.a26, hM.a27, hM.a28, hM.l1, hM.l2, hM.l3, hM.l4, hM.l5, hM.l6, hM.l7, hM.l8, hM.l9, hM.l10, hM.l11, hM.l12, hM.l13, hM.l14, hM.l15, hM.l16, hM.l17, hM.l18, hM.l19, hM.l20, hM.l21, hM.l22, hM.l23, hM.l24, hM.l25, hM.l26, hM.l27, hM.l28, hM.c10, hM.c11, hM.c12, hM.c13, hM.c14, hM.c15, hM.c19, hM.c20, hM.c23, hM.c27, hM.c36, hM.c37, hM.c38, hM.c40, hM.c41, hM.c42, hM.c44, mb_eq hfh, mb_eq hs1, mb_eq hm1, mb_eq hm2, mb_eq hm3, q, m12_wantAsk_p66, m12_wantAsk_p77, m12_wantAsk_p91, m12_wantAsk_p103, mb_eq hw1, mb_eq hg2, mb_eq hs2, mb_eq hg3]
          · simp (config := { maxSteps := 1000000 }) (disch := first | assumption | exact W.i _ _ | exact sLine_i W _ _ _ | exact W1.i _ _ | exact hg _ _ | exact W3.i _ _ | (refine ⟨?_, ?_⟩ <;> omega) | omega | (simp only [sW_1, sW_2, sW_3, sW_4, sW_5, sW_8] <;> first | assumption | omega | (refine ⟨?_, ?_⟩ <;> omega)) | (simp only [sT_1, sT_2, sT_3, sT_4, sT_5, sT_8] <;> first | assumption | omega | (refine ⟨?_, ?_⟩ <;> omega)) | (simp only [List.length_append, List.length_cons, List.length_nil, Nat.reduceAdd] <;> omega)) only [Int.reduceEq, Int.reduceLT, Int.reduceLE, Int.reduceNeg, Int.reduceAdd, Int.reduceSub, Int.reduceMul, if_true, if_false, not_true, not_false_eq_true, false_or, or_false, true_or, or_true, true_and, and_true, false_and, and_false, iI_on, iI_mul, iI_add, iI_sub, iI_neg, ap_if, mp_eq, mz_0, mz_1, mz_b, b2_0, b2_1, iI_lt, iI_le, iI_inj, mb_div, mb_rem, hM.m, hM.a1, hM.a2, hM.a3, hM.a4, hM.a5, hM.a6, hM.a7, hM.a8, hM.a9, hM.a10, hM.a11, hM.a12, hM.a13, hM.a14, hM.a15, hM.a16, hM.a17, hM.a18, hM.a19, hM.a20, hM.a21, hM.a22, hM.a23, hM.a24, hM.a25, hM.a26, hM.a27, hM.a28, hM.l1, hM.l2, hM.l3, hM.l4, hM.l5, hM.l6, hM.l7, hM.l8, hM.l9, hM.l10, hM.l11, hM.l12, hM.l13, hM.l14, hM.l15, hM.l16, hM.l17, hM.l18, hM.l19, hM.l20, hM.l21, hM.l22, hM.l23, hM.l24, hM.l25, hM.l26, hM.l27, hM.l28, hM.c10, hM.c11, hM.c12, hM.c13, hM.c14, hM.c15, hM.c19, hM.c20, hM.c23, hM.c27, hM.c36, hM.c37, hM.c38, hM.c40, hM.c41, hM.c42, hM.c44, mb_eq hfh, mb_eq hs1, mb_eq hm1, mb_eq hm2, mb_eq hm3, q, m12_wantAsk_p66, m12_wantAsk_p77, m12_wantAsk_p91, m12_wantAsk_p103, mb_eq hw1, mb_eq hg2, mb_eq hs2, mb_eq hg3]
        · have c4' : y.1 = true := by
            revert c4; cases y.1 <;> simp
          rw [if_neg c4]
          have ef : fl b y.1 y.2.1 = -1 := by rw [c4']; rfl
          rw [ef] at Q3 hs2 hg3
          rw [b2_t (by omega)] at hg3
          have he := fun s : Int => R_emit (M := M) (b := b) (g := g) (f := -1) (k := y.2.1) (S := S ++ x.2.2.map ct ++ y.2.2.map ct) (w := w) (h := h) (x := s) hM (by omega)
          have eth : ∀ s : Int, (S ++ (x.2.2 ++ y.2.2 ++ [s]).map ct) = S ++ x.2.2.map ct ++ y.2.2.map ct ++ [ct s] := fun s => by
            rw [List.map_append, List.map_append, ← List.append_assoc, ← List.append_assoc]; rfl
          show _ = some ((), mK M (rSt b g (-1) y.2.1 (S ++ (x.2.2 ++ y.2.2 ++ [pH (CD b x.2.1)]).map ct) w) h)
          rw [eth]
          rcases hsg with q | q | q
          · have e2 : ct (pH (CD b x.2.1)) = 15 := by rw [q]; rfl
            rw [e2]
            simp (config := { maxSteps := 1000000 }) (disch := first | assumption | exact W.i _ _ | exact sLine_i W _ _ _ | exact W1.i _ _ | exact hg _ _ | exact W3.i _ _ | (refine ⟨?_, ?_⟩ <;> omega) | omega | (simp only [sW_1, sW_2, sW_3, sW_4, sW_5, sW_8] <;> first | assumption | omega | (refine ⟨?_, ?_⟩ <;> omega)) | (simp only [sT_1, sT_2, sT_3, sT_4, sT_5, sT_8] <;> first | assumption | omega | (refine ⟨?_, ?_⟩ <;> omega)) | (simp only [List.length_append, List.length_cons, List.length_nil, Nat.reduceAdd] <;> omega)) only [Int.reduceEq, Int.reduceLT, Int.reduceLE, Int.reduceNeg, Int.reduceAdd, Int.reduceSub, Int.reduceMul, if_true, if_false, not_true, not_false_eq_true, false_or, or_false, true_or, or_true, true_and, and_true, false_and, and_false, iI_on, iI_mul, iI_add, iI_sub, iI_neg, ap_if, mp_eq, mz_0, mz_1, mz_b, b2_0, b2_1, iI_lt, iI_le, iI_inj, mb_div, mb_rem, hM.m, hM.a1, hM.a2, hM.a3, hM.a4, hM.a5, hM.a6, hM.a7, hM.a8, hM.a9, hM.a10, hM.a11, hM.a12, hM.a13, hM.a14, hM.a15, hM.a16, hM.a17, hM.a18, hM.a19, hM.a20, hM.a21, hM.a22, hM.a23, hM.a24, hM.a25, hM.a26, hM.a27, hM.a28, hM.l1, hM.l2, hM.l3, hM.l4, hM.l5, hM.l6, hM.l7, hM.l8, hM.l9, hM.l10, hM.l11, hM.l12, hM.l13, hM.l14, hM.l15, hM.l16, hM.l17, hM.l18, hM.l19, hM.l20, hM.l21, hM.l22, hM.l23, hM.l24, hM.l25, hM.l26, hM.l27, hM.l28, hM.c10, hM.c11, hM.c12, hM.c13, hM.c14, hM.c15, hM.c19, hM.c20, hM.c23, hM.c27, hM.c36, hM.c37, hM.c38, hM.c40, hM.c41, hM.c42, hM.c44, mb_eq hfh, mb_eq hs1, mb_eq hm1, mb_eq hm2, mb_eq hm3, q, m12_wantAsk_p66, m12_wantAsk_p77, m12_wantAsk_p91, m12_wantAsk_p103, mb_eq hw1, mb_eq hg2, mb_eq hs2, mb_eq hg3, mb_eq (he 15)]
          · have e2 : ct (pH (CD b x.2.1)) = 16 := by rw [q]; rfl
            rw [e2]
            simp (config := { maxSteps := 1000000 }) (disch := first | assumption | exact W.i _ _ | exact sLine_i W _ _ _ | exact W1.i _ _ | exact hg _ _ | exact W3.i _ _ | (refine ⟨?_, ?_⟩ <;> omega) | omega | (simp only [sW_1, sW_2, sW_3, sW_4, sW_5, sW_8] <;> first | assumption | omega | (refine ⟨?_, ?_⟩ <;> omega)) | (simp only [sT_1, sT_2, sT_3, sT_4, sT_5, sT_8] <;> first | assumption | omega | (refine ⟨?_, ?_⟩ <;> omega)) | (simp only [List.length_append, List.length_cons, List.length_nil, Nat.reduceAdd] <;> omega)) only [Int.reduceEq, Int.reduceLT, Int.reduceLE, Int.reduceNeg, Int.reduceAdd, Int.reduceSub, Int.reduceMul, if_true, if_false, not_true, not_false_eq_true, false_or, or_false, true_or, or_true, true_and, and_true, false_and, and_false, iI_on, iI_mul, iI_add, iI_sub, iI_neg, ap_if, mp_eq, mz_0, mz_1, mz_b, b2_0, b2_1, iI_lt, iI_le, iI_inj, mb_div, mb_rem, hM.m, hM.a1, hM.a2, hM.a3, hM.a4, hM.a5, hM.a6, hM.a7, hM.a8, hM.a9, hM.a10, hM.a11, hM.a12, hM.a13, hM.a14, hM.a15, hM.a16, hM.a17, hM.a18, hM.a19, hM.a20, hM.a21, hM.a22, hM.a23, hM.a24, hM.a25, hM.a26, hM.a27, hM.a28, hM.l1, hM.l2, hM.l3, hM.l4, hM.l5, hM.l6, hM.l7, hM.l8, hM.l9, hM.l10, hM.l11, hM.l12, hM.l13, hM.l14, hM.l15, hM.l16, hM.l17, hM.l18, hM.l19, hM.l20, hM.l21, hM.l22, hM.l23, hM.l24, hM.l25, hM.l26, hM.l27, hM.l28, hM.c10, hM.c11, hM.c12, hM.c13, hM.c14, hM.c15, hM.c19, hM.c20, hM.c23, hM.c27, hM.c36, hM.c37, hM.c38, hM.c40, hM.c41, hM.c42, hM.c44, mb_eq hfh, mb_eq hs1, mb_eq hm1, mb_eq hm2, mb_eq hm3, q, m12_wantAsk_p66, m12_wantAsk_p77, m12_wantAsk_p91, m12_wantAsk_p103, mb_eq hw1, mb_eq hg2, mb_eq hs2, mb_eq hg3, mb_eq (he 16)]
          · have e2 : ct (pH (CD b x.2.1)) = 17 := by rw [q]; rfl
            rw [e2]
            simp (config := { maxSteps := 1000000 }) (disch := first | assumption | exact W.i _ _ | exact sLine_i W _ _ _ | exact W1.i _ _ | exact hg _ _ | exact W3.i _ _ | (refine ⟨?_, ?_⟩ <;> omega) | omega | (simp only [sW_1, sW_2, sW_3, sW_4, sW_5, sW_8] <;> first | assumption | omega | (refine ⟨?_, ?_⟩ <;> omega)) | (simp only [sT_1, sT_2, sT_3, sT_4, sT_5, sT_8] <;> first | assumption | omega | (refine ⟨?_, ?_⟩ <;> omega)) | (simp only [List.length_append, List.length_cons, List.length_nil, Nat.reduceAdd] <;> omega)) only [Int.reduceEq, Int.reduceLT, Int.reduceLE, Int.reduceNeg, Int.reduceAdd, Int.reduceSub, Int.reduceMul, if_true, if_false, not_true, not_false_eq_true, false_or, or_false, true_or, or_true, true_and, and_true, false_and, and_false, iI_on, iI_mul, iI_add, iI_sub, iI_neg, ap_if, mp_eq, mz_0, mz_1, mz_b, b2_0, b2_1, iI_lt, iI_le, iI_inj, mb_div, mb_rem, hM.m, hM.a1, hM.a2, hM.a3, hM.a4, hM.a5, hM.a6, hM.a7, hM.a8, hM.a9, hM.a10, hM.a11, hM.a12, hM.a13, hM.a14, hM.a15, hM.a16, hM.a17, hM.a18, hM.a19, hM.a20, hM.a21, hM.a22, hM.a23, hM.a24, hM.a25, hM.a26, hM.a27, hM.a28, hM.l1, hM.l2, hM.l3, hM.l4, hM.l5, hM.l6, hM.l7, hM.l8, hM.l9, hM.l10, hM.l11, hM.l12, hM.l13, hM.l14, hM.l15, hM.l16, hM.l17, hM.l18, hM.l19, hM.l20, hM.l21, hM.l22, hM.l23, hM.l24, hM.l25, hM.l26, hM.l27, hM.l28, hM.c10, hM.c11, hM.c12, hM.c13, hM.c14, hM.c15, hM.c19, hM.c20, hM.c23, hM.c27, hM.c36, hM.c37, hM.c38, hM.c40, hM.c41, hM.c42, hM.c44, mb_eq hfh, mb_eq hs1, mb_eq hm1, mb_eq hm2, mb_eq hm3, q, m12_wantAsk_p66, m12_wantAsk_p77, m12_wantAsk_p91, m12_wantAsk_p103, mb_eq hw1, mb_eq hg2, mb_eq hs2, mb_eq hg3, mb_eq (he 17)]
end RCOND

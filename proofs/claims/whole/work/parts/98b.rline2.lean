/-! ===== the reference reads a line: whole ===== -/
section CUR2
variable {c : Int → Int} {k : Int}
theorem cN_t {l m : Int} {x : Cu} (h : (cN c l m x).1 = true) : x.1 = true ∧ (l ≤ c x.2 ∧ c x.2 ≤ m) ∧ cN c l m x = (true, x.2 + 1) := by
  unfold cN at h ⊢
  by_cases c1 : x.1 = true
  · rw [if_pos c1] at h ⊢
    by_cases c2 : l ≤ c x.2 ∧ c x.2 ≤ m
    · rw [if_pos c2]; exact ⟨c1, c2, rfl⟩
    · rw [if_neg c2] at h; cases h
  · rw [if_neg c1] at h; exact absurd h c1
theorem cW_t {v : Int} {x : Cu} (h : (cW c v x).1 = true) : x.1 = true ∧ c x.2 = v ∧ cW c v x = (true, x.2 + 1) := by
  unfold cW at h ⊢
  by_cases c1 : x.1 = true
  · rw [if_pos c1] at h ⊢
    by_cases c2 : c x.2 = v
    · rw [if_pos c2]; exact ⟨c1, c2, rfl⟩
    · rw [if_neg c2] at h; cases h
  · rw [if_neg c1] at h; exact absurd h c1
theorem cC_t {x : Cu} (h : (cC c x).1 = true) : x.1 = true ∧ (pC c 6 0 x.2).1 = true ∧ cC c x = (true, (pC c 6 0 x.2).2.1) := by
  unfold cC at h ⊢
  by_cases c1 : x.1 = true
  · rw [if_pos c1] at h ⊢
    exact ⟨c1, h, by rw [h]⟩
  · rw [if_neg c1] at h; exact absurd h c1
/-- what a right line tells -/
def LR (c : Int → Int) (k : Int) : Prop := (1000 ≤ c k ∧ c k ≤ 1007) ∧ (c k ≤ 1001 → (0 ≤ c (k + 1) ∧ c (k + 1) ≤ 5) ∧ 0 ≤ c (k + 2) ∧ c (k + 2) ≤ 9) ∧ (c k = 1002 → 0 ≤ c (k + 1) ∧ c (k + 1) ≤ 90) ∧ (c k = 1003 → (0 ≤ c (k + 1) ∧ c (k + 1) ≤ 4) ∧ (0 ≤ c (k + 2) ∧ c (k + 2) ≤ 3) ∧ (0 ≤ c (k + 3) ∧ c (k + 3) ≤ 240) ∧ c (k + 4) = 1017 ∧ c (k + 3) ≤ c (k + 5) ∧ c (k + 5) ≤ 240) ∧ (c k = 1004 ∨ c k = 1005 → (0 ≤ c (k + 1) ∧ c (k + 1) ≤ 4) ∧ c (k + 2) = 1016) ∧ (c k = 1006 → c (k + 1) = 1016) ∧ (condX c k).1 = true
theorem lnX_t (h : (lnX c k).1 = true) : LR c k := by
  unfold lnX at h
  by_cases c1 : 1000 ≤ c k ∧ c k ≤ 1007
  · rw [if_pos c1] at h
    obtain ⟨h1, _, _⟩ := cW_t h
    unfold bodyX at h1
    unfold LR condX
    have e2 : k + 1 + 1 = k + 2 := by omega
    have e3 : k + 1 + 1 + 1 = k + 3 := by omega
    have e4 : k + 1 + 1 + 1 + 1 = k + 4 := by omega
    have e5 : k + 1 + 1 + 1 + 1 + 1 = k + 5 := by omega
    have e12 : k + 1 + 2 = k + 3 := by omega
    by_cases s1 : c k - 1000 ≤ 1
    · rw [if_pos s1] at h1
      obtain ⟨a1, a2, a3⟩ := cN_t h1
      obtain ⟨b1, b2, b3⟩ := cN_t a1
      rw [b3] at a2
      dsimp only at a2 b2
      rw [e2] at a2
      rw [if_neg (by omega), if_neg (by omega)]
      exact ⟨c1, fun _ => ⟨b2, a2⟩, by omega, by omega, by omega, by omega, rfl⟩
    · rw [if_neg s1] at h1
      by_cases s2 : c k - 1000 = 2
      · rw [if_pos s2] at h1
        obtain ⟨a1, a2, a3⟩ := cN_t h1
        dsimp only at a2
        rw [if_neg (by omega), if_neg (by omega)]
        exact ⟨c1, by omega, fun _ => a2, by omega, by omega, by omega, rfl⟩
      · rw [if_neg s2] at h1
        by_cases s3 : c k - 1000 = 3
        · rw [if_pos s3] at h1
          obtain ⟨a1, a2, a3⟩ := cN_t h1
          obtain ⟨b1, b2, b3⟩ := cW_t a1
          obtain ⟨d1, d2, d3⟩ := cN_t b1
          obtain ⟨f1, f2, f3⟩ := cN_t d1
          obtain ⟨g1, g2, g3⟩ := cN_t f1
          rw [b3] at a2
          rw [d3] at b2 a2
          rw [f3] at d2 b2 a2
          rw [g3] at f2 d2 b2 a2
          dsimp only at a2 b2 d2 f2 g2
          rw [e2] at f2
          rw [e3] at d2
          rw [e4] at b2
          rw [e5, e12] at a2
          rw [if_neg (by omega), if_neg (by omega)]
          exact ⟨c1, by omega, by omega, fun _ => ⟨g2, f2, d2, b2, a2⟩, by omega, by omega, rfl⟩
        · rw [if_neg s3] at h1
          by_cases s4 : c k - 1000 ≤ 5
          · rw [if_pos s4] at h1
            obtain ⟨a1, a2, a3⟩ := cC_t h1
            obtain ⟨b1, b2, b3⟩ := cW_t a1
            obtain ⟨d1, d2, d3⟩ := cN_t b1
            rw [b3, d3] at a2
            rw [d3] at b2
            dsimp only at a2 b2 d2
            rw [e3] at a2
            rw [e2] at b2
            rw [if_pos (by omega)]
            exact ⟨c1, by omega, by omega, by omega, fun _ => ⟨d2, b2⟩, by omega, a2⟩
          · rw [if_neg s4] at h1
            by_cases s5 : c k - 1000 = 6
            · rw [if_pos s5] at h1
              obtain ⟨a1, a2, a3⟩ := cC_t h1
              obtain ⟨b1, b2, b3⟩ := cW_t a1
              rw [b3] at a2
              dsimp only at a2 b2
              rw [e2] at a2
              rw [if_neg (by omega), if_pos (by omega)]
              exact ⟨c1, by omega, by omega, by omega, by omega, fun _ => b2, a2⟩
            · rw [if_neg (by omega), if_neg (by omega)]
              exact ⟨c1, by omega, by omega, by omega, by omega, by omega, rfl⟩
  · rw [if_neg c1] at h; cases h
end CUR2
section RLINE2
variable {M : Nat} {b b0 b' : Nat → Int → Int} {h s : gH} {g : Int → Int} {f k l : Int} {S w : List Int} {x : Cu} {L : List (Int × Int)}
theorem St.mk_ (H : St M b0 l h x S L s) : ∃ X, s = mK M X h := by
  by_cases c1 : x.1 = true
  · obtain ⟨b', g, e, _⟩ := H.1 c1; exact ⟨_, e⟩
  · obtain ⟨b', g, k, S', w, e, _⟩ := H.2 (ftn c1); exact ⟨_, e⟩
theorem R_sortHere (hM : OKM M h) (B : BR b) (Q : QR g f k S w) : m12_sortHere M (mK M (rSt b g f k S w) h) = some (iI (if 1000 ≤ CD b k ∧ CD b k ≤ 1007 then CD b k - 1000 else -1), mK M (rSt b g f k S w) h) := by
  have ic := cd_i B Q.2.2.2.2.1
  have h0 := R_w0 (h := h) hM B Q
  have h1 := R_w1 (h := h) hM B Q
  have h2 := R_w2 (h := h) hM B Q
  have h3 := R_w3 (h := h) hM B Q
  have h4 := R_w4 (h := h) hM B Q
  have h5 := R_w5 (h := h) hM B Q
  have h6 := R_w6 (h := h) hM B Q
  have h7 := R_w7 (h := h) hM B Q
  unfold m12_sortHere m12_sortHere_p18 m12_sortHere_p52 m12_sortHere_p87
  generalize CD b k = C at *
  have : C = 1000 ∨ C = 1001 ∨ C = 1002 ∨ C = 1003 ∨ C = 1004 ∨ C = 1005 ∨ C = 1006 ∨ C = 1007 ∨ ¬ (1000 ≤ C ∧ C ≤ 1007) := by omega
  rcases this with e | e | e | e | e | e | e | e | e
  · subst e; simp (config := { maxSteps := 1000000 }) (disch := first | assumption | exact W.i _ _ | exact sLine_i W _ _ _ | exact W1.i _ _ | exact hg _ _ | exact W3.i _ _ | (refine ⟨?_, ?_⟩ <;> omega) | omega | (simp only [sW_1, sW_2, sW_3, sW_4, sW_5, sW_8] <;> first | assumption | omega | (refine ⟨?_, ?_⟩ <;> omega)) | (simp only [sT_1, sT_2, sT_3, sT_4, sT_5, sT_8] <;> first | assumption | omega | (refine ⟨?_, ?_⟩ <;> omega)) | (simp only [List.length_append, List.length_cons, List.length_nil, Nat.reduceAdd] <;> omega)) only [Int.reduceEq, Int.reduceLT, Int.reduceLE, Int.reduceNeg, Int.reduceAdd, Int.reduceSub, Int.reduceMul, if_true, if_false, not_true, not_false_eq_true, false_or, or_false, true_or, or_true, true_and, and_true, false_and, and_false, iI_on, iI_mul, iI_add, iI_sub, iI_neg, ap_if, mp_eq, mz_0, mz_1, mz_b, b2_0, b2_1, iI_lt, iI_le, iI_inj, mb_div, mb_rem, hM.m, hM.a1, hM.a2, hM.a3, hM.a4, hM.a5, hM.a6, hM.a7, hM.a8, hM.a9, hM.a10, hM.a11, hM.a12, hM.a13, hM.a14, hM.a15, hM.a16, hM.a17, hM.a18, hM.a19, hM.a20, hM.a21, hM.a22, hM.a23, hM.a24, hM.a25, hM.a26, hM.a27, hM.a28, hM.l1, hM.l2, hM.l3, hM.l4, hM.l5, hM.l6, hM.l7, hM.l8, hM.l9, hM.l10, hM.l11, hM.l12, hM.l13, hM.l14, hM.l15, hM.l16, hM.l17, hM.l18, hM.l19, hM.l20, hM.l21, hM.l22, hM.l23, hM.l24, hM.l25, hM.l26, hM.l27, hM.l28, hM.c10, hM.c11, hM.c12, hM.c13, hM.c14, hM.c15, hM.c19, hM.c20, hM.c23, hM.c27, hM.c36, hM.c37, hM.c38, hM.c40, hM.c41, hM.c42, hM.c44, mb_eq h0, mb_eq h1, mb_eq h2, mb_eq h3, mb_eq h4, mb_eq h5, mb_eq h6, mb_eq h7, m12_sortHere_p132, m12_sortHere_p32, m12_sortHere_p67, m12_sortHere_p102]
  · subst e; simp (config := { maxSteps := 1000000 }) (disch := first | assumption | exact W.i _ _ | exact sLine_i W _ _ _ | exact W1.i _ _ | exact hg _ _ | exact W3.i _ _ | (refine ⟨?_, ?_⟩ <;> omega) | omega | (simp only [sW_1, sW_2, sW_3, sW_4, sW_5, sW_8] <;> first | assumption | omega | (refine ⟨?_, ?_⟩ <;> omega)) | (simp only [sT_1, sT_2, sT_3, sT_4, sT_5, sT_8] <;> first | assumption | omega | (refine ⟨?_, ?_⟩ <;> omega)) | (simp only [List.length_append, List.length_cons, List.length_nil, Nat.reduceAdd] <;> omega)) only [Int.reduceEq, Int.reduceLT, Int.reduceLE, Int.reduceNeg, Int.reduceAdd, Int.reduceSub, Int.reduceMul, if_true, if_false, not_true, not_false_eq_true, false_or, or_false, true_or, or_true, true_and, and_true, false_and, and_false, iI_on, iI_mul, iI_add, iI_sub, iI_neg, ap_if, mp_eq, mz_0, mz_1, mz_b, b2_0, b2_1, iI_lt, iI_le, iI_inj, mb_div, mb_rem, hM.m, hM.a1, hM.a2, hM.a3, hM.a4, hM.a5, hM.a6, hM.a7, hM.a8, hM.a9, hM.a10, hM.a11, hM.a12, hM.a13, hM.a14, hM.a15, hM.a16, hM.a17, hM.a18, hM.a19, hM.a20, hM.a21, hM.a22, hM.a23, hM.a24, hM.a25, hM.a26, hM.a27, hM.a28, hM.l1, hM.l2, hM.l3, hM.l4, hM.l5, hM.l6, hM.l7, hM.l8, hM.l9, hM.l10, hM.l11, hM.l12, hM.l13, hM.l14, hM.l15, hM.l16, hM.l17, hM.l18, hM.l19, hM.l20, hM.l21, hM.l22, hM.l23, hM.l24, hM.l25, hM.l26, hM.l27, hM.l28, hM.c10, hM.c11, hM.c12, hM.c13, hM.c14, hM.c15, hM.c19, hM.c20, hM.c23, hM.c27, hM.c36, hM.c37, hM.c38, hM.c40, hM.c41, hM.c42, hM.c44, mb_eq h0, mb_eq h1, mb_eq h2, mb_eq h3, mb_eq h4, mb_eq h5, mb_eq h6, mb_eq h7, m12_sortHere_p132, m12_sortHere_p32, m12_sortHere_p67, m12_sortHere_p102]
  · subst e; simp (config := { maxSteps := 1000000 }) (disch := first | assumption | exact W.i _ _ | exact sLine_i W _ _ _ | exact W1.i _ _ | exact hg _ _ | exact W3.i _ _ | (refine ⟨?_, ?_⟩ <;> omega) | omega | (simp only [sW_1, sW_2, sW_3, sW_4, sW_5, sW_8] <;> first | assumption | omega | (refine ⟨?_, ?_⟩ <;> omega)) | (simp only [sT_1, sT_2, sT_3, sT_4, sT_5, sT_8] <;> first | assumption | omega | (refine ⟨?_, ?_⟩ <;> omega)) | (simp only [List.length_append, List.length_cons, List.length_nil, Nat.reduceAdd] <;> omega)) only [Int.reduceEq, Int.reduceLT, Int.reduceLE, Int.reduceNeg, Int.reduceAdd, Int.reduceSub, Int.reduceMul, if_true, if_false, not_true, not_false_eq_true, false_or, or_false, true_or, or_true, true_and, and_true, false_and, and_false, iI_on, iI_mul, iI_add, iI_sub, iI_neg, ap_if, mp_eq, mz_0, mz_1, mz_b, b2_0, b2_1, iI_lt, iI_le, iI_inj, mb_div, mb_rem, hM.m, hM.a1, hM.a2, hM.a3, hM.a4, hM.a5, hM.a6, hM.a7, hM.a8, hM.a9, hM.a10, hM.a11, hM.a12, hM.a13, hM.a14, hM.a15, hM.a16, hM.a17, hM.a18, hM.a19, hM.a20, hM.a21, hM.a22, hM.a23, hM.a24, hM.a25, hM.a26, hM.a27, hM.a28, hM.l1, hM.l2, hM.l3, hM.l4, hM.l5, hM.l6, hM.l7, hM.l8, hM.l9, hM.l10, hM.l11, hM.l12, hM.l13, hM.l14, hM.l15, hM.l16, hM.l17, hM.l18, hM.l19, hM.l20, hM.l21, hM.l22, hM.l23, hM.l24, hM.l25, hM.l26, hM.l27, hM.l28, hM.c10, hM.c11, hM.c12, hM.c13, hM.c14, hM.c15, hM.c19, hM.c20, hM.c23, hM.c27, hM.c36, hM.c37, hM.c38, hM.c40, hM.c41, hM.c42, hM.c44, mb_eq h0, mb_eq h1, mb_eq h2, mb_eq h3, mb_eq h4, mb_eq h5, mb_eq h6, mb_eq h7, m12_sortHere_p132, m12_sortHere_p32, m12_sortHere_p67, m12_sortHere_p102]
  · subst e; simp (config := { maxSteps := 1000000 }) (disch := first | assumption | exact W.i _ _ | exact sLine_i W _ _ _ | exact W1.i _ _ | exact hg _ _ | exact W3.i _ _ | (refine ⟨?_, ?_⟩ <;> omega) | omega | (simp only [sW_1, sW_2, sW_3, sW_4, sW_5, sW_8] <;> first | assumption | omega | (refine ⟨?_, ?_⟩ <;> omega)) | (simp only [sT_1, sT_2, sT_3, sT_4, sT_5, sT_8] <;> first | assumption | omega | (refine ⟨?_, ?_⟩ <;> omega)) | (simp only [List.length_append, List.length_cons, List.length_nil, Nat.reduceAdd] <;> omega)) only [Int.reduceEq, Int.reduceLT, Int.reduceLE, Int.reduceNeg, Int.reduceAdd, Int.reduceSub, Int.reduceMul, if_true, if_false, not_true, not_false_eq_true, false_or, or_false, true_or, or_true, true_and, and_true, false_and, and_false, iI_on, iI_mul, iI_add, iI_sub, iI_neg, ap_if, mp_eq, mz_0, mz_1, mz_b, b2_0, b2_1, iI_lt, iI_le, iI_inj, mb_div, mb_rem, hM.m, hM.a1, hM.a2, hM.a3, hM.a4, hM.a5, hM.a6, hM.a7, hM.a8, hM.a9, hM.a10, hM.a11, hM.a12, hM.a13, hM.a14, hM.a15, hM.a16, hM.a17, hM.a18, hM.a19, hM.a20, hM.a21, hM.a22, hM.a23, hM.a24, hM.a25, hM.a26, hM.a27, hM.a28, hM.l1, hM.l2, hM.l3, hM.l4, hM.l5, hM.l6, hM.l7, hM.l8, hM.l9, hM.l10, hM.l11, hM.l12, hM.l13, hM.l14, hM.l15, hM.l16, hM.l17, hM.l18, hM.l19, hM.l20, hM.l21, hM.l22, hM.l23, hM.l24, hM.l25, hM.l26, hM.l27, hM.l28, hM.c10, hM.c11, hM.c12, hM.c13, hM.c14, hM.c15, hM.c19, hM.c20, hM.c23, hM.c27, hM.c36, hM.c37, hM.c38, hM.c40, hM.c41, hM.c42, hM.c44, mb_eq h0, mb_eq h1, mb_eq h2, mb_eq h3, mb_eq h4, mb_eq h5, mb_eq h6, mb_eq h7, m12_sortHere_p132, m12_sortHere_p32, m12_sortHere_p67, m12_sortHere_p102]
  · subst e; simp (config := { maxSteps := 1000000 }) (disch := first | assumption | exact W.i _ _ | exact sLine_i W _ _ _ | exact W1.i _ _ | exact hg _ _ | exact W3.i _ _ | (refine ⟨?_, ?_⟩ <;> omega) | omega | (simp only [sW_1, sW_2, sW_3, sW_4, sW_5, sW_8] <;> first | assumption | omega | (refine ⟨?_, ?_⟩ <;> omega)) | (simp only [sT_1, sT_2, sT_3, sT_4, sT_5, sT_8] <;> first | assumption | omega | (refine ⟨?_, ?_⟩ <;> omega)) | (simp only [List.length_append, List.length_cons, List.length_nil, Nat.reduceAdd] <;> omega)) only [Int.reduceEq, Int.reduceLT, Int.reduceLE, Int.reduceNeg, Int.reduceAdd, Int.reduceSub, Int.reduceMul, if_true, if_false, not_true, not_false_eq_true, false_or, or_false, true_or, or_true, true_and, and_true, false_and, and_false, iI_on, iI_mul, iI_add, iI_sub, iI_neg, ap_if, mp_eq, mz_0, mz_1, mz_b, b2_0, b2_1, iI_lt, iI_le, iI_inj, mb_div, mb_rem, hM.m, hM.a1, hM.a2, hM.a3, hM.a4, hM.a5, hM.a6, hM.a7, hM.a8, hM.a9, hM.a10, hM.a11, hM.a12, hM.a13, hM.a14, hM.a15, hM.a16, hM.a17, hM.a18, hM.a19, hM.a20, hM.a21, hM.a22, hM.a23, hM.a24, hM.a25, hM.a26, hM.a27, hM.a28, hM.l1, hM.l2, hM.l3, hM.l4, hM.l5, hM.l6, hM.l7, hM.l8, hM.l9, hM.l10, hM.l11, hM.l12, hM.l13, hM.l14, hM.l15, hM.l16, hM.l17, hM.l18, hM.l19, hM.l20, hM.l21, hM.l22, hM.l23, hM.l24, hM.l25, hM.l26, hM.l27, hM.l28, hM.c10, hM.c11, hM.c12, hM.c13, hM.c14, hM.c15, hM.c19, hM.c20, hM.c23, hM.c27, hM.c36, hM.c37, hM.c38, hM.c40, hM.c41, hM.c42, hM.c44, mb_eq h0, mb_eq h1, mb_eq h2, mb_eq h3, mb_eq h4, mb_eq h5, mb_eq h6, mb_eq h7, m12_sortHere_p132, m12_sortHere_p32, m12_sortHere_p67, m12_sortHere_p102]
  · subst e; simp (config := { maxSteps := 1000000 }) (disch := first | assumption | exact W.i _ _ | exact sLine_i W _ _ _ | exact W1.i _ _ | exact hg _ _ | exact W3.i _ _ | (refine ⟨?_, ?_⟩ <;> omega) | omega | (simp only [sW_1, sW_2, sW_3, sW_4, sW_5, sW_8] <;> first | assumption | omega | (refine ⟨?_, ?_⟩ <;> omega)) | (simp only [sT_1, sT_2, sT_3, sT_4, sT_5, sT_8] <;> first | assumption | omega | (refine ⟨?_, ?_⟩ <;> omega)) | (simp only [List.length_append, List.length_cons, List.length_nil, Nat.reduceAdd] <;> omega)) only [Int.reduceEq, Int.reduceLT, Int.reduceLE, Int.reduceNeg, Int.reduceAdd, Int.reduceSub, Int.reduceMul, if_true, if_false, not_true, not_false_eq_true, false_or, or_false, true_or, or_true, true_and, and_true, false_and, and_false, iI_on, iI_mul, iI_add, iI_sub, iI_neg, ap_if, mp_eq, mz_0, mz_1, mz_b, b2_0, b2_1, iI_lt, iI_le, iI_inj, mb_div, mb_rem, hM.m, hM.a1, hM.a2, hM.a3, hM.a4, hM.a5, hM.a6, hM.a7, hM.a8, hM.a9, hM.a10, hM.a11, hM.a12, hM.a13, hM.a14, hM.a15, hM.a16, hM.a17, hM.a18, hM.a19, hM.a20, hM.a21, hM.a22, hM.a23, hM.a24, hM.a25, hM.a26, hM.a27, hM.a28, hM.l1, hM.l2, hM.l3, hM.l4, hM.l5, hM.l6, hM.l7, hM.l8, hM.l9, hM.l10, hM.l11, hM.l12, hM.l13, hM.l14, hM.l15, hM.l16, hM.l17, hM.l18, hM.l19, hM.l20, hM.l21, hM.l22, hM.l23, hM.l24, hM.l25, hM.l26, hM.l27, hM.l28, hM.c10, hM.c11, hM.c12, hM.c13, hM.c14, hM.c15, hM.c19, hM.c20, hM.c23, hM.c27, hM.c36, hM.c37, hM.c38, hM.c40, hM.c41, hM.c42, hM.c44, mb_eq h0, mb_eq h1, mb_eq h2, mb_eq h3, mb_eq h4, mb_eq h5, mb_eq h6, mb_eq h7, m12_sortHere_p132, m12_sortHere_p32, m12_sortHere_p67, m12_sortHere_p102]
  · subst e; simp (config := { maxSteps := 1000000 }) (disch := first | assumption | exact W.i _ _ | exact sLine_i W _ _ _ | exact W1.i _ _ | exact hg _ _ | exact W3.i _ _ | (refine ⟨?_, ?_⟩ <;> omega) | omega | (simp only [sW_1, sW_2, sW_3, sW_4, sW_5, sW_8] <;> first | assumption | omega | (refine ⟨?_, ?_⟩ <;> omega)) | (simp only [sT_1, sT_2, sT_3, sT_4, sT_5, sT_8] <;> first | assumption | omega | (refine ⟨?_, ?_⟩ <;> omega)) | (simp only [List.length_append, List.length_cons, List.length_nil, Nat.reduceAdd] <;> omega)) only [Int.reduceEq, Int.reduceLT, Int.reduceLE, Int.reduceNeg, Int.reduceAdd, Int.reduceSub, Int.reduceMul, if_true, if_false, not_true, not_false_eq_true, false_or, or_false, true_or, or_true, true_and, and_true, false_and, and_false, iI_on, iI_mul, iI_add, iI_sub, iI_neg, ap_if, mp_eq, mz_0, mz_1, mz_b, b2_0, b2_1, iI_lt, iI_le, iI_inj, mb_div, mb_rem, hM.m, hM.a1, hM.a2, hM.a3, hM.a4, hM.a5, hM.a6, hM.a7, hM.a8, hM.a9, hM.a10, hM.a11, hM.a12, hM.a13, hM.a14, hM.a15, hM.a16, hM.a17, hM.a18, hM.a19, hM.a20, hM.a21, hM.a22, hM.a23, hM.a24, hM.a25, hM.a26, hM.a27, hM.a28, hM.l1, hM.l2, hM.l3, hM.l4, hM.l5, hM.l6, hM.l7, hM.l8, hM.l9, hM.l10, hM.l11, hM.l12, hM.l13, hM.l14, hM.l15, hM.l16, hM.l17, hM.l18, hM.l19, hM.l20, hM.l21, hM.l22, hM.l23, hM.l24, hM.l25, hM.l26, hM.l27, hM.l28, hM.c10, hM.c11, hM.c12, hM.c13, hM.c14, hM.c15, hM.c19, hM.c20, hM.c23, hM.c27, hM.c36, hM.c37, hM.c38, hM.c40, hM.c41, hM.c42, hM.c44, mb_eq h0, mb_eq h1, mb_eq h2, mb_eq h3, mb_eq h4, mb_eq h5, mb_eq h6, mb_eq h7, m12_sortHere_p132, m12_sortHere_p32, m12_sortHere_p67, m12_sortHere_p102]
  · subst e; simp (config := { maxSteps := 1000000 }) (disch := first | assumption | exact W.i _ _ | exact sLine_i W _ _ _ | exact W1.i _ _ | exact hg _ _ | exact W3.i _ _ | (refine ⟨?_, ?_⟩ <;> omega) | omega | (simp only [sW_1, sW_2, sW_3, sW_4, sW_5, sW_8] <;> first | assumption | omega | (refine ⟨?_, ?_⟩ <;> omega)) | (simp only [sT_1, sT_2, sT_3, sT_4, sT_5, sT_8] <;> first | assumption | omega | (refine ⟨?_, ?_⟩ <;> omega)) | (simp only [List.length_append, List.length_cons, List.length_nil, Nat.reduceAdd] <;> omega)) only [Int.reduceEq, Int.reduceLT, Int.reduceLE, Int.reduceNeg, Int.reduceAdd, Int.reduceSub, Int.reduceMul, if_true, if_false, not_true, not_false_eq_true, false_or, or_false, true_or, or_true, true_and, and_true, false_and, and_false, iI_on, iI_mul, iI_add, iI_sub, iI_neg, ap_if, mp_eq, mz_0, mz_1, mz_b, b2_0, b2_1, iI_lt, iI_le, iI_inj, mb_div, mb_rem, hM.m, hM.a1, hM.a2, hM.a3, hM.a4, hM.a5, hM.a6, hM.a7, hM.a8, hM.a9, hM.a10, hM.a11, hM.a12, hM.a13, hM.a14, hM.a15, hM.a16, hM.a17, hM.a18, hM.a19, hM.a20, hM.a21, hM.a22, hM.a23, hM.a24, hM.a25, hM.a26, hM.a27, hM.a28, hM.l1, hM.l2, hM.l3, hM.l4, hM.l5, hM.l6, hM.l7, hM.l8, hM.l9, hM.l10, hM.l11, hM.l12, hM.l13, hM.l14, hM.l15, hM.l16, hM.l17, hM.l18, hM.l19, hM.l20, hM.l21, hM.l22, hM.l23, hM.l24, hM.l25, hM.l26, hM.l27, hM.l28, hM.c10, hM.c11, hM.c12, hM.c13, hM.c14, hM.c15, hM.c19, hM.c20, hM.c23, hM.c27, hM.c36, hM.c37, hM.c38, hM.c40, hM.c41, hM.c42, hM.c44, mb_eq h0, mb_eq h1, mb_eq h2, mb_eq h3, mb_eq h4, mb_eq h5, mb_eq h6, mb_eq h7, m12_sortHere_p132, m12_sortHere_p32, m12_sortHere_p67, m12_sortHere_p102]
  · rw [if_neg e]
    simp (config := { maxSteps := 1000000 }) (disch := first | assumption | exact W.i _ _ | exact sLine_i W _ _ _ | exact W1.i _ _ | exact hg _ _ | exact W3.i _ _ | (refine ⟨?_, ?_⟩ <;> omega) | omega | (simp only [sW_1, sW_2, sW_3, sW_4, sW_5, sW_8] <;> first | assumption | omega | (refine ⟨?_, ?_⟩ <;> omega)) | (simp only [sT_1, sT_2, sT_3, sT_4, sT_5, sT_8] <;> first | assumption | omega | (refine ⟨?_, ?_⟩ <;> omega)) | (simp only [List.length_append, List.length_cons, List.length_nil, Nat.reduceAdd] <;> omega)) only [Int.reduceEq, Int.reduceLT, Int.reduceLE, Int.reduceNeg, Int.reduceAdd, Int.reduceSub, Int.reduceMul, if_true, if_false, not_true, not_false_eq_true, false_or, or_false, true_or, or_true, true_and, and_true, false_and, and_false, iI_on, iI_mul, iI_add, iI_sub, iI_neg, ap_if, mp_eq, mz_0, mz_1, mz_b, b2_0, b2_1, iI_lt, iI_le, iI_inj, mb_div, mb_rem, hM.m, hM.a1, hM.a2, hM.a3, hM.a4, hM.a5, hM.a6, hM.a7, hM.a8, hM.a9, hM.a10, hM.a11, hM.a12, hM.a13, hM.a14, hM.a15, hM.a16, hM.a17, hM.a18, hM.a19, hM.a20, hM.a21, hM.a22, hM.a23, hM.a24, hM.a25, hM.a26, hM.a27, hM.a28, hM.l1, hM.l2, hM.l3, hM.l4, hM.l5, hM.l6, hM.l7, hM.l8, hM.l9, hM.l10, hM.l11, hM.l12, hM.l13, hM.l14, hM.l15, hM.l16, hM.l17, hM.l18, hM.l19, hM.l20, hM.l21, hM.l22, hM.l23, hM.l24, hM.l25, hM.l26, hM.l27, hM.l28, hM.c10, hM.c11, hM.c12, hM.c13, hM.c14, hM.c15, hM.c19, hM.c20, hM.c23, hM.c27, hM.c36, hM.c37, hM.c38, hM.c40, hM.c41, hM.c42, hM.c44, mb_eq h0, mb_eq h1, mb_eq h2, mb_eq h3, mb_eq h4, mb_eq h5, mb_eq h6, mb_eq h7, m12_sortHere_p132, show ¬ C = 1000 by omega, show ¬ C = 1001 by omega, show ¬ C = 1002 by omega, show ¬ C = 1003 by omega, show ¬ C = 1004 by omega, show ¬ C = 1005 by omega, show ¬ C = 1006 by omega, show ¬ C = 1007 by omega]
/-- a line's numbers, where the reference has laid them -/
def LF (c : Int → Int) (k l n0 n6 : Int) (t : Int → Int) : Prop := t (7 * l) = c k - 1000 ∧ t (7 * l + 5) = n0 ∧ t (7 * l + 6) = n6 ∧ (c k ≤ 1001 → t (7 * l + 1) = c (k + 1) ∧ t (7 * l + 2) = c (k + 2)) ∧ (c k = 1002 → t (7 * l + 1) = c (k + 1)) ∧ (c k = 1003 → t (7 * l + 1) = c (k + 1) ∧ t (7 * l + 2) = c (k + 2) ∧ t (7 * l + 3) = c (k + 3) ∧ t (7 * l + 4) = c (k + 5)) ∧ (c k = 1004 ∨ c k = 1005 → t (7 * l + 1) = c (k + 1))
theorem R_line (hM : OKM M h) (B : BR b0) (Q : QR g (-1) k S []) (hl : 0 ≤ l ∧ l < 12) (hS : (S.length : Int) ≤ k) (hk : k ≤ CT b0) : ∃ s', m12_wantLine M (iI l) (mK M (rSt b0 g (-1) k S []) h) = some ((), s') ∧
    ((lnX (CD b0) k).1 = true → ∃ b' g', s' = mK M (rSt b' g' (-1) (lnX (CD b0) k).2 (S ++ (condX (CD b0) k).2.2.1) []) h ∧ QR g' (-1) (lnX (CD b0) k).2 (S ++ (condX (CD b0) k).2.2.1) [] ∧ okG b' ∧ sm l b0 b' ∧ LF (CD b0) k l S.length (condX (CD b0) k).2.2.1.length (b' 11)) ∧
    ((lnX (CD b0) k).1 = false → ∃ b' g' k' S' w', s' = mK M (rSt b' g' (pA0 b0 (lnX (CD b0) k).2) k' S' w') h ∧ QR g' (pA0 b0 (lnX (CD b0) k).2) k' S' w' ∧ okG b' ∧ sm l b0 b') := by
  have h0 := Q.2.2.2.2.1
  have n0 := B.CN.1
  have H := B.CN
  have cb := B.CN.2.2 k h0
  have hsh := R_sortHere (h := h) hM B Q
  by_cases c1 : 1000 ≤ CD b0 k ∧ CD b0 k ≤ 1007
  · rw [if_pos c1] at hsh
    have kN : k < CT b0 := by
      rcases Int.lt_or_le k (CT b0) with q | q
      · exact q
      · have := B.CN.2.1 _ q; omega
    have ha := R_advance (h := h) hM B Q
    have g1 : okG (s3 (s3 b0 11 (7 * l) (CD b0 k - 1000)) 11 (7 * l + 5) (S.length : Int)) := (okG.s B.1 ⟨by omega, by omega⟩).s ⟨by omega, by omega⟩
    have H0 : St M b0 l h (true, k + 1) S [(7 * l + 5, (S.length : Int)), (7 * l, CD b0 k - 1000)] (mK M (rSt (s3 (s3 b0 11 (7 * l) (CD b0 k - 1000)) 11 (7 * l + 5) (S.length : Int)) g (-1) (k + 1) S []) h) := by
      refine ⟨fun _ => ⟨_, g, rfl, Q.nx, g1, (sm.rf.st ⟨by omega, by omega⟩).st ⟨by omega, by omega⟩, fun p hp => ?_⟩, fun z => by cases z⟩
      rcases List.mem_cons.mp hp with e | e
      · rw [e]; exact s3_at _ _ _ _
      · rw [List.mem_singleton.mp e]
        show s3 (s3 b0 11 (7 * l) (CD b0 k - 1000)) 11 (7 * l + 5) _ 11 (7 * l) = _
        rw [s3_nj (by omega), s3_at]
    have hx0 : okX (CT b0) (true, k + 1) := ⟨by dsimp only; omega, by dsimp only; omega⟩
    have start : ∀ r, (if CD b0 k - 1000 = 0 then (m12_wantLine_p96 M (iI (7 * l))) else if CD b0 k - 1000 = 1 then (m12_wantLine_p96 M (iI (7 * l))) else if CD b0 k - 1000 = 2 then (mb (gGetR [11] M 16) fun r29 => (mb (mv [11] M (m12_wantNumber M 0 90)) fun x30 => (mb (gStI 100 r29 (iI (7 * l) + 1) x30) fun _ => (m12_wantLine_p269 M (iI (7 * l)))))) else if CD b0 k - 1000 = 3 then (mb (gGetR [11] M 16) fun r18 => (mb (mv [11] M (m12_wantNumber M 0 4)) fun x19 => (mb (gStI 100 r18 (iI (7 * l) + 1) x19) fun _ => (mb (gGetR [11] M 16) fun r20 => (mb (mv [11] M (m12_wantNumber M 0 3)) fun x21 => (mb (gStI 100 r20 (iI (7 * l) + 2) x21) fun _ => (mb (gGetR [11] M 16) fun r22 => (mb (mv [11] M (m12_wantNumber M 0 240)) fun x23 => (mb (gStI 100 r22 (iI (7 * l) + 3) x23) fun _ => (mb (mv [11] M (m12_isWord M 555)) fun x24 => (mb (mv [11] M (m12_want M x24)) fun _ => (mb (gGetR [11] M 16) fun r25 => (mb (gGetR [11] M 16) fun r26 => (mb (gLdI 100 r26 (iI (7 * l) + 3)) fun x27 => (mb (mv [11] M (m12_wantNumber M x27 240)) fun x28 => (mb (gStI 100 r25 (iI (7 * l) + 4) x28) fun _ => (m12_wantLine_p269 M (iI (7 * l)))))))))))))))))))
        else if CD b0 k - 1000 = 7 then (m12_wantLine_p269 M (iI (7 * l))) else (m12_wantLine_p230 M (iI (CD b0 k - 1000)) (iI (7 * l))) : gM Unit) (mK M (rSt (s3 (s3 b0 11 (7 * l) (CD b0 k - 1000)) 11 (7 * l + 5) (S.length : Int)) g (-1) (k + 1) S []) h) = r → m12_wantLine M (iI l) (mK M (rSt b0 g (-1) k S []) h) = r := by
      intro r hr
      rw [← hr]
      unfold m12_wantLine
      have := c1.1
      have := c1.2
      simp (config := { maxSteps := 1000000 }) (disch := first | assumption | exact W.i _ _ | exact sLine_i W _ _ _ | exact W1.i _ _ | exact hg _ _ | exact W3.i _ _ | (refine ⟨?_, ?_⟩ <;> omega) | omega | (simp only [sW_1, sW_2, sW_3, sW_4, sW_5, sW_8] <;> first | assumption | omega | (refine ⟨?_, ?_⟩ <;> omega)) | (simp only [sT_1, sT_2, sT_3, sT_4, sT_5, sT_8] <;> first | assumption | omega | (refine ⟨?_, ?_⟩ <;> omega)) | (simp only [List.length_append, List.length_cons, List.length_nil, Nat.reduceAdd] <;> omega)) only [Int.reduceEq, Int.reduceLT, Int.reduceLE, Int.reduceNeg, Int.reduceAdd, Int.reduceSub, Int.reduceMul, if_true, if_false, not_true, not_false_eq_true, false_or, or_false, true_or, or_true, true_and, and_true, false_and, and_false, iI_on, iI_mul, iI_add, iI_sub, iI_neg, ap_if, mp_eq, mz_0, mz_1, mz_b, b2_0, b2_1, iI_lt, iI_le, iI_inj, mb_div, mb_rem, hM.m, hM.a1, hM.a2, hM.a3, hM.a4, hM.a5, hM.a6, hM.a7, hM.a8, hM.a9, hM.a10, hM.a11, hM.a12, hM.a13, hM.a14, hM.a15, hM.a16, hM.a17, hM.a18, hM.a19, hM.a20, hM.a21, hM.a22, hM.a23, hM.a24, hM.a25, hM.a26, hM.a27, hM.a28, hM.l1, hM.l2, hM.l3, hM.l4, hM.l5, hM.l6, hM.l7, hM.l8, hM.l9, hM.l10, hM.l11, hM.l12, hM.l13, hM.l14, hM.l15, hM.l16, hM.l17, hM.l18, hM.l19, hM.l20, hM.l21, hM.l22, hM.l23, hM.l24, hM.l25, hM.l26, hM.l27, hM.l28, hM.c10, hM.c11, hM.c12, hM.c13, hM.c14, hM.c15, hM.c19, hM.c20, hM.c23, hM.c27, hM.c36, hM.c37, hM.c38, hM.c40, hM.c41, hM.c42, hM.c44, hM.w1, hM.w2, hM.w3, hM.w4, hM.w5, hM.w6, hM.w7, hM.w8, hM.w9, hM.w10, hM.w11, hM.w12, hM.w13, hM.w14, hM.w15, hM.w16, hM.w17, hM.w18, hM.w19, hM.w20, hM.w21, hM.w22, hM.w23, hM.w24, hM.w25, hM.w26, hM.w27, hM.w28, hM.p10, hM.p11, hM.p12, hM.p13, hM.p14, hM.p15, hM.p19, hM.p20, hM.p23, hM.p27, hM.p36, hM.p37, hM.p38, hM.p40, hM.p41, hM.p42, hM.p44, s3_at, s3_nk, s3_nj, mb_eq hsh, show ¬ CD b0 k - 1000 < 0 by omega, show ¬ l = 12 by omega, mb_eq ha, hM.sc 19, rSt_19, rSt_11w]
      sorry
    sorry
  · sorry
end RLINE2

/-! ===== a call on both: act ===== -/
section ACT4
variable {M : Nat} {sg rho : Nat → Int → Int} {h : gH} {p : Nat} {n a k : Int}
def lA (w k : Int) : List Int := if w = 0 then wL k else if w = 1 then bL k else if w = 2 then pL k else tL k
def vA (w k : Int) (n a v : Int32) : Int32 := if w = 0 then vW k n a v else if w = 1 then vB k n a v else if w = 2 then (if a = n then -15 else vP k n a v) else vT k n a v
def okB (l : List Int) : Bool := decide (l.length ≤ 12) && l.all fun b => decide (0 ≤ b) && decide (b ≤ 100)
theorem lA_ok (w k : Int) (hk : 1 ≤ k ∧ k ≤ 6) (hw : 0 ≤ w ∧ w ≤ 3) : okB (lA w k) = true := by
  have q1 : k = 1 ∨ k = 2 ∨ k = 3 ∨ k = 4 ∨ k = 5 ∨ k = 6 := by omega
  have q2 : w = 0 ∨ w = 1 ∨ w = 2 ∨ w = 3 := by omega
  rcases q1 with rfl | rfl | rfl | rfl | rfl | rfl <;> rcases q2 with rfl | rfl | rfl | rfl <;> rfl
theorem okB_n {l : List Int} (h : okB l = true) : l.length ≤ 12 := by
  unfold okB at h
  rw [Bool.and_eq_true, decide_eq_true_eq] at h
  exact h.1
theorem okB_i {l : List Int} (h : okB l = true) : ∀ b, b ∈ l → i32 b := by
  unfold okB at h
  rw [Bool.and_eq_true, List.all_eq_true] at h
  intro b hb
  have := h.2 b hb
  rw [Bool.and_eq_true, decide_eq_true_eq, decide_eq_true_eq] at this
  omega
/-- both, after an act -/
theorem act_inv (I : Inv sg rho h) {sg' rho' : Nat → Int → Int} {L : List Int} (hL : okB L = true) (hs : okG sg') (hr : okG rho') (e1 : ∀ q, q ≠ 0 → q ≠ 27 → sg' q = sg q) (e2 : sg' 0 10 = sg 0 10 ∧ sg' 0 42 = sg 0 42 ∧ sg' 0 27 = sg 0 27) (e3 : sg' 0 40 = L.length) (e4 : ∀ j, 0 ≤ j → j < (L.length : Int) → sg' 27 j = L.getD j.toNat 0) (f1 : ∀ q, q ≠ 40 → q ≠ 41 → rho' q = rho q) (f3 : rho' 40 1 = L.length) (f4 : ∀ j, 0 ≤ j → j < (L.length : Int) → rho' 41 j = L.getD j.toNat 0) : CI sg' rho' h ∧ WD sg' ∧ WX sg' ∧ WY sg' := by
  have ln := okB_n hL
  obtain ⟨x1, x2, x3, x4, x5⟩ := I.1.2.2.2.2.2.2
  refine ⟨I.1.ho (fun q q0 q1 => e1 q (by omega) (by omega)) (e1 28 (by omega) (by omega)) e2.2.1 (fun q hq => f1 q (by omega) (by omega)) hr ?_ ?_ ?_ ?_ ?_, I.2.1.c9 (fun q q0 q1 => e1 q (by omega) (by omega)) hs, ?_, I.2.2.2.1.o ⟨e2.1, e2.2.1⟩ (fun q q0 q1 => e1 q (by omega) (by omega)) (e1 14 (by omega) (by omega)) (e1 28 (by omega) (by omega))⟩
  · unfold XR
    rw [e2.2.2, e1 19 (by omega) (by omega), f1 38 (by omega) (by omega), f1 39 (by omega) (by omega)]; exact x1
  · unfold XT
    rw [e2.1, e1 10 (by omega) (by omega), f1 29 (by omega) (by omega), f1 35 (by omega) (by omega)]; exact x2
  · intro t t0 t1
    rw [e1 21 (by omega) (by omega), e1 22 (by omega) (by omega), e1 23 (by omega) (by omega), f1 47 (by omega) (by omega), f1 48 (by omega) (by omega), f1 (43 + t.toNat) (by omega) (by omega)]
    exact x3 t t0 t1
  · unfold XH
    rw [e1 24 (by omega) (by omega), e1 25 (by omega) (by omega), e1 26 (by omega) (by omega), f1 49 (by omega) (by omega), f1 50 (by omega) (by omega), f1 51 (by omega) (by omega), f1 52 (by omega) (by omega)]; exact x4
  · unfold XB
    rw [e3, f3, f1 54 (by omega) (by omega)]
    exact ⟨rfl, fun j j0 j1 => (f4 j j0 j1).trans (e4 j j0 j1).symm, x5.2.2⟩
  · obtain ⟨w1, w2, w3, w4⟩ := I.2.2.1
    refine ⟨by rw [e2.2.2]; exact w1, ?_, ?_, by rw [e3]; omega⟩
    · rw [e1 21 (by omega) (by omega), e1 22 (by omega) (by omega)]; exact w2
    · rw [e1 24 (by omega) (by omega)]; exact w3
/-- nothing run -/
def clC (rho : Nat → Int → Int) : Nat → Int → Int := s3 (s3 rho 40 1 0) 40 2 0
def clB (sg : Nat → Int → Int) : Nat → Int → Int := s3 sg 0 40 0
theorem clC_o {q : Nat} (h0 : q ≠ 40) : clC rho q = rho q := by unfold clC; rw [s3_o h0, s3_o h0]
theorem clC_1 : clC rho 40 1 = 0 := by unfold clC; rw [s3_nj (by omega), s3_at]
theorem clC_2 : clC rho 40 2 = 0 := s3_at _ _ _ _
theorem C_clear (hC : OKC h) : m9_clear 40 (cK rho h) = some ((), cK (clC rho) h) := by
  unfold m9_clear clC
  simp (config := { maxSteps := 1000000 }) (disch := first | assumption | exact W.i _ _ | exact sLine_i W _ _ _ | exact W1.i _ _ | exact hg _ _ | exact W3.i _ _ | (refine ⟨?_, ?_⟩ <;> omega) | omega | (simp only [sW_1, sW_2, sW_3, sW_4, sW_5, sW_8] <;> first | assumption | omega | (refine ⟨?_, ?_⟩ <;> omega)) | (simp only [sT_1, sT_2, sT_3, sT_4, sT_5, sT_8] <;> first | assumption | omega | (refine ⟨?_, ?_⟩ <;> omega)) | (simp only [List.length_append, List.length_cons, List.length_nil, Nat.reduceAdd] <;> omega)) only [Int.reduceEq, Int.reduceLT, Int.reduceLE, Int.reduceNeg, Int.reduceAdd, Int.reduceSub, Int.reduceMul, if_true, if_false, not_true, not_false_eq_true, false_or, or_false, true_or, or_true, true_and, and_true, false_and, and_false, iI_on, iI_mul, iI_add, iI_sub, iI_neg, ap_if, mp_eq, mz_0, mz_1, mz_b, b2_0, b2_1, iI_lt, iI_le, iI_inj, mb_div, mb_rem, hC.m0, hC.m1, hC.m13, hC.m15, hC.m27, hC.m29, hC.m38, hC.m40, hC.g0_0, hC.g0_1, hC.g0_3, hC.g0_4, hC.g0_5, hC.g0_6, hC.g0_7, hC.g0_8, hC.g0_9, hC.g0_10, hC.g0_11, hC.g0_12, hC.g0_13, hC.g0_14, hC.g1_2, hC.g1_3, hC.g1_5, hC.g1_7, hC.g1_9, hC.g1_11, hC.g1_12, hC.g1_14, hC.g1_15, hC.g1_16, hC.g1_17, hC.g1_18, hC.g13_0, hC.g15_2, hC.g15_3, hC.g15_5, hC.g15_7, hC.g15_9, hC.g15_11, hC.g15_12, hC.g15_14, hC.g15_15, hC.g15_16, hC.g15_17, hC.g15_18, hC.g27_0, hC.g29_3, hC.g29_4, hC.g29_5, hC.g29_6, hC.g29_7, hC.g29_8, hC.g29_9, hC.g29_10, hC.g38_0, hC.g40_0, hC.s0_2, hC.s1_0, hC.s1_1, hC.s1_4, hC.s1_6, hC.s1_8, hC.s1_10, hC.s1_13, hC.s13_1, hC.s15_0, hC.s15_1, hC.s15_4, hC.s15_6, hC.s15_8, hC.s15_10, hC.s15_13, hC.s27_1, hC.s29_0, hC.s29_1, hC.s29_2, hC.s29_11, hC.s29_12, hC.s38_1, hC.s40_1, hC.s40_2, hC.l2, hC.l3, hC.l8, hC.l9, hC.l10, hC.l11, hC.l12, hC.l14, hC.l16, hC.l17, hC.l22, hC.l23, hC.l24, hC.l25, hC.l26, hC.l28, hC.l30, hC.l31, hC.l32, hC.l33, hC.l34, hC.l36, hC.l37, hC.l39, hC.l41, hC.l43, hC.l44, hC.l45, hC.l46, hC.l47, hC.l48, hC.l49, hC.l50, hC.l51, hC.l52, hC.l53, hC.l54, hC.l35, hC.n33, hC.n36, hC.p0_2, hC.p1_0, hC.p1_1, hC.p1_4, hC.p1_6, hC.p1_8, hC.p1_10, hC.p1_13, hC.p13_1, hC.p15_0, hC.p15_1, hC.p15_4, hC.p15_6, hC.p15_8, hC.p15_10, hC.p15_13, hC.p27_1, hC.p29_0, hC.p29_1, hC.p29_2, hC.p29_11, hC.p29_12, hC.p38_1, hC.p40_1, hC.p40_2, hC.w2, hC.w3, hC.w8, hC.w9, hC.w10, hC.w11, hC.w12, hC.w14, hC.w16, hC.w17, hC.w22, hC.w23, hC.w24, hC.w25, hC.w26, hC.w28, hC.w30, hC.w31, hC.w32, hC.w33, hC.w34, hC.w36, hC.w37, hC.w39, hC.w41, hC.w43, hC.w44, hC.w45, hC.w46, hC.w47, hC.w48, hC.w49, hC.w50, hC.w51, hC.w52, hC.w53, hC.w54, s3_at, s3_nk, s3_nj, gPutZ_b]
theorem cl_CI (I : Inv sg rho h) : CI (clB sg) (clC rho) h ∧ WD (clB sg) ∧ WX (clB sg) ∧ WY (clB sg) :=
  act_inv I (L := []) rfl (okG.s I.2.1.i ⟨by omega, by omega⟩) ((I.1.2.2.1.s ⟨by omega, by omega⟩).s ⟨by omega, by omega⟩) (fun q q0 q1 => s3_o q0) ⟨s3_nj (by omega), s3_nj (by omega), s3_nj (by omega)⟩ (s3_at _ _ _ _) (fun j j0 j1 => by simp at j1; omega) (fun q q0 q1 => clC_o q0) clC_1 (fun j j0 j1 => by simp at j1; omega)
theorem cnL_2 (l : List Int) : cnL rho l 40 2 = rho 40 2 := by
  unfold cnL
  rw [s3_nj (by omega), if_neg (fun c => absurd c.1 (by omega))]
theorem C_end0 (hC : OKC h) {v : Int32} {r : Nat → Int → Int} (e : r 40 2 = 0) : m11_act_p123 0 v (cK r h) = some (v, cK r h) := by
  unfold m11_act_p123 m11_act_p140
  simp (config := { maxSteps := 1000000 }) (disch := first | assumption | exact W.i _ _ | exact sLine_i W _ _ _ | exact W1.i _ _ | exact hg _ _ | exact W3.i _ _ | (refine ⟨?_, ?_⟩ <;> omega) | omega | (simp only [sW_1, sW_2, sW_3, sW_4, sW_5, sW_8] <;> first | assumption | omega | (refine ⟨?_, ?_⟩ <;> omega)) | (simp only [sT_1, sT_2, sT_3, sT_4, sT_5, sT_8] <;> first | assumption | omega | (refine ⟨?_, ?_⟩ <;> omega)) | (simp only [List.length_append, List.length_cons, List.length_nil, Nat.reduceAdd] <;> omega)) only [Int.reduceEq, Int.reduceLT, Int.reduceLE, Int.reduceNeg, Int.reduceAdd, Int.reduceSub, Int.reduceMul, if_true, if_false, not_true, not_false_eq_true, false_or, or_false, true_or, or_true, true_and, and_true, false_and, and_false, iI_on, iI_mul, iI_add, iI_sub, iI_neg, ap_if, mp_eq, mz_0, mz_1, mz_b, b2_0, b2_1, iI_lt, iI_le, iI_inj, mb_div, mb_rem, hC.m0, hC.m1, hC.m13, hC.m15, hC.m27, hC.m29, hC.m38, hC.m40, hC.g0_0, hC.g0_1, hC.g0_3, hC.g0_4, hC.g0_5, hC.g0_6, hC.g0_7, hC.g0_8, hC.g0_9, hC.g0_10, hC.g0_11, hC.g0_12, hC.g0_13, hC.g0_14, hC.g1_2, hC.g1_3, hC.g1_5, hC.g1_7, hC.g1_9, hC.g1_11, hC.g1_12, hC.g1_14, hC.g1_15, hC.g1_16, hC.g1_17, hC.g1_18, hC.g13_0, hC.g15_2, hC.g15_3, hC.g15_5, hC.g15_7, hC.g15_9, hC.g15_11, hC.g15_12, hC.g15_14, hC.g15_15, hC.g15_16, hC.g15_17, hC.g15_18, hC.g27_0, hC.g29_3, hC.g29_4, hC.g29_5, hC.g29_6, hC.g29_7, hC.g29_8, hC.g29_9, hC.g29_10, hC.g38_0, hC.g40_0, hC.s0_2, hC.s1_0, hC.s1_1, hC.s1_4, hC.s1_6, hC.s1_8, hC.s1_10, hC.s1_13, hC.s13_1, hC.s15_0, hC.s15_1, hC.s15_4, hC.s15_6, hC.s15_8, hC.s15_10, hC.s15_13, hC.s27_1, hC.s29_0, hC.s29_1, hC.s29_2, hC.s29_11, hC.s29_12, hC.s38_1, hC.s40_1, hC.s40_2, hC.l2, hC.l3, hC.l8, hC.l9, hC.l10, hC.l11, hC.l12, hC.l14, hC.l16, hC.l17, hC.l22, hC.l23, hC.l24, hC.l25, hC.l26, hC.l28, hC.l30, hC.l31, hC.l32, hC.l33, hC.l34, hC.l36, hC.l37, hC.l39, hC.l41, hC.l43, hC.l44, hC.l45, hC.l46, hC.l47, hC.l48, hC.l49, hC.l50, hC.l51, hC.l52, hC.l53, hC.l54, hC.l35, hC.n33, hC.n36, hC.p0_2, hC.p1_0, hC.p1_1, hC.p1_4, hC.p1_6, hC.p1_8, hC.p1_10, hC.p1_13, hC.p13_1, hC.p15_0, hC.p15_1, hC.p15_4, hC.p15_6, hC.p15_8, hC.p15_10, hC.p15_13, hC.p27_1, hC.p29_0, hC.p29_1, hC.p29_2, hC.p29_11, hC.p29_12, hC.p38_1, hC.p40_1, hC.p40_2, hC.w2, hC.w3, hC.w8, hC.w9, hC.w10, hC.w11, hC.w12, hC.w14, hC.w16, hC.w17, hC.w22, hC.w23, hC.w24, hC.w25, hC.w26, hC.w28, hC.w30, hC.w31, hC.w32, hC.w33, hC.w34, hC.w36, hC.w37, hC.w39, hC.w41, hC.w43, hC.w44, hC.w45, hC.w46, hC.w47, hC.w48, hC.w49, hC.w50, hC.w51, hC.w52, hC.w53, hC.w54, s3_at, s3_nk, s3_nj, e]
theorem C_end1 (hC : OKC h) {v : Int32} {r : Nat → Int → Int} (e : r 40 2 = 1) : m11_act_p123 0 v (cK r h) = some (-15, cK r h) := by
  unfold m11_act_p123 m11_act_p140
  simp (config := { maxSteps := 1000000 }) (disch := first | assumption | exact W.i _ _ | exact sLine_i W _ _ _ | exact W1.i _ _ | exact hg _ _ | exact W3.i _ _ | (refine ⟨?_, ?_⟩ <;> omega) | omega | (simp only [sW_1, sW_2, sW_3, sW_4, sW_5, sW_8] <;> first | assumption | omega | (refine ⟨?_, ?_⟩ <;> omega)) | (simp only [sT_1, sT_2, sT_3, sT_4, sT_5, sT_8] <;> first | assumption | omega | (refine ⟨?_, ?_⟩ <;> omega)) | (simp only [List.length_append, List.length_cons, List.length_nil, Nat.reduceAdd] <;> omega)) only [Int.reduceEq, Int.reduceLT, Int.reduceLE, Int.reduceNeg, Int.reduceAdd, Int.reduceSub, Int.reduceMul, if_true, if_false, not_true, not_false_eq_true, false_or, or_false, true_or, or_true, true_and, and_true, false_and, and_false, iI_on, iI_mul, iI_add, iI_sub, iI_neg, ap_if, mp_eq, mz_0, mz_1, mz_b, b2_0, b2_1, iI_lt, iI_le, iI_inj, mb_div, mb_rem, hC.m0, hC.m1, hC.m13, hC.m15, hC.m27, hC.m29, hC.m38, hC.m40, hC.g0_0, hC.g0_1, hC.g0_3, hC.g0_4, hC.g0_5, hC.g0_6, hC.g0_7, hC.g0_8, hC.g0_9, hC.g0_10, hC.g0_11, hC.g0_12, hC.g0_13, hC.g0_14, hC.g1_2, hC.g1_3, hC.g1_5, hC.g1_7, hC.g1_9, hC.g1_11, hC.g1_12, hC.g1_14, hC.g1_15, hC.g1_16, hC.g1_17, hC.g1_18, hC.g13_0, hC.g15_2, hC.g15_3, hC.g15_5, hC.g15_7, hC.g15_9, hC.g15_11, hC.g15_12, hC.g15_14, hC.g15_15, hC.g15_16, hC.g15_17, hC.g15_18, hC.g27_0, hC.g29_3, hC.g29_4, hC.g29_5, hC.g29_6, hC.g29_7, hC.g29_8, hC.g29_9, hC.g29_10, hC.g38_0, hC.g40_0, hC.s0_2, hC.s1_0, hC.s1_1, hC.s1_4, hC.s1_6, hC.s1_8, hC.s1_10, hC.s1_13, hC.s13_1, hC.s15_0, hC.s15_1, hC.s15_4, hC.s15_6, hC.s15_8, hC.s15_10, hC.s15_13, hC.s27_1, hC.s29_0, hC.s29_1, hC.s29_2, hC.s29_11, hC.s29_12, hC.s38_1, hC.s40_1, hC.s40_2, hC.l2, hC.l3, hC.l8, hC.l9, hC.l10, hC.l11, hC.l12, hC.l14, hC.l16, hC.l17, hC.l22, hC.l23, hC.l24, hC.l25, hC.l26, hC.l28, hC.l30, hC.l31, hC.l32, hC.l33, hC.l34, hC.l36, hC.l37, hC.l39, hC.l41, hC.l43, hC.l44, hC.l45, hC.l46, hC.l47, hC.l48, hC.l49, hC.l50, hC.l51, hC.l52, hC.l53, hC.l54, hC.l35, hC.n33, hC.n36, hC.p0_2, hC.p1_0, hC.p1_1, hC.p1_4, hC.p1_6, hC.p1_8, hC.p1_10, hC.p1_13, hC.p13_1, hC.p15_0, hC.p15_1, hC.p15_4, hC.p15_6, hC.p15_8, hC.p15_10, hC.p15_13, hC.p27_1, hC.p29_0, hC.p29_1, hC.p29_2, hC.p29_11, hC.p29_12, hC.p38_1, hC.p40_1, hC.p40_2, hC.w2, hC.w3, hC.w8, hC.w9, hC.w10, hC.w11, hC.w12, hC.w14, hC.w16, hC.w17, hC.w22, hC.w23, hC.w24, hC.w25, hC.w26, hC.w28, hC.w30, hC.w31, hC.w32, hC.w33, hC.w34, hC.w36, hC.w37, hC.w39, hC.w41, hC.w43, hC.w44, hC.w45, hC.w46, hC.w47, hC.w48, hC.w49, hC.w50, hC.w51, hC.w52, hC.w53, hC.w54, s3_at, s3_nk, s3_nj, e]
theorem B_end0 (hM : OKM M h) {v : Int32} (e : sg 0 41 = 0) : m12_act_p120 M v (mK M sg h) = some (v, mK M sg h) := by
  unfold m12_act_p120 m12_act_p136
  simp (config := { maxSteps := 1000000 }) (disch := first | assumption | exact W.i _ _ | exact sLine_i W _ _ _ | exact W1.i _ _ | exact hg _ _ | exact W3.i _ _ | (refine ⟨?_, ?_⟩ <;> omega) | omega | (simp only [sW_1, sW_2, sW_3, sW_4, sW_5, sW_8] <;> first | assumption | omega | (refine ⟨?_, ?_⟩ <;> omega)) | (simp only [sT_1, sT_2, sT_3, sT_4, sT_5, sT_8] <;> first | assumption | omega | (refine ⟨?_, ?_⟩ <;> omega)) | (simp only [List.length_append, List.length_cons, List.length_nil, Nat.reduceAdd] <;> omega)) only [Int.reduceEq, Int.reduceLT, Int.reduceLE, Int.reduceNeg, Int.reduceAdd, Int.reduceSub, Int.reduceMul, if_true, if_false, not_true, not_false_eq_true, false_or, or_false, true_or, or_true, true_and, and_true, false_and, and_false, iI_on, iI_mul, iI_add, iI_sub, iI_neg, ap_if, mp_eq, mz_0, mz_1, mz_b, b2_0, b2_1, iI_lt, iI_le, iI_inj, mb_div, mb_rem, hM.m, hM.a1, hM.a2, hM.a3, hM.a4, hM.a5, hM.a6, hM.a7, hM.a8, hM.a9, hM.a10, hM.a11, hM.a12, hM.a13, hM.a14, hM.a15, hM.a16, hM.a17, hM.a18, hM.a19, hM.a20, hM.a21, hM.a22, hM.a23, hM.a24, hM.a25, hM.a26, hM.a27, hM.a28, hM.l1, hM.l2, hM.l3, hM.l4, hM.l5, hM.l6, hM.l7, hM.l8, hM.l9, hM.l10, hM.l11, hM.l12, hM.l13, hM.l14, hM.l15, hM.l16, hM.l17, hM.l18, hM.l19, hM.l20, hM.l21, hM.l22, hM.l23, hM.l24, hM.l25, hM.l26, hM.l27, hM.l28, hM.c10, hM.c11, hM.c12, hM.c13, hM.c14, hM.c15, hM.c19, hM.c20, hM.c23, hM.c27, hM.c36, hM.c37, hM.c38, hM.c40, hM.c41, hM.c42, hM.c44, e]
theorem B_end1 (hM : OKM M h) {v : Int32} (e : sg 0 41 = 1) : m12_act_p120 M v (mK M sg h) = some (-15, mK M sg h) := by
  unfold m12_act_p120 m12_act_p136
  simp (config := { maxSteps := 1000000 }) (disch := first | assumption | exact W.i _ _ | exact sLine_i W _ _ _ | exact W1.i _ _ | exact hg _ _ | exact W3.i _ _ | (refine ⟨?_, ?_⟩ <;> omega) | omega | (simp only [sW_1, sW_2, sW_3, sW_4, sW_5, sW_8] <;> first | assumption | omega | (refine ⟨?_, ?_⟩ <;> omega)) | (simp only [sT_1, sT_2, sT_3, sT_4, sT_5, sT_8] <;> first | assumption | omega | (refine ⟨?_, ?_⟩ <;> omega)) | (simp only [List.length_append, List.length_cons, List.length_nil, Nat.reduceAdd] <;> omega)) only [Int.reduceEq, Int.reduceLT, Int.reduceLE, Int.reduceNeg, Int.reduceAdd, Int.reduceSub, Int.reduceMul, if_true, if_false, not_true, not_false_eq_true, false_or, or_false, true_or, or_true, true_and, and_true, false_and, and_false, iI_on, iI_mul, iI_add, iI_sub, iI_neg, ap_if, mp_eq, mz_0, mz_1, mz_b, b2_0, b2_1, iI_lt, iI_le, iI_inj, mb_div, mb_rem, hM.m, hM.a1, hM.a2, hM.a3, hM.a4, hM.a5, hM.a6, hM.a7, hM.a8, hM.a9, hM.a10, hM.a11, hM.a12, hM.a13, hM.a14, hM.a15, hM.a16, hM.a17, hM.a18, hM.a19, hM.a20, hM.a21, hM.a22, hM.a23, hM.a24, hM.a25, hM.a26, hM.a27, hM.a28, hM.l1, hM.l2, hM.l3, hM.l4, hM.l5, hM.l6, hM.l7, hM.l8, hM.l9, hM.l10, hM.l11, hM.l12, hM.l13, hM.l14, hM.l15, hM.l16, hM.l17, hM.l18, hM.l19, hM.l20, hM.l21, hM.l22, hM.l23, hM.l24, hM.l25, hM.l26, hM.l27, hM.l28, hM.c10, hM.c11, hM.c12, hM.c13, hM.c14, hM.c15, hM.c19, hM.c20, hM.c23, hM.c27, hM.c36, hM.c37, hM.c38, hM.c40, hM.c41, hM.c42, hM.c44, e]
def fC (w n a : Int) (rho : Nat → Int → Int) : Nat → Int → Int := if w = 2 then flP rho n a else rho
def fB (w n a : Int) (sg : Nat → Int → Int) : Nat → Int → Int := if w = 2 then flB sg n a else sg
theorem iI_ne {x c : Int} (hx : i32 x) (hc : i32 c) (h : x ≠ c) : ¬ iI x = iI c := fun q => h ((iI_inj hx hc).mp q)
theorem C_actP (hC : OKC h) (P : Pap h p k n a) {w : Int} (hw : 0 ≤ w ∧ w ≤ 3) {v : Int32} {r : Nat → Int → Int} (e1 : r 40 1 = 0) (e2 : r 40 2 = 0) :
    (if iI w = 0 then (mb (gGetR [10] 0 5) fun r14 => (mb (gVk p [(0, m0_weighs p v r14), (2, m2_weighs p v r14), (3, m6_weighs p v r14), (4, m6_weighs p v r14), (7, m6_weighs p v r14), (9, m0_weighs p v r14)]) fun x15 => (m11_act_p123 0 x15))) else (if iI w = 1 then (mb (gGetR [10] 0 5) fun r12 => (mb (gVk p [(0, m6_bars p v r12), (2, m8_bars p v r12), (3, m6_bars p v r12), (4, m6_bars p v r12), (7, m8_bars p v r12), (9, m10_bars p v r12)]) fun x13 => (m11_act_p123 0 x13))) else (if iI w = 2 then (mb (gGetR [10] 0 5) fun r10 => (mb (gVk p [(0, m6_parts p v r10), (2, m2_parts p v r10), (3, m3_parts p v r10), (4, m6_parts p v r10), (7, m6_parts p v r10), (9, m6_parts p v r10)]) fun x11 => (m11_act_p123 0 x11))) else (if iI w = 3 then (mb (gGetR [10] 0 5) fun r8 => (mb (gVk p [(0, m6_tells p v r8), (2, m6_tells p v r8), (3, m3_tells p v r8), (4, m4_tells p v r8), (7, m6_tells p v r8), (9, m6_tells p v r8)]) fun x9 => (m11_act_p123 0 x9))) else (m11_act_p123 0 0))))) (cK r h) = some (vA w k (iI n) (iI a) v, cK (fC w n a (cnL r (lA w k))) h) := by
  have q25 : ([] : List Int).length < 25 := by decide
  have q20 : ([] : List Int).length < 20 := by decide
  have f0 : ∀ l, cnL r l 40 2 = 0 := fun l => (cnL_2 l).trans e2
  rw [← cnL_nil e1]
  have : w = 0 ∨ w = 1 ∨ w = 2 ∨ w = 3 := by omega
  rcases this with rfl | rfl | rfl | rfl
  · rw [ap_if, if_pos (show iI 0 = 0 from rfl), hC.g0_5, C_W hC P q25, C_end0 hC (f0 _), cnL_nil e1]
    rfl
  · rw [ap_if, if_neg (show ¬ iI 1 = 0 by decide), ap_if, if_pos (show iI 1 = 1 from rfl), hC.g0_5, C_B hC P q20, C_end0 hC (f0 _), cnL_nil e1]
    rfl
  · rw [ap_if, if_neg (show ¬ iI 2 = 0 by decide), ap_if, if_neg (show ¬ iI 2 = 1 by decide), ap_if, if_pos (show iI 2 = 2 from rfl), hC.g0_5, C_P hC P]
    unfold vA lA fC flP
    by_cases c : iI a = iI n
    · rw [if_pos c, C_end1 hC (s3_at _ _ _ _)]
      simp only [Int.reduceEq, if_false, if_true, if_pos c]
      rw [cnL_nil e1]
    · rw [if_neg c, C_end0 hC (f0 _)]
      simp only [Int.reduceEq, if_false, if_true, if_neg c]
      rw [cnL_nil e1]
  · rw [ap_if, if_neg (show ¬ iI 3 = 0 by decide), ap_if, if_neg (show ¬ iI 3 = 1 by decide), ap_if, if_neg (show ¬ iI 3 = 2 by decide), ap_if, if_pos (show iI 3 = 3 from rfl), hC.g0_5, C_T hC P, C_end0 hC (f0 _)]
    unfold vA lA fC
    simp only [Int.reduceEq, if_false]
    rw [cnL_nil e1]
theorem T_act (I : Inv sg rho h) {s w : Int} {v : Int32} (hs : i32 s) (hw : i32 w) : Both (m11_act 0 (iI s) (iI w) v) (m12_act 55 (iI s) (iI w) v) rho h := by
  have hC := I.1.1
  have W := I.2.1
  have X := I.2.2.1
  obtain ⟨C0, W0, X0, Y0⟩ := cl_CI I
  have R0 := C0.2.2.2.2.1
  have x40 := C0.2.2.2.2.2.2.2.2.2.1
  by_cases c : (0 ≤ s ∧ s ≤ 3) ∧ (0 ≤ w ∧ w ≤ 3) ∧ 1 ≤ kOn (clB sg) s ∧ kOn (clB sg) s ≤ 6
  · obtain ⟨ss, cw, ck⟩ := id c
    obtain ⟨a, n, ia, hsh, h84, en, hn0, hn1, ea, et, t0, t3, i1, i2, i3⟩ := pOn_ok R0 W0 X0 ss ck
    have P : Pap h (pOn h (clB sg 24 s) (clB sg 25 s)) (kOn (clB sg) s) n a := ⟨ck, h84, hsh, hn0, hn1⟩
    have i_n : i32 n := by rw [en]; exact W0.i _ _
    have ek : clB sg 24 s = sg 24 s := rfl
    have h0n : 0 ≤ n := by omega
    have hok := lA_ok w (kOn (clB sg) s) ck cw
    have hln := okB_n hok
    generalize hkk : kOn (clB sg) s = k at *
    -- the reference's numbers as the act begins
    have ea' : thA (clB sg) k n = a := ea.symm
    generalize hs1 : s3 (s3 (s3 (s3 (clB sg) 0 36 k) 0 37 n) 0 38 a) 0 41 0 = sg1
    have g1 : okG sg1 := by
      rw [← hs1]
      exact (((okG.s W0.i ⟨by omega, by omega⟩).s i_n).s ia).s ⟨by omega, by omega⟩
    have o1 : ∀ q, q ≠ 0 → sg1 q = sg q := fun q q0 => by
      rw [← hs1]
      rw [s3_o q0, s3_o q0, s3_o q0, s3_o q0]
      exact s3_o q0
    have p1 : ∀ j, j ≠ 36 → j ≠ 37 → j ≠ 38 → j ≠ 40 → j ≠ 41 → sg1 0 j = sg 0 j := fun j j1 j2 j3 j4 j5 => by
      rw [← hs1, s3_nj j5, s3_nj j3, s3_nj j2, s3_nj j1]
      exact s3_nj j4
    have e40 : sg1 0 40 = 0 := by
      rw [← hs1, s3_nj (by omega), s3_nj (by omega), s3_nj (by omega), s3_nj (by omega)]
      exact s3_at _ _ _ _
    have e41 : sg1 0 41 = 0 := by rw [← hs1]; exact s3_at _ _ _ _
    have Q : Qap sg1 k n a := by
      refine ⟨ck, i_n, ia, ?_, ?_, ?_⟩
      · rw [← hs1, s3_nj (by omega), s3_nj (by omega), s3_nj (by omega)]; exact s3_at _ _ _ _
      · rw [← hs1, s3_nj (by omega), s3_nj (by omega)]; exact s3_at _ _ _ _
      · rw [← hs1, s3_nj (by omega)]; exact s3_at _ _ _ _
    have hfin := act_inv I (sg' := fB w n a (bnL sg1 (lA w k))) (rho' := fC w n a (cnL (clC rho) (lA w k))) hok (by
        unfold fB flB
        split
        · split
          · exact okG.s (bnL_ok g1 (okB_i hok) (by omega)) ⟨by omega, by omega⟩
          · exact bnL_ok g1 (okB_i hok) (by omega)
        · exact bnL_ok g1 (okB_i hok) (by omega)) (by
        unfold fC flP
        split
        · split
          · exact okG.s (cnL_ok C0.2.2.1 (okB_i hok) (by omega)) ⟨by omega, by omega⟩
          · exact cnL_ok C0.2.2.1 (okB_i hok) (by omega)
        · exact cnL_ok C0.2.2.1 (okB_i hok) (by omega)) (fun q q0 q1 => by
        have e : bnL sg1 (lA w k) q = sg q := (bnL_o q0 q1).trans (o1 q q0)
        unfold fB flB
        split
        · split
          · rw [s3_o q0]; exact e
          · exact e
        · exact e) (by
        have e : ∀ j, j ≠ 36 → j ≠ 37 → j ≠ 38 → j ≠ 40 → j ≠ 41 → fB w n a (bnL sg1 (lA w k)) 0 j = sg 0 j := fun j j1 j2 j3 j4 j5 => by
          have e : bnL sg1 (lA w k) 0 j = sg 0 j := (bnL_0 j4).trans (p1 j j1 j2 j3 j4 j5)
          unfold fB flB
          split
          · split
            · rw [s3_nj j5]; exact e
            · exact e
          · exact e
        exact ⟨e 10 (by omega) (by omega) (by omega) (by omega) (by omega), e 42 (by omega) (by omega) (by omega) (by omega) (by omega), e 27 (by omega) (by omega) (by omega) (by omega) (by omega)⟩) (by
        have e := bnL_n sg1 (lA w k)
        unfold fB flB
        split
        · split
          · rw [s3_nj (by omega)]; exact e
          · exact e
        · exact e) (fun j j0 j1 => by
        have e := bnL_b (sg := sg1) j0 j1
        unfold fB flB
        split
        · split
          · rw [s3_nk (by omega)]; exact e
          · exact e
        · exact e) (fun q q0 q1 => by
        have e : cnL (clC rho) (lA w k) q = rho q := (cnL_o q0 q1).trans (clC_o q0)
        unfold fC flP
        split
        · split
          · rw [s3_o q0]; exact e
          · exact e
        · exact e) (by
        have e := cnL_n (clC rho) (lA w k)
        unfold fC flP
        split
        · split
          · rw [s3_nj (by omega)]; exact e
          · exact e
        · exact e) (fun j j0 j1 => by
        have e := cnL_b (rho := clC rho) j0 j1
        unfold fC flP
        split
        · split
          · rw [s3_nk (by omega)]; exact e
          · exact e
        · exact e)
    refine both_of (r := vA w k (iI n) (iI a) v) I ?_ hfin.1 (hG.rf h) (fun H hM => ?_) hfin.2.1 hfin.2.2.1 hfin.2.2.2
    · have hp := C_paperOn hC R0 W0 X0 x40 C0.2.2.1 ss
      rw [hkk, if_pos ck] at hp
      unfold m11_act
      rw [hC.g0_5, hC.m40, mb_eq (C_clear hC), mb_eq (C_isShelf hs _), b2_t ss, ap_if, if_neg (show ¬ iI 1 = 0 by decide), hC.m0, mb_eq hp]
      exact C_actP hC P cw clC_1 clC_2
    · have hkd : m12_kindOn 55 (iI s) (mK 55 (s3 sg 0 40 0) H) = some (iI k, mK 55 (s3 sg 0 40 0) H) := by
        have := B_kindOn (h := H) hM W0 X0 ss
        rw [hkk] at this
        exact this
      have hth : m12_theirs 55 (iI k) (iI n) (mK 55 (s3 (s3 (s3 sg 0 40 0) 0 36 k) 0 37 n) H) = some (iI a, mK 55 (s3 (s3 (s3 sg 0 40 0) 0 36 k) 0 37 n) H) := by
        have hth := B_theirs (sg := s3 (s3 (clB sg) 0 36 k) 0 37 n) (h := H) hM (WD_out (WD_out W0 (Or.inl rfl) ⟨by omega, by omega⟩) (Or.inl rfl) i_n) ck h0n ⟨fun q => (by have := i1.mpr q; omega : n < (clB sg) 1 2), fun q => (by have := i2.mpr q; omega : n < (clB sg) 1 3), fun q => (by have := i3.mpr q; omega : n < (clB sg) 1 5), fun q => (by omega : n < (clB sg) 1 4)⟩
        have eth : thA (s3 (s3 (clB sg) 0 36 k) 0 37 n) k n = a := ea'
        rw [eth] at hth
        exact hth
      have e25 : sg 25 s = n := en.symm
      have hs2 : s3 (s3 (s3 (s3 (s3 sg 0 40 0) 0 36 k) 0 37 n) 0 38 a) 0 41 0 = sg1 := hs1
      have f0 : ∀ l, bnL sg1 l 0 41 = 0 := fun l => (bnL_0 (by omega)).trans e41
      have q25 : ([] : List Int).length < 25 := by decide
      have q20 : ([] : List Int).length < 20 := by decide
      have kW : m12_weighs 55 v (mK 55 (s3 (s3 (s3 (s3 (s3 sg 0 40 0) 0 36 k) 0 37 n) 0 38 a) 0 41 0) H) = some (vW k (iI n) (iI a) v, mK 55 (bnL sg1 (wL k)) H) := by
        rw [hs2]
        have := B_weighs hM Q q25 (v := v) (h := H)
        rw [bnL_nil e40] at this
        exact this
      have kB : m12_bars 55 v (mK 55 (s3 (s3 (s3 (s3 (s3 sg 0 40 0) 0 36 k) 0 37 n) 0 38 a) 0 41 0) H) = some (vB k (iI n) (iI a) v, mK 55 (bnL sg1 (bL k)) H) := by
        rw [hs2]
        have := B_bars hM Q q20 (v := v) (h := H)
        rw [bnL_nil e40] at this
        exact this
      have kP : m12_partsOf 55 v (mK 55 (s3 (s3 (s3 (s3 (s3 sg 0 40 0) 0 36 k) 0 37 n) 0 38 a) 0 41 0) H) = some (vP k (iI n) (iI a) v, mK 55 (flB (bnL sg1 (pL k)) n a) H) := by
        rw [hs2]
        have := B_partsOf hM Q (v := v) (h := H)
        rw [bnL_nil e40] at this
        exact this
      have kT : m12_tells 55 v (mK 55 (s3 (s3 (s3 (s3 (s3 sg 0 40 0) 0 36 k) 0 37 n) 0 38 a) 0 41 0) H) = some (vT k (iI n) (iI a) v, mK 55 (bnL sg1 (tL k)) H) := by
        rw [hs2]
        have := B_tells hM Q (v := v) (h := H)
        rw [bnL_nil e40] at this
        exact this
      have ce : iI a = iI n ↔ a = n := iI_inj ia i_n
      unfold m12_act vA lA fB
      have : w = 0 ∨ w = 1 ∨ w = 2 ∨ w = 3 := by omega
      rcases this with rfl | rfl | rfl | rfl
      · simp (config := { maxSteps := 1000000 }) (disch := first | assumption | exact W.i _ _ | exact sLine_i W _ _ _ | exact W1.i _ _ | exact hg _ _ | exact W3.i _ _ | (refine ⟨?_, ?_⟩ <;> omega) | omega | (simp only [sW_1, sW_2, sW_3, sW_4, sW_5, sW_8] <;> first | assumption | omega | (refine ⟨?_, ?_⟩ <;> omega)) | (simp only [sT_1, sT_2, sT_3, sT_4, sT_5, sT_8] <;> first | assumption | omega | (refine ⟨?_, ?_⟩ <;> omega)) | (simp only [List.length_append, List.length_cons, List.length_nil, Nat.reduceAdd] <;> omega)) only [Int.reduceEq, Int.reduceLT, Int.reduceLE, Int.reduceNeg, Int.reduceAdd, Int.reduceSub, Int.reduceMul, if_true, if_false, not_true, not_false_eq_true, false_or, or_false, true_or, or_true, true_and, and_true, false_and, and_false, iI_on, iI_mul, iI_add, iI_sub, iI_neg, ap_if, mp_eq, mz_0, mz_1, mz_b, b2_0, b2_1, iI_lt, iI_le, iI_inj, mb_div, mb_rem, hM.m, hM.a1, hM.a2, hM.a3, hM.a4, hM.a5, hM.a6, hM.a7, hM.a8, hM.a9, hM.a10, hM.a11, hM.a12, hM.a13, hM.a14, hM.a15, hM.a16, hM.a17, hM.a18, hM.a19, hM.a20, hM.a21, hM.a22, hM.a23, hM.a24, hM.a25, hM.a26, hM.a27, hM.a28, hM.l1, hM.l2, hM.l3, hM.l4, hM.l5, hM.l6, hM.l7, hM.l8, hM.l9, hM.l10, hM.l11, hM.l12, hM.l13, hM.l14, hM.l15, hM.l16, hM.l17, hM.l18, hM.l19, hM.l20, hM.l21, hM.l22, hM.l23, hM.l24, hM.l25, hM.l26, hM.l27, hM.l28, hM.c10, hM.c11, hM.c12, hM.c13, hM.c14, hM.c15, hM.c19, hM.c20, hM.c23, hM.c27, hM.c36, hM.c37, hM.c38, hM.c40, hM.c41, hM.c42, hM.c44, hM.w1, hM.w2, hM.w3, hM.w4, hM.w5, hM.w6, hM.w7, hM.w8, hM.w9, hM.w10, hM.w11, hM.w12, hM.w13, hM.w14, hM.w15, hM.w16, hM.w17, hM.w18, hM.w19, hM.w20, hM.w21, hM.w22, hM.w23, hM.w24, hM.w25, hM.w26, hM.w27, hM.w28, hM.p10, hM.p11, hM.p12, hM.p13, hM.p14, hM.p15, hM.p19, hM.p20, hM.p23, hM.p27, hM.p36, hM.p37, hM.p38, hM.p40, hM.p41, hM.p42, hM.p44, s3_at, s3_nk, s3_nj, mb_eq (B_isShelf _ _), ss.1, ss.2, mb_eq (B_in _ _ _ _), mb_eq hkd, ck.1, ck.2, mb_eq hth, e25, gPutZ_b, mb_eq kW, B_end0 hM (f0 _)]
      · simp (config := { maxSteps := 1000000 }) (disch := first | assumption | exact W.i _ _ | exact sLine_i W _ _ _ | exact W1.i _ _ | exact hg _ _ | exact W3.i _ _ | (refine ⟨?_, ?_⟩ <;> omega) | omega | (simp only [sW_1, sW_2, sW_3, sW_4, sW_5, sW_8] <;> first | assumption | omega | (refine ⟨?_, ?_⟩ <;> omega)) | (simp only [sT_1, sT_2, sT_3, sT_4, sT_5, sT_8] <;> first | assumption | omega | (refine ⟨?_, ?_⟩ <;> omega)) | (simp only [List.length_append, List.length_cons, List.length_nil, Nat.reduceAdd] <;> omega)) only [Int.reduceEq, Int.reduceLT, Int.reduceLE, Int.reduceNeg, Int.reduceAdd, Int.reduceSub, Int.reduceMul, if_true, if_false, not_true, not_false_eq_true, false_or, or_false, true_or, or_true, true_and, and_true, false_and, and_false, iI_on, iI_mul, iI_add, iI_sub, iI_neg, ap_if, mp_eq, mz_0, mz_1, mz_b, b2_0, b2_1, iI_lt, iI_le, iI_inj, mb_div, mb_rem, hM.m, hM.a1, hM.a2, hM.a3, hM.a4, hM.a5, hM.a6, hM.a7, hM.a8, hM.a9, hM.a10, hM.a11, hM.a12, hM.a13, hM.a14, hM.a15, hM.a16, hM.a17, hM.a18, hM.a19, hM.a20, hM.a21, hM.a22, hM.a23, hM.a24, hM.a25, hM.a26, hM.a27, hM.a28, hM.l1, hM.l2, hM.l3, hM.l4, hM.l5, hM.l6, hM.l7, hM.l8, hM.l9, hM.l10, hM.l11, hM.l12, hM.l13, hM.l14, hM.l15, hM.l16, hM.l17, hM.l18, hM.l19, hM.l20, hM.l21, hM.l22, hM.l23, hM.l24, hM.l25, hM.l26, hM.l27, hM.l28, hM.c10, hM.c11, hM.c12, hM.c13, hM.c14, hM.c15, hM.c19, hM.c20, hM.c23, hM.c27, hM.c36, hM.c37, hM.c38, hM.c40, hM.c41, hM.c42, hM.c44, hM.w1, hM.w2, hM.w3, hM.w4, hM.w5, hM.w6, hM.w7, hM.w8, hM.w9, hM.w10, hM.w11, hM.w12, hM.w13, hM.w14, hM.w15, hM.w16, hM.w17, hM.w18, hM.w19, hM.w20, hM.w21, hM.w22, hM.w23, hM.w24, hM.w25, hM.w26, hM.w27, hM.w28, hM.p10, hM.p11, hM.p12, hM.p13, hM.p14, hM.p15, hM.p19, hM.p20, hM.p23, hM.p27, hM.p36, hM.p37, hM.p38, hM.p40, hM.p41, hM.p42, hM.p44, s3_at, s3_nk, s3_nj, mb_eq (B_isShelf _ _), ss.1, ss.2, mb_eq (B_in _ _ _ _), mb_eq hkd, ck.1, ck.2, mb_eq hth, e25, gPutZ_b, mb_eq kB, B_end0 hM (f0 _)]
      · unfold flB at kP ⊢
        by_cases cc : iI a = iI n
        · rw [if_pos cc] at kP
          rw [if_pos cc, if_pos cc]
          simp (config := { maxSteps := 1000000 }) (disch := first | assumption | exact W.i _ _ | exact sLine_i W _ _ _ | exact W1.i _ _ | exact hg _ _ | exact W3.i _ _ | (refine ⟨?_, ?_⟩ <;> omega) | omega | (simp only [sW_1, sW_2, sW_3, sW_4, sW_5, sW_8] <;> first | assumption | omega | (refine ⟨?_, ?_⟩ <;> omega)) | (simp only [sT_1, sT_2, sT_3, sT_4, sT_5, sT_8] <;> first | assumption | omega | (refine ⟨?_, ?_⟩ <;> omega)) | (simp only [List.length_append, List.length_cons, List.length_nil, Nat.reduceAdd] <;> omega)) only [Int.reduceEq, Int.reduceLT, Int.reduceLE, Int.reduceNeg, Int.reduceAdd, Int.reduceSub, Int.reduceMul, if_true, if_false, not_true, not_false_eq_true, false_or, or_false, true_or, or_true, true_and, and_true, false_and, and_false, iI_on, iI_mul, iI_add, iI_sub, iI_neg, ap_if, mp_eq, mz_0, mz_1, mz_b, b2_0, b2_1, iI_lt, iI_le, iI_inj, mb_div, mb_rem, hM.m, hM.a1, hM.a2, hM.a3, hM.a4, hM.a5, hM.a6, hM.a7, hM.a8, hM.a9, hM.a10, hM.a11, hM.a12, hM.a13, hM.a14, hM.a15, hM.a16, hM.a17, hM.a18, hM.a19, hM.a20, hM.a21, hM.a22, hM.a23, hM.a24, hM.a25, hM.a26, hM.a27, hM.a28, hM.l1, hM.l2, hM.l3, hM.l4, hM.l5, hM.l6, hM.l7, hM.l8, hM.l9, hM.l10, hM.l11, hM.l12, hM.l13, hM.l14, hM.l15, hM.l16, hM.l17, hM.l18, hM.l19, hM.l20, hM.l21, hM.l22, hM.l23, hM.l24, hM.l25, hM.l26, hM.l27, hM.l28, hM.c10, hM.c11, hM.c12, hM.c13, hM.c14, hM.c15, hM.c19, hM.c20, hM.c23, hM.c27, hM.c36, hM.c37, hM.c38, hM.c40, hM.c41, hM.c42, hM.c44, hM.w1, hM.w2, hM.w3, hM.w4, hM.w5, hM.w6, hM.w7, hM.w8, hM.w9, hM.w10, hM.w11, hM.w12, hM.w13, hM.w14, hM.w15, hM.w16, hM.w17, hM.w18, hM.w19, hM.w20, hM.w21, hM.w22, hM.w23, hM.w24, hM.w25, hM.w26, hM.w27, hM.w28, hM.p10, hM.p11, hM.p12, hM.p13, hM.p14, hM.p15, hM.p19, hM.p20, hM.p23, hM.p27, hM.p36, hM.p37, hM.p38, hM.p40, hM.p41, hM.p42, hM.p44, s3_at, s3_nk, s3_nj, mb_eq (B_isShelf _ _), ss.1, ss.2, mb_eq (B_in _ _ _ _), mb_eq hkd, ck.1, ck.2, mb_eq hth, e25, gPutZ_b, mb_eq kP, B_end1 hM (s3_at _ _ _ _)]
        · rw [if_neg cc] at kP
          rw [if_neg cc, if_neg cc]
          simp (config := { maxSteps := 1000000 }) (disch := first | assumption | exact W.i _ _ | exact sLine_i W _ _ _ | exact W1.i _ _ | exact hg _ _ | exact W3.i _ _ | (refine ⟨?_, ?_⟩ <;> omega) | omega | (simp only [sW_1, sW_2, sW_3, sW_4, sW_5, sW_8] <;> first | assumption | omega | (refine ⟨?_, ?_⟩ <;> omega)) | (simp only [sT_1, sT_2, sT_3, sT_4, sT_5, sT_8] <;> first | assumption | omega | (refine ⟨?_, ?_⟩ <;> omega)) | (simp only [List.length_append, List.length_cons, List.length_nil, Nat.reduceAdd] <;> omega)) only [Int.reduceEq, Int.reduceLT, Int.reduceLE, Int.reduceNeg, Int.reduceAdd, Int.reduceSub, Int.reduceMul, if_true, if_false, not_true, not_false_eq_true, false_or, or_false, true_or, or_true, true_and, and_true, false_and, and_false, iI_on, iI_mul, iI_add, iI_sub, iI_neg, ap_if, mp_eq, mz_0, mz_1, mz_b, b2_0, b2_1, iI_lt, iI_le, iI_inj, mb_div, mb_rem, hM.m, hM.a1, hM.a2, hM.a3, hM.a4, hM.a5, hM.a6, hM.a7, hM.a8, hM.a9, hM.a10, hM.a11, hM.a12, hM.a13, hM.a14, hM.a15, hM.a16, hM.a17, hM.a18, hM.a19, hM.a20, hM.a21, hM.a22, hM.a23, hM.a24, hM.a25, hM.a26, hM.a27, hM.a28, hM.l1, hM.l2, hM.l3, hM.l4, hM.l5, hM.l6, hM.l7, hM.l8, hM.l9, hM.l10, hM.l11, hM.l12, hM.l13, hM.l14, hM.l15, hM.l16, hM.l17, hM.l18, hM.l19, hM.l20, hM.l21, hM.l22, hM.l23, hM.l24, hM.l25, hM.l26, hM.l27, hM.l28, hM.c10, hM.c11, hM.c12, hM.c13, hM.c14, hM.c15, hM.c19, hM.c20, hM.c23, hM.c27, hM.c36, hM.c37, hM.c38, hM.c40, hM.c41, hM.c42, hM.c44, hM.w1, hM.w2, hM.w3, hM.w4, hM.w5, hM.w6, hM.w7, hM.w8, hM.w9, hM.w10, hM.w11, hM.w12, hM.w13, hM.w14, hM.w15, hM.w16, hM.w17, hM.w18, hM.w19, hM.w20, hM.w21, hM.w22, hM.w23, hM.w24, hM.w25, hM.w26, hM.w27, hM.w28, hM.p10, hM.p11, hM.p12, hM.p13, hM.p14, hM.p15, hM.p19, hM.p20, hM.p23, hM.p27, hM.p36, hM.p37, hM.p38, hM.p40, hM.p41, hM.p42, hM.p44, s3_at, s3_nk, s3_nj, mb_eq (B_isShelf _ _), ss.1, ss.2, mb_eq (B_in _ _ _ _), mb_eq hkd, ck.1, ck.2, mb_eq hth, e25, gPutZ_b, mb_eq kP, B_end0 hM (f0 _)]
      · simp (config := { maxSteps := 1000000 }) (disch := first | assumption | exact W.i _ _ | exact sLine_i W _ _ _ | exact W1.i _ _ | exact hg _ _ | exact W3.i _ _ | (refine ⟨?_, ?_⟩ <;> omega) | omega | (simp only [sW_1, sW_2, sW_3, sW_4, sW_5, sW_8] <;> first | assumption | omega | (refine ⟨?_, ?_⟩ <;> omega)) | (simp only [sT_1, sT_2, sT_3, sT_4, sT_5, sT_8] <;> first | assumption | omega | (refine ⟨?_, ?_⟩ <;> omega)) | (simp only [List.length_append, List.length_cons, List.length_nil, Nat.reduceAdd] <;> omega)) only [Int.reduceEq, Int.reduceLT, Int.reduceLE, Int.reduceNeg, Int.reduceAdd, Int.reduceSub, Int.reduceMul, if_true, if_false, not_true, not_false_eq_true, false_or, or_false, true_or, or_true, true_and, and_true, false_and, and_false, iI_on, iI_mul, iI_add, iI_sub, iI_neg, ap_if, mp_eq, mz_0, mz_1, mz_b, b2_0, b2_1, iI_lt, iI_le, iI_inj, mb_div, mb_rem, hM.m, hM.a1, hM.a2, hM.a3, hM.a4, hM.a5, hM.a6, hM.a7, hM.a8, hM.a9, hM.a10, hM.a11, hM.a12, hM.a13, hM.a14, hM.a15, hM.a16, hM.a17, hM.a18, hM.a19, hM.a20, hM.a21, hM.a22, hM.a23, hM.a24, hM.a25, hM.a26, hM.a27, hM.a28, hM.l1, hM.l2, hM.l3, hM.l4, hM.l5, hM.l6, hM.l7, hM.l8, hM.l9, hM.l10, hM.l11, hM.l12, hM.l13, hM.l14, hM.l15, hM.l16, hM.l17, hM.l18, hM.l19, hM.l20, hM.l21, hM.l22, hM.l23, hM.l24, hM.l25, hM.l26, hM.l27, hM.l28, hM.c10, hM.c11, hM.c12, hM.c13, hM.c14, hM.c15, hM.c19, hM.c20, hM.c23, hM.c27, hM.c36, hM.c37, hM.c38, hM.c40, hM.c41, hM.c42, hM.c44, hM.w1, hM.w2, hM.w3, hM.w4, hM.w5, hM.w6, hM.w7, hM.w8, hM.w9, hM.w10, hM.w11, hM.w12, hM.w13, hM.w14, hM.w15, hM.w16, hM.w17, hM.w18, hM.w19, hM.w20, hM.w21, hM.w22, hM.w23, hM.w24, hM.w25, hM.w26, hM.w27, hM.w28, hM.p10, hM.p11, hM.p12, hM.p13, hM.p14, hM.p15, hM.p19, hM.p20, hM.p23, hM.p27, hM.p36, hM.p37, hM.p38, hM.p40, hM.p41, hM.p42, hM.p44, s3_at, s3_nk, s3_nj, mb_eq (B_isShelf _ _), ss.1, ss.2, mb_eq (B_in _ _ _ _), mb_eq hkd, ck.1, ck.2, mb_eq hth, e25, gPutZ_b, mb_eq kT, B_end0 hM (f0 _)]
  · refine both_of (r := iI 0) I ?_ C0 (hG.rf h) (fun H hM => ?_) W0 X0 Y0
    · unfold m11_act
      rw [hC.g0_5, hC.m40, mb_eq (C_clear hC), mb_eq (C_isShelf hs _)]
      by_cases ss : 0 ≤ s ∧ s ≤ 3
      · have hp := C_paperOn hC R0 W0 X0 x40 C0.2.2.1 ss
        rw [b2_t ss, ap_if, if_neg (show ¬ iI 1 = 0 by decide), hC.m0, mb_eq hp]
        by_cases ck : 1 ≤ kOn (clB sg) s ∧ kOn (clB sg) s ≤ 6
        · rw [if_pos ck]
          have cw : ¬ (0 ≤ w ∧ w ≤ 3) := fun q => c ⟨ss, q, ck⟩
          show (if iI w = 0 then _ else _ : gM Int32) _ = _
          rw [ap_if, if_neg (show ¬ iI w = 0 from iI_ne hw (c := 0) ⟨by omega, by omega⟩ (by omega)), ap_if, if_neg (show ¬ iI w = 1 from iI_ne hw (c := 1) ⟨by omega, by omega⟩ (by omega)), ap_if, if_neg (show ¬ iI w = 2 from iI_ne hw (c := 2) ⟨by omega, by omega⟩ (by omega)), ap_if, if_neg (show ¬ iI w = 3 from iI_ne hw (c := 3) ⟨by omega, by omega⟩ (by omega))]
          exact C_end0 hC clC_2
        · rw [if_neg ck]
          rfl
      · rw [b2_f ss, ap_if, if_pos (show iI 0 = 0 from rfl)]
        rfl
    · unfold m12_act m12_act_p35 clB
      by_cases ss : 0 ≤ s ∧ s ≤ 3
      · by_cases cw : 0 ≤ w ∧ w ≤ 3
        · have hkd : m12_kindOn 55 (iI s) (mK 55 (s3 sg 0 40 0) H) = some (iI (kOn (clB sg) s), mK 55 (s3 sg 0 40 0) H) := B_kindOn (h := H) hM W0 X0 ss
          have kb := kOn_b W0 X0 ss
          generalize kOn (clB sg) s = k at *
          simp (config := { maxSteps := 1000000 }) (disch := first | assumption | exact W.i _ _ | exact sLine_i W _ _ _ | exact W1.i _ _ | exact hg _ _ | exact W3.i _ _ | (refine ⟨?_, ?_⟩ <;> omega) | omega | (simp only [sW_1, sW_2, sW_3, sW_4, sW_5, sW_8] <;> first | assumption | omega | (refine ⟨?_, ?_⟩ <;> omega)) | (simp only [sT_1, sT_2, sT_3, sT_4, sT_5, sT_8] <;> first | assumption | omega | (refine ⟨?_, ?_⟩ <;> omega)) | (simp only [List.length_append, List.length_cons, List.length_nil, Nat.reduceAdd] <;> omega)) only [Int.reduceEq, Int.reduceLT, Int.reduceLE, Int.reduceNeg, Int.reduceAdd, Int.reduceSub, Int.reduceMul, if_true, if_false, not_true, not_false_eq_true, false_or, or_false, true_or, or_true, true_and, and_true, false_and, and_false, iI_on, iI_mul, iI_add, iI_sub, iI_neg, ap_if, mp_eq, mz_0, mz_1, mz_b, b2_0, b2_1, iI_lt, iI_le, iI_inj, mb_div, mb_rem, hM.m, hM.a1, hM.a2, hM.a3, hM.a4, hM.a5, hM.a6, hM.a7, hM.a8, hM.a9, hM.a10, hM.a11, hM.a12, hM.a13, hM.a14, hM.a15, hM.a16, hM.a17, hM.a18, hM.a19, hM.a20, hM.a21, hM.a22, hM.a23, hM.a24, hM.a25, hM.a26, hM.a27, hM.a28, hM.l1, hM.l2, hM.l3, hM.l4, hM.l5, hM.l6, hM.l7, hM.l8, hM.l9, hM.l10, hM.l11, hM.l12, hM.l13, hM.l14, hM.l15, hM.l16, hM.l17, hM.l18, hM.l19, hM.l20, hM.l21, hM.l22, hM.l23, hM.l24, hM.l25, hM.l26, hM.l27, hM.l28, hM.c10, hM.c11, hM.c12, hM.c13, hM.c14, hM.c15, hM.c19, hM.c20, hM.c23, hM.c27, hM.c36, hM.c37, hM.c38, hM.c40, hM.c41, hM.c42, hM.c44, hM.w1, hM.w2, hM.w3, hM.w4, hM.w5, hM.w6, hM.w7, hM.w8, hM.w9, hM.w10, hM.w11, hM.w12, hM.w13, hM.w14, hM.w15, hM.w16, hM.w17, hM.w18, hM.w19, hM.w20, hM.w21, hM.w22, hM.w23, hM.w24, hM.w25, hM.w26, hM.w27, hM.w28, hM.p10, hM.p11, hM.p12, hM.p13, hM.p14, hM.p15, hM.p19, hM.p20, hM.p23, hM.p27, hM.p36, hM.p37, hM.p38, hM.p40, hM.p41, hM.p42, hM.p44, s3_at, s3_nk, s3_nj, mb_eq (B_isShelf _ _), ss.1, ss.2, mb_eq (B_in _ _ _ _), cw.1, cw.2, mb_eq hkd]
          rw [if_pos (fun q => c ⟨ss, cw, q⟩)]
        · simp (config := { maxSteps := 1000000 }) (disch := first | assumption | exact W.i _ _ | exact sLine_i W _ _ _ | exact W1.i _ _ | exact hg _ _ | exact W3.i _ _ | (refine ⟨?_, ?_⟩ <;> omega) | omega | (simp only [sW_1, sW_2, sW_3, sW_4, sW_5, sW_8] <;> first | assumption | omega | (refine ⟨?_, ?_⟩ <;> omega)) | (simp only [sT_1, sT_2, sT_3, sT_4, sT_5, sT_8] <;> first | assumption | omega | (refine ⟨?_, ?_⟩ <;> omega)) | (simp only [List.length_append, List.length_cons, List.length_nil, Nat.reduceAdd] <;> omega)) only [Int.reduceEq, Int.reduceLT, Int.reduceLE, Int.reduceNeg, Int.reduceAdd, Int.reduceSub, Int.reduceMul, if_true, if_false, not_true, not_false_eq_true, false_or, or_false, true_or, or_true, true_and, and_true, false_and, and_false, iI_on, iI_mul, iI_add, iI_sub, iI_neg, ap_if, mp_eq, mz_0, mz_1, mz_b, b2_0, b2_1, iI_lt, iI_le, iI_inj, mb_div, mb_rem, hM.m, hM.a1, hM.a2, hM.a3, hM.a4, hM.a5, hM.a6, hM.a7, hM.a8, hM.a9, hM.a10, hM.a11, hM.a12, hM.a13, hM.a14, hM.a15, hM.a16, hM.a17, hM.a18, hM.a19, hM.a20, hM.a21, hM.a22, hM.a23, hM.a24, hM.a25, hM.a26, hM.a27, hM.a28, hM.l1, hM.l2, hM.l3, hM.l4, hM.l5, hM.l6, hM.l7, hM.l8, hM.l9, hM.l10, hM.l11, hM.l12, hM.l13, hM.l14, hM.l15, hM.l16, hM.l17, hM.l18, hM.l19, hM.l20, hM.l21, hM.l22, hM.l23, hM.l24, hM.l25, hM.l26, hM.l27, hM.l28, hM.c10, hM.c11, hM.c12, hM.c13, hM.c14, hM.c15, hM.c19, hM.c20, hM.c23, hM.c27, hM.c36, hM.c37, hM.c38, hM.c40, hM.c41, hM.c42, hM.c44, hM.w1, hM.w2, hM.w3, hM.w4, hM.w5, hM.w6, hM.w7, hM.w8, hM.w9, hM.w10, hM.w11, hM.w12, hM.w13, hM.w14, hM.w15, hM.w16, hM.w17, hM.w18, hM.w19, hM.w20, hM.w21, hM.w22, hM.w23, hM.w24, hM.w25, hM.w26, hM.w27, hM.w28, hM.p10, hM.p11, hM.p12, hM.p13, hM.p14, hM.p15, hM.p19, hM.p20, hM.p23, hM.p27, hM.p36, hM.p37, hM.p38, hM.p40, hM.p41, hM.p42, hM.p44, s3_at, s3_nk, s3_nj, mb_eq (B_isShelf _ _), ss.1, ss.2, mb_eq (B_in _ _ _ _)]
          rw [if_pos cw]
      · simp (config := { maxSteps := 1000000 }) (disch := first | assumption | exact W.i _ _ | exact sLine_i W _ _ _ | exact W1.i _ _ | exact hg _ _ | exact W3.i _ _ | (refine ⟨?_, ?_⟩ <;> omega) | omega | (simp only [sW_1, sW_2, sW_3, sW_4, sW_5, sW_8] <;> first | assumption | omega | (refine ⟨?_, ?_⟩ <;> omega)) | (simp only [sT_1, sT_2, sT_3, sT_4, sT_5, sT_8] <;> first | assumption | omega | (refine ⟨?_, ?_⟩ <;> omega)) | (simp only [List.length_append, List.length_cons, List.length_nil, Nat.reduceAdd] <;> omega)) only [Int.reduceEq, Int.reduceLT, Int.reduceLE, Int.reduceNeg, Int.reduceAdd, Int.reduceSub, Int.reduceMul, if_true, if_false, not_true, not_false_eq_true, false_or, or_false, true_or, or_true, true_and, and_true, false_and, and_false, iI_on, iI_mul, iI_add, iI_sub, iI_neg, ap_if, mp_eq, mz_0, mz_1, mz_b, b2_0, b2_1, iI_lt, iI_le, iI_inj, mb_div, mb_rem, hM.m, hM.a1, hM.a2, hM.a3, hM.a4, hM.a5, hM.a6, hM.a7, hM.a8, hM.a9, hM.a10, hM.a11, hM.a12, hM.a13, hM.a14, hM.a15, hM.a16, hM.a17, hM.a18, hM.a19, hM.a20, hM.a21, hM.a22, hM.a23, hM.a24, hM.a25, hM.a26, hM.a27, hM.a28, hM.l1, hM.l2, hM.l3, hM.l4, hM.l5, hM.l6, hM.l7, hM.l8, hM.l9, hM.l10, hM.l11, hM.l12, hM.l13, hM.l14, hM.l15, hM.l16, hM.l17, hM.l18, hM.l19, hM.l20, hM.l21, hM.l22, hM.l23, hM.l24, hM.l25, hM.l26, hM.l27, hM.l28, hM.c10, hM.c11, hM.c12, hM.c13, hM.c14, hM.c15, hM.c19, hM.c20, hM.c23, hM.c27, hM.c36, hM.c37, hM.c38, hM.c40, hM.c41, hM.c42, hM.c44, hM.w1, hM.w2, hM.w3, hM.w4, hM.w5, hM.w6, hM.w7, hM.w8, hM.w9, hM.w10, hM.w11, hM.w12, hM.w13, hM.w14, hM.w15, hM.w16, hM.w17, hM.w18, hM.w19, hM.w20, hM.w21, hM.w22, hM.w23, hM.w24, hM.w25, hM.w26, hM.w27, hM.w28, hM.p10, hM.p11, hM.p12, hM.p13, hM.p14, hM.p15, hM.p19, hM.p20, hM.p23, hM.p27, hM.p36, hM.p37, hM.p38, hM.p40, hM.p41, hM.p42, hM.p44, s3_at, s3_nk, s3_nj, mb_eq (B_isShelf _ _)]
        rw [if_pos ss]
end ACT4

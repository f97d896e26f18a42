/-! ===== a call on both: taken, act ===== -/
/-- the class's kind of a paper of this kind -/
def kdOf (k : Int) : Nat := if k = 1 then 0 else if k = 2 then 9 else if k = 3 then 3 else if k = 4 then 7 else if k = 5 then 2 else 4
abbrev under (k a : Int) : Prop := a = 0 ∨ k = a ∨ (a = 1 ∧ k = 2) ∨ (a = 4 ∧ k = 5)
section ACT
variable {M : Nat} {sg rho : Nat → Int → Int} {h : gH}
theorem B_isUnder {k a : Int} (hk : i32 k) (ha : i32 a) (H : gH) : m12_isUnder (iI k) (iI a) H = some (iI (b2 (under k a)), H) := by
  unfold m12_isUnder m12_isUnder_p19 m12_isUnder_p29 m12_isUnder_p33
  (repeat' (first | simp (config := { maxSteps := 1000000 }) (disch := first | assumption | exact W.i _ _ | exact sLine_i W _ _ _ | exact W1.i _ _ | exact hg _ _ | exact W3.i _ _ | (refine ⟨?_, ?_⟩ <;> omega) | omega | (simp only [sW_1, sW_2, sW_3, sW_4, sW_5, sW_8] <;> first | assumption | omega | (refine ⟨?_, ?_⟩ <;> omega)) | (simp only [sT_1, sT_2, sT_3, sT_4, sT_5, sT_8] <;> first | assumption | omega | (refine ⟨?_, ?_⟩ <;> omega))) only [Int.reduceEq, Int.reduceLT, Int.reduceLE, Int.reduceNeg, Int.reduceAdd, Int.reduceSub, Int.reduceMul, if_true, if_false, not_true, not_false_eq_true, false_or, or_false, true_or, or_true, true_and, and_true, false_and, and_false, iI_on, iI_mul, iI_add, iI_sub, iI_neg, ap_if, mp_eq, mz_0, mz_1, mz_b, b2_0, b2_1, iI_lt, iI_le, iI_inj, mb_div, mb_rem, m12_isUnder_p34] | split)) <;> (first | with_reducible rfl | omega | rfl | (subst_vars; rfl) | (simp only [*, Int.add_zero]; done) | (rw [b2_t (by omega)]; done) | (rw [b2_f (by omega)]; done) | (rw [b2_f (by omega), Int.add_zero]))
/-- what a paper on a shelf is, and holds -/
theorem pOn_ok (R : RDs 1 sg rho h) (W : WD sg) (X : WX sg) {s : Int} (ss : 0 ≤ s ∧ s ≤ 3) (hk : 1 ≤ kOn sg s ∧ kOn sg s ≤ 6) : ∃ a n : Int, i32 a ∧ (∃ len, h.1[pOn h (sg 24 s) (sg 25 s)]? = some (kdOf (kOn sg s), len)) ∧ 84 ≤ pOn h (sg 24 s) (sg 25 s) ∧ n = sg 25 s ∧ h.2.1 (pOn h (sg 24 s) (sg 25 s)) 0 = iI n ∧ h.2.1 (pOn h (sg 24 s) (sg 25 s)) 1 = iI a ∧ (a = if kOn sg s = 3 then sg 4 (4 * n + 1) else if kOn sg s = 4 ∨ kOn sg s = 5 then sg 8 (7 * n + 2) else if kOn sg s = 6 then sg 5 (2 * n) else sg 3 (3 * n + 1)) ∧ thing sg (sg 24 s) n ∧ 0 ≤ sg 24 s ∧ sg 24 s ≤ 3 ∧ (sg 24 s = 0 ↔ kOn sg s = 1 ∨ kOn sg s = 2) ∧ (sg 24 s = 1 ↔ kOn sg s = 3) ∧ (sg 24 s = 2 ↔ kOn sg s = 4 ∨ kOn sg s = 5) := by
  have x := X.2.2.1 s ss.1 (by omega)
  have n5 := W.n5
  have c0 : ¬ sg 24 s < 0 := fun q => by
    unfold kOn at hk
    rw [if_pos q] at hk
    omega
  have c4 : ¬ sg 24 s = 4 := fun q => by
    unfold kOn at hk
    rw [if_neg c0, if_pos q] at hk
    omega
  have ct : thing sg (sg 24 s) (sg 25 s) := by
    rcases Decidable.em (thing sg (sg 24 s) (sg 25 s)) with q | q
    · exact q
    · unfold kOn at hk
      rw [if_neg c0, if_neg c4, if_pos q] at hk
      omega
  have ek : kOn sg s = if sg 24 s = 0 then (if sAge sg (sg 25 s) < 18 then 2 else 1) else if sg 24 s = 1 then 3 else if sg 24 s = 2 then 4 + sg 8 (7 * sg 25 s + 4) else 6 := by
    unfold kOn
    rw [if_neg c0, if_neg c4, if_neg (fun q => q ct)]
  have : sg 24 s = 0 ∨ sg 24 s = 1 ∨ sg 24 s = 2 ∨ sg 24 s = 3 := by omega
  unfold pOn
  rcases this with q | q | q | q
  · have q0 : 0 ≤ sg 25 s ∧ sg 25 s < sg 1 2 := by omega
    obtain ⟨_, b1, b2, b3, b4, b5, b6, b7⟩ := R.de q0.1 q0.2
    rw [q, if_pos rfl] at ek
    refine ⟨sg 3 (3 * sg 25 s + 1), sg 25 s, W.i _ _, ⟨5, ?_⟩, ?_, rfl, ?_, ?_, ?_, ct, by omega, by omega, ?_, ?_, ?_⟩
    · rw [if_pos q, b2, ek]
      by_cases y : sAge sg (sg 25 s) < 18
      · rw [if_pos y, if_pos y]; rfl
      · rw [if_neg y, if_neg y]; rfl
    · rw [if_pos q]; exact b1
    · rw [if_pos q]; exact b3
    · rw [if_pos q]; exact b4
    · rw [ek]
      split <;> rfl
    · rw [ek, q]
      split <;> omega
    · rw [ek, q]
      split <;> omega
    · rw [ek, q]
      split <;> omega
  · have q0 : 0 ≤ sg 25 s ∧ sg 25 s < sg 1 3 := by omega
    obtain ⟨_, b1, b2, b3, b4, b5, b6, b7⟩ := R.fi q0.1 q0.2
    rw [q, if_neg (by omega), if_pos rfl] at ek
    have z : ¬ sg 24 s = 0 := by omega
    refine ⟨sg 4 (4 * sg 25 s + 1), sg 25 s, W.i _ _, ⟨5, ?_⟩, ?_, rfl, ?_, ?_, ?_, ct, by omega, by omega, by omega, by omega, by omega⟩
    · rw [if_neg z, if_pos q, b2, ek]; rfl
    · rw [if_neg z, if_pos q]; exact b1
    · rw [if_neg z, if_pos q]; exact b3
    · rw [if_neg z, if_pos q]; exact b4
    · rw [ek]; rfl
  · have q0 : 0 ≤ sg 25 s ∧ sg 25 s < sg 1 5 := by omega
    have nt := W.te _ q0.1 q0.2
    obtain ⟨_, b1, b2, b3, b4, b5, b6, b7⟩ := R.te q0.1 q0.2
    rw [q, if_neg (by omega), if_neg (by omega), if_pos rfl] at ek
    have z : ¬ sg 24 s = 0 := by omega
    have z1 : ¬ sg 24 s = 1 := by omega
    refine ⟨sg 8 (7 * sg 25 s + 2), sg 25 s, W.i _ _, ⟨6, ?_⟩, ?_, rfl, ?_, ?_, ?_, ct, by omega, by omega, by omega, by omega, by omega⟩
    · rw [if_neg z, if_neg z1, if_pos q, b2, ek]
      by_cases y : sg 8 (7 * sg 25 s + 4) = 1
      · rw [if_pos y, y]; rfl
      · have y0 : sg 8 (7 * sg 25 s + 4) = 0 := by omega
        rw [if_neg y, y0]; rfl
    · rw [if_neg z, if_neg z1, if_pos q]; exact b1
    · rw [if_neg z, if_neg z1, if_pos q]; exact b3
    · rw [if_neg z, if_neg z1, if_pos q]; exact b4
    · rw [if_neg (by omega), if_pos (by omega)]
  · have q0 : 0 ≤ sg 25 s ∧ sg 25 s < sg 1 4 := by omega
    obtain ⟨_, ⟨b1, b2, b3, b4, _⟩, _⟩ := R.la q0.1 q0.2
    rw [q, if_neg (by omega), if_neg (by omega), if_neg (by omega)] at ek
    have z : ¬ sg 24 s = 0 := by omega
    have z1 : ¬ sg 24 s = 1 := by omega
    have z2 : ¬ sg 24 s = 2 := by omega
    refine ⟨sg 5 (2 * sg 25 s), sg 25 s, W.i _ _, ⟨14, ?_⟩, ?_, rfl, ?_, ?_, ?_, ct, by omega, by omega, by omega, by omega, by omega⟩
    · rw [if_neg z, if_neg z1, if_neg z2, b2, ek]; rfl
    · rw [if_neg z, if_neg z1, if_neg z2]; exact b1
    · rw [if_neg z, if_neg z1, if_neg z2]; exact b3
    · rw [if_neg z, if_neg z1, if_neg z2]; exact b4
    · rw [ek]; rfl
theorem gInst_ok {ys : List Nat} {p t n : Nat} {s : gH} (hp : s.1[p]? = some (t, n)) (ht : ([0, 2, 3, 4, 7, 9] : List Nat).contains t = true) : gInst ys p s = some (if ys.contains t then 1 else 0, s) := by
  unfold gInst
  rw [mv_eq hp ht]
  simp only [hp]
theorem kdOf_in {k : Int} (hk : 1 ≤ k ∧ k ≤ 6) : ([0, 2, 3, 4, 7, 9] : List Nat).contains (kdOf k) = true := by
  have : k = 1 ∨ k = 2 ∨ k = 3 ∨ k = 4 ∨ k = 5 ∨ k = 6 := by omega
  rcases this with rfl | rfl | rfl | rfl | rfl | rfl <;> rfl
theorem C_isOfKind {p : Nat} {k a : Int} {len : Nat} {s : gH} (hp : s.1[p]? = some (kdOf k, len)) (hk : 1 ≤ k ∧ k ≤ 6) (ha : 0 ≤ a ∧ a ≤ 6) : m11_isOfKind p (iI a) s = some (iI (b2 (under k a)), s) := by
  have e := fun ys => gInst_ok (ys := ys) hp (kdOf_in hk)
  have hk' : k = 1 ∨ k = 2 ∨ k = 3 ∨ k = 4 ∨ k = 5 ∨ k = 6 := by omega
  have ha' : a = 0 ∨ a = 1 ∨ a = 2 ∨ a = 3 ∨ a = 4 ∨ a = 5 ∨ a = 6 := by omega
  unfold m11_isOfKind
  rcases ha' with rfl | rfl | rfl | rfl | rfl | rfl | rfl
  · rw [b2_t (Or.inl rfl)]; rfl
  all_goals (rcases hk' with rfl | rfl | rfl | rfl | rfl | rfl)
  all_goals (simp (config := { maxSteps := 1000000 }) (disch := first | assumption | exact W.i _ _ | exact sLine_i W _ _ _ | exact W1.i _ _ | exact hg _ _ | exact W3.i _ _ | (refine ⟨?_, ?_⟩ <;> omega) | omega | (simp only [sW_1, sW_2, sW_3, sW_4, sW_5, sW_8] <;> first | assumption | omega | (refine ⟨?_, ?_⟩ <;> omega)) | (simp only [sT_1, sT_2, sT_3, sT_4, sT_5, sT_8] <;> first | assumption | omega | (refine ⟨?_, ?_⟩ <;> omega))) only [Int.reduceEq, Int.reduceLT, Int.reduceLE, Int.reduceNeg, Int.reduceAdd, Int.reduceSub, Int.reduceMul, if_true, if_false, not_true, not_false_eq_true, false_or, or_false, true_or, or_true, true_and, and_true, false_and, and_false, iI_on, iI_mul, iI_add, iI_sub, iI_neg, ap_if, mp_eq, mz_0, mz_1, mz_b, b2_0, b2_1, iI_lt, iI_le, iI_inj, mb_div, mb_rem, mb_eq (e _)]; rfl)
abbrev tkOK (s a : Int) : Prop := (0 ≤ s ∧ s ≤ 3) ∧ ((0 ≤ a ∧ a ≤ 6) ∨ (10 ≤ a ∧ a ≤ 13))
def oTaken (sg : Nat → Int → Int) (s a : Int) : Int := if tkOK s a then (if kOn sg s < 0 then -11 else if kOn sg s = 9 then (if a = 10 + sg 25 s then sg 26 s else -13) else if a < 10 ∧ under (kOn sg s) a then sg 25 s else -13) else -1
theorem kOn_b (W : WD sg) (X : WX sg) {s : Int} (ss : 0 ≤ s ∧ s ≤ 3) : kOn sg s = -1 ∨ kOn sg s = 9 ∨ (1 ≤ kOn sg s ∧ kOn sg s ≤ 6) := by
  have x := X.2.2.1 s ss.1 (by omega)
  unfold kOn
  by_cases c0 : sg 24 s < 0
  · rw [if_pos c0]; omega
  · rw [if_neg c0]
    by_cases c4 : sg 24 s = 4
    · rw [if_pos c4]; omega
    · rw [if_neg c4]
      by_cases ct : thing sg (sg 24 s) (sg 25 s)
      · rw [if_neg (fun q => q ct)]
        by_cases c2 : sg 24 s = 2
        · have nt := W.te (sg 25 s) (by omega) (by omega)
          rw [if_neg (by omega), if_neg (by omega), if_pos c2]
          omega
        · repeat' split
          all_goals omega
      · rw [if_pos ct]; omega
theorem kOn_n9 (W : WD sg) {s : Int} (z : 0 ≤ sg 24 s ∧ sg 24 s ≤ 3) : ¬ kOn sg s = 9 := fun q => by
  unfold kOn at q
  rw [if_neg (by omega), if_neg (by omega)] at q
  by_cases ct : thing sg (sg 24 s) (sg 25 s)
  · rw [if_neg (fun q => q ct)] at q
    by_cases c2 : sg 24 s = 2
    · have nt := W.te (sg 25 s) (by omega) (by omega)
      rw [if_neg (by omega), if_neg (by omega), if_pos c2] at q
      omega
    · repeat' split at q
      all_goals omega
  · rw [if_pos ct] at q
    omega
theorem C_isPaperKind {a : Int} (ha : i32 a) (H : gH) : m11_isPaperKind (iI a) H = some (iI (b2 (0 ≤ a ∧ a ≤ 6)), H) := by
  unfold m11_isPaperKind m11_isPaperKind_p14
  (repeat' (first | simp (config := { maxSteps := 1000000 }) (disch := first | assumption | exact W.i _ _ | exact sLine_i W _ _ _ | exact W1.i _ _ | exact hg _ _ | exact W3.i _ _ | (refine ⟨?_, ?_⟩ <;> omega) | omega | (simp only [sW_1, sW_2, sW_3, sW_4, sW_5, sW_8] <;> first | assumption | omega | (refine ⟨?_, ?_⟩ <;> omega)) | (simp only [sT_1, sT_2, sT_3, sT_4, sT_5, sT_8] <;> first | assumption | omega | (refine ⟨?_, ?_⟩ <;> omega))) only [Int.reduceEq, Int.reduceLT, Int.reduceLE, Int.reduceNeg, Int.reduceAdd, Int.reduceSub, Int.reduceMul, if_true, if_false, not_true, not_false_eq_true, false_or, or_false, true_or, or_true, true_and, and_true, false_and, and_false, iI_on, iI_mul, iI_add, iI_sub, iI_neg, ap_if, mp_eq, mz_0, mz_1, mz_b, b2_0, b2_1, iI_lt, iI_le, iI_inj, mb_div, mb_rem, m11_isPaperKind_p15] | split)) <;> (first | with_reducible rfl | omega | rfl | (subst_vars; rfl) | (simp only [*, Int.add_zero]; done) | (rw [b2_t (by omega)]; done) | (rw [b2_f (by omega)]; done) | (rw [b2_f (by omega), Int.add_zero]))
theorem C_isSort10 {a : Int} (ha : i32 a) (H : gH) : m11_isSort (iI (a - 10)) H = some (iI (b2 (10 ≤ a ∧ a ≤ 13)), H) := by
  by_cases c : -2147483638 ≤ a
  · rw [C_isSort ⟨by omega, by omega⟩, b2_c (Q := 10 ≤ a ∧ a ≤ 13) (by omega)]
  · rw [iI_wrap, C_isSort ⟨by omega, by omega⟩, b2_c (Q := 10 ≤ a ∧ a ≤ 13) (by omega)]
theorem T_taken (I : Inv sg rho h) {s a : Int} (hs : i32 s) (ha : i32 a) : Both (m11_taken 0 (iI s) (iI a)) (m12_taken 55 (iI s) (iI a)) rho h := by
  have hC := I.1.1
  have hg := I.1.2.2.1
  have R := I.1.2.2.2.2.1
  have W := I.2.1
  have X := I.2.2.1
  obtain ⟨x1, x2, x3, x4, x5⟩ := I.1.2.2.2.2.2.2
  refine both_q (r := iI (oTaken sg s a)) I ?_ (fun H hM => ?_)
  · unfold oTaken m11_taken m11_taken_p24
    by_cases c : tkOK s a
    · have ss := c.1
      have kb := kOn_b W X ss
      have key : m11_taken_p26 0 (iI s) (iI a) (cK rho h) = some (iI (if kOn sg s < 0 then -11 else if kOn sg s = 9 then (if a = 10 + sg 25 s then sg 26 s else -13) else if a < 10 ∧ under (kOn sg s) a then sg 25 s else -13), cK rho h) := by
        have xx := X.2.2.1 s ss.1 (by omega)
        unfold m11_taken_p26 m11_taken_p96
        have ia : i32 (a - 10) := ⟨by omega, by omega⟩
        have i25 := W.i 25 s
        rcases x4 s ss.1 (by omega) with ⟨z1, z2⟩ | ⟨z1, z2, z3⟩ | ⟨z1, z2, z3, z4⟩
        · have ek : kOn sg s = -1 := by
            unfold kOn
            rw [if_pos (by omega)]
          rw [ek, if_pos (by omega)]
          simp (config := { maxSteps := 1000000 }) (disch := first | assumption | exact W.i _ _ | exact sLine_i W _ _ _ | exact W1.i _ _ | exact hg _ _ | exact W3.i _ _ | (refine ⟨?_, ?_⟩ <;> omega) | omega | (simp only [sW_1, sW_2, sW_3, sW_4, sW_5, sW_8] <;> first | assumption | omega | (refine ⟨?_, ?_⟩ <;> omega)) | (simp only [sT_1, sT_2, sT_3, sT_4, sT_5, sT_8] <;> first | assumption | omega | (refine ⟨?_, ?_⟩ <;> omega))) only [Int.reduceEq, Int.reduceLT, Int.reduceLE, Int.reduceNeg, Int.reduceAdd, Int.reduceSub, Int.reduceMul, if_true, if_false, not_true, not_false_eq_true, false_or, or_false, true_or, or_true, true_and, and_true, false_and, and_false, iI_on, iI_mul, iI_add, iI_sub, iI_neg, ap_if, mp_eq, mz_0, mz_1, mz_b, b2_0, b2_1, iI_lt, iI_le, iI_inj, mb_div, mb_rem, hC.m0, hC.m1, hC.m13, hC.m15, hC.m27, hC.m29, hC.m38, hC.m40, hC.g0_0, hC.g0_1, hC.g0_3, hC.g0_4, hC.g0_5, hC.g0_6, hC.g0_7, hC.g0_8, hC.g0_9, hC.g0_10, hC.g0_11, hC.g0_12, hC.g0_13, hC.g0_14, hC.g1_2, hC.g1_3, hC.g1_5, hC.g1_7, hC.g1_9, hC.g1_11, hC.g1_12, hC.g1_14, hC.g1_15, hC.g1_16, hC.g1_17, hC.g1_18, hC.g13_0, hC.g15_2, hC.g15_3, hC.g15_5, hC.g15_7, hC.g15_9, hC.g15_11, hC.g15_12, hC.g15_14, hC.g15_15, hC.g15_16, hC.g15_17, hC.g15_18, hC.g27_0, hC.g29_3, hC.g29_4, hC.g29_5, hC.g29_6, hC.g29_7, hC.g29_8, hC.g29_9, hC.g29_10, hC.g38_0, hC.g40_0, hC.s0_2, hC.s1_0, hC.s1_1, hC.s1_4, hC.s1_6, hC.s1_8, hC.s1_10, hC.s1_13, hC.s13_1, hC.s15_0, hC.s15_1, hC.s15_4, hC.s15_6, hC.s15_8, hC.s15_10, hC.s15_13, hC.s27_1, hC.s29_0, hC.s29_1, hC.s29_2, hC.s29_11, hC.s29_12, hC.s38_1, hC.s40_1, hC.s40_2, hC.l2, hC.l3, hC.l8, hC.l9, hC.l10, hC.l11, hC.l12, hC.l14, hC.l16, hC.l17, hC.l22, hC.l23, hC.l24, hC.l25, hC.l26, hC.l28, hC.l30, hC.l31, hC.l32, hC.l33, hC.l34, hC.l36, hC.l37, hC.l39, hC.l41, hC.l43, hC.l44, hC.l45, hC.l46, hC.l47, hC.l48, hC.l49, hC.l50, hC.l51, hC.l52, hC.l53, hC.l54, hC.l35, hC.n33, hC.n36, hC.dl R W, hC.fl R W, hC.ll R W, hC.tl R W, R.d1, R.d2, R.d3, R.d4, R.dn, R.da, R.f1, R.f2, R.f3, R.f4, R.fn, R.fa, R.t1, R.t2, R.t3, R.t4, R.t5, R.tn, R.ta, R.l0, R.l1, R.l2, R.l3, R.l7, R.ln, R.lv, R.r5, R.r6, R.r8, R.r13, R.r4, R.r10, R.r11, R.r12, R.r9, R.mt, R.ml, R.lg, R.lp, R.lr, R.lo W, R.ls W, R.1.1, R.1.2.1, R.1.2.2.1, R.1.2.2.2.1, R.1.2.2.2.2.1, R.1.2.2.2.2.2.1, R.1.2.2.2.2.2.2, R.born, R.good, R.unw, R.hp, R.hf, R.ht, ss.1, ss.2, z2, mb_eq (C_paperOn hC R W X x4 hg ss), ek, mo]
        · have e9 : ¬ kOn sg s = 9 := fun q => by
            unfold kOn at q
            rw [if_neg (by omega), if_neg (by omega)] at q
            by_cases ct : thing sg (sg 24 s) (sg 25 s)
            · rw [if_neg (fun q => q ct)] at q
              by_cases c2 : sg 24 s = 2
              · have nt := W.te (sg 25 s) (by omega) (by omega)
                rw [if_neg (by omega), if_neg (by omega), if_pos c2] at q
                omega
              · split at q
                · split at q <;> omega
                · split at q
                  · omega
                  · omega
            · rw [if_pos ct] at q
              omega
          have n4 : ¬ rho 49 s = 4 := by omega
          have i49 := hg 49 s
          by_cases ck : 1 ≤ kOn sg s ∧ kOn sg s ≤ 6
          · obtain ⟨av, n, ia2, ⟨len, hsh⟩, h84, en, hn0, hn1, _⟩ := pOn_ok R W X ss ck
            have hgt : ∀ f : Int32 → gM Int32, mb (gGetI [0, 2, 3, 4, 7, 9] (pOn h (sg 24 s) (sg 25 s)) 0) f (cK rho h) = f (iI n) (cK rho h) := fun f => getI_ok f (cK rho h) hsh (kdOf_in ck) ((cK_d (by omega)).trans hn0)
            rw [if_neg (by omega), if_neg e9]
            by_cases a6 : 0 ≤ a ∧ a ≤ 6
            · have eu := C_isOfKind (s := cK rho h) (p := pOn h (sg 24 s) (sg 25 s)) hsh ck a6
              by_cases cu : under (kOn sg s) a
              · have cu2 : a < 10 ∧ under (kOn sg s) a := ⟨by omega, cu⟩
                rw [b2_t cu] at eu
                rw [if_pos cu2]
                simp (config := { maxSteps := 1000000 }) (disch := first | assumption | exact W.i _ _ | exact sLine_i W _ _ _ | exact W1.i _ _ | exact hg _ _ | exact W3.i _ _ | (refine ⟨?_, ?_⟩ <;> omega) | omega | (simp only [sW_1, sW_2, sW_3, sW_4, sW_5, sW_8] <;> first | assumption | omega | (refine ⟨?_, ?_⟩ <;> omega)) | (simp only [sT_1, sT_2, sT_3, sT_4, sT_5, sT_8] <;> first | assumption | omega | (refine ⟨?_, ?_⟩ <;> omega))) only [Int.reduceEq, Int.reduceLT, Int.reduceLE, Int.reduceNeg, Int.reduceAdd, Int.reduceSub, Int.reduceMul, if_true, if_false, not_true, not_false_eq_true, false_or, or_false, true_or, or_true, true_and, and_true, false_and, and_false, iI_on, iI_mul, iI_add, iI_sub, iI_neg, ap_if, mp_eq, mz_0, mz_1, mz_b, b2_0, b2_1, iI_lt, iI_le, iI_inj, mb_div, mb_rem, hC.m0, hC.m1, hC.m13, hC.m15, hC.m27, hC.m29, hC.m38, hC.m40, hC.g0_0, hC.g0_1, hC.g0_3, hC.g0_4, hC.g0_5, hC.g0_6, hC.g0_7, hC.g0_8, hC.g0_9, hC.g0_10, hC.g0_11, hC.g0_12, hC.g0_13, hC.g0_14, hC.g1_2, hC.g1_3, hC.g1_5, hC.g1_7, hC.g1_9, hC.g1_11, hC.g1_12, hC.g1_14, hC.g1_15, hC.g1_16, hC.g1_17, hC.g1_18, hC.g13_0, hC.g15_2, hC.g15_3, hC.g15_5, hC.g15_7, hC.g15_9, hC.g15_11, hC.g15_12, hC.g15_14, hC.g15_15, hC.g15_16, hC.g15_17, hC.g15_18, hC.g27_0, hC.g29_3, hC.g29_4, hC.g29_5, hC.g29_6, hC.g29_7, hC.g29_8, hC.g29_9, hC.g29_10, hC.g38_0, hC.g40_0, hC.s0_2, hC.s1_0, hC.s1_1, hC.s1_4, hC.s1_6, hC.s1_8, hC.s1_10, hC.s1_13, hC.s13_1, hC.s15_0, hC.s15_1, hC.s15_4, hC.s15_6, hC.s15_8, hC.s15_10, hC.s15_13, hC.s27_1, hC.s29_0, hC.s29_1, hC.s29_2, hC.s29_11, hC.s29_12, hC.s38_1, hC.s40_1, hC.s40_2, hC.l2, hC.l3, hC.l8, hC.l9, hC.l10, hC.l11, hC.l12, hC.l14, hC.l16, hC.l17, hC.l22, hC.l23, hC.l24, hC.l25, hC.l26, hC.l28, hC.l30, hC.l31, hC.l32, hC.l33, hC.l34, hC.l36, hC.l37, hC.l39, hC.l41, hC.l43, hC.l44, hC.l45, hC.l46, hC.l47, hC.l48, hC.l49, hC.l50, hC.l51, hC.l52, hC.l53, hC.l54, hC.l35, hC.n33, hC.n36, hC.dl R W, hC.fl R W, hC.ll R W, hC.tl R W, R.d1, R.d2, R.d3, R.d4, R.dn, R.da, R.f1, R.f2, R.f3, R.f4, R.fn, R.fa, R.t1, R.t2, R.t3, R.t4, R.t5, R.tn, R.ta, R.l0, R.l1, R.l2, R.l3, R.l7, R.ln, R.lv, R.r5, R.r6, R.r8, R.r13, R.r4, R.r10, R.r11, R.r12, R.r9, R.mt, R.ml, R.lg, R.lp, R.lr, R.lo W, R.ls W, R.1.1, R.1.2.1, R.1.2.2.1, R.1.2.2.2.1, R.1.2.2.2.2.1, R.1.2.2.2.2.2.1, R.1.2.2.2.2.2.2, R.born, R.good, R.unw, R.hp, R.hf, R.ht, ss.1, ss.2, n4, mb_eq (C_paperOn hC R W X x4 hg ss), ck.1, ck.2, mo, mb_eq (C_isPaperKind _ _), a6.1, a6.2, mb_eq eu, hgt, m11_taken_p98, en]
              · rw [b2_f cu] at eu
                rw [if_neg (fun q => cu q.2)]
                simp (config := { maxSteps := 1000000 }) (disch := first | assumption | exact W.i _ _ | exact sLine_i W _ _ _ | exact W1.i _ _ | exact hg _ _ | exact W3.i _ _ | (refine ⟨?_, ?_⟩ <;> omega) | omega | (simp only [sW_1, sW_2, sW_3, sW_4, sW_5, sW_8] <;> first | assumption | omega | (refine ⟨?_, ?_⟩ <;> omega)) | (simp only [sT_1, sT_2, sT_3, sT_4, sT_5, sT_8] <;> first | assumption | omega | (refine ⟨?_, ?_⟩ <;> omega))) only [Int.reduceEq, Int.reduceLT, Int.reduceLE, Int.reduceNeg, Int.reduceAdd, Int.reduceSub, Int.reduceMul, if_true, if_false, not_true, not_false_eq_true, false_or, or_false, true_or, or_true, true_and, and_true, false_and, and_false, iI_on, iI_mul, iI_add, iI_sub, iI_neg, ap_if, mp_eq, mz_0, mz_1, mz_b, b2_0, b2_1, iI_lt, iI_le, iI_inj, mb_div, mb_rem, hC.m0, hC.m1, hC.m13, hC.m15, hC.m27, hC.m29, hC.m38, hC.m40, hC.g0_0, hC.g0_1, hC.g0_3, hC.g0_4, hC.g0_5, hC.g0_6, hC.g0_7, hC.g0_8, hC.g0_9, hC.g0_10, hC.g0_11, hC.g0_12, hC.g0_13, hC.g0_14, hC.g1_2, hC.g1_3, hC.g1_5, hC.g1_7, hC.g1_9, hC.g1_11, hC.g1_12, hC.g1_14, hC.g1_15, hC.g1_16, hC.g1_17, hC.g1_18, hC.g13_0, hC.g15_2, hC.g15_3, hC.g15_5, hC.g15_7, hC.g15_9, hC.g15_11, hC.g15_12, hC.g15_14, hC.g15_15, hC.g15_16, hC.g15_17, hC.g15_18, hC.g27_0, hC.g29_3, hC.g29_4, hC.g29_5, hC.g29_6, hC.g29_7, hC.g29_8, hC.g29_9, hC.g29_10, hC.g38_0, hC.g40_0, hC.s0_2, hC.s1_0, hC.s1_1, hC.s1_4, hC.s1_6, hC.s1_8, hC.s1_10, hC.s1_13, hC.s13_1, hC.s15_0, hC.s15_1, hC.s15_4, hC.s15_6, hC.s15_8, hC.s15_10, hC.s15_13, hC.s27_1, hC.s29_0, hC.s29_1, hC.s29_2, hC.s29_11, hC.s29_12, hC.s38_1, hC.s40_1, hC.s40_2, hC.l2, hC.l3, hC.l8, hC.l9, hC.l10, hC.l11, hC.l12, hC.l14, hC.l16, hC.l17, hC.l22, hC.l23, hC.l24, hC.l25, hC.l26, hC.l28, hC.l30, hC.l31, hC.l32, hC.l33, hC.l34, hC.l36, hC.l37, hC.l39, hC.l41, hC.l43, hC.l44, hC.l45, hC.l46, hC.l47, hC.l48, hC.l49, hC.l50, hC.l51, hC.l52, hC.l53, hC.l54, hC.l35, hC.n33, hC.n36, hC.dl R W, hC.fl R W, hC.ll R W, hC.tl R W, R.d1, R.d2, R.d3, R.d4, R.dn, R.da, R.f1, R.f2, R.f3, R.f4, R.fn, R.fa, R.t1, R.t2, R.t3, R.t4, R.t5, R.tn, R.ta, R.l0, R.l1, R.l2, R.l3, R.l7, R.ln, R.lv, R.r5, R.r6, R.r8, R.r13, R.r4, R.r10, R.r11, R.r12, R.r9, R.mt, R.ml, R.lg, R.lp, R.lr, R.lo W, R.ls W, R.1.1, R.1.2.1, R.1.2.2.1, R.1.2.2.2.1, R.1.2.2.2.2.1, R.1.2.2.2.2.2.1, R.1.2.2.2.2.2.2, R.born, R.good, R.unw, R.hp, R.hf, R.ht, ss.1, ss.2, n4, mb_eq (C_paperOn hC R W X x4 hg ss), ck.1, ck.2, mo, mb_eq (C_isPaperKind _ _), a6.1, a6.2, mb_eq eu, m11_taken_p98]
            · rw [if_neg (fun q => a6 (by omega))]
              simp (config := { maxSteps := 1000000 }) (disch := first | assumption | exact W.i _ _ | exact sLine_i W _ _ _ | exact W1.i _ _ | exact hg _ _ | exact W3.i _ _ | (refine ⟨?_, ?_⟩ <;> omega) | omega | (simp only [sW_1, sW_2, sW_3, sW_4, sW_5, sW_8] <;> first | assumption | omega | (refine ⟨?_, ?_⟩ <;> omega)) | (simp only [sT_1, sT_2, sT_3, sT_4, sT_5, sT_8] <;> first | assumption | omega | (refine ⟨?_, ?_⟩ <;> omega))) only [Int.reduceEq, Int.reduceLT, Int.reduceLE, Int.reduceNeg, Int.reduceAdd, Int.reduceSub, Int.reduceMul, if_true, if_false, not_true, not_false_eq_true, false_or, or_false, true_or, or_true, true_and, and_true, false_and, and_false, iI_on, iI_mul, iI_add, iI_sub, iI_neg, ap_if, mp_eq, mz_0, mz_1, mz_b, b2_0, b2_1, iI_lt, iI_le, iI_inj, mb_div, mb_rem, hC.m0, hC.m1, hC.m13, hC.m15, hC.m27, hC.m29, hC.m38, hC.m40, hC.g0_0, hC.g0_1, hC.g0_3, hC.g0_4, hC.g0_5, hC.g0_6, hC.g0_7, hC.g0_8, hC.g0_9, hC.g0_10, hC.g0_11, hC.g0_12, hC.g0_13, hC.g0_14, hC.g1_2, hC.g1_3, hC.g1_5, hC.g1_7, hC.g1_9, hC.g1_11, hC.g1_12, hC.g1_14, hC.g1_15, hC.g1_16, hC.g1_17, hC.g1_18, hC.g13_0, hC.g15_2, hC.g15_3, hC.g15_5, hC.g15_7, hC.g15_9, hC.g15_11, hC.g15_12, hC.g15_14, hC.g15_15, hC.g15_16, hC.g15_17, hC.g15_18, hC.g27_0, hC.g29_3, hC.g29_4, hC.g29_5, hC.g29_6, hC.g29_7, hC.g29_8, hC.g29_9, hC.g29_10, hC.g38_0, hC.g40_0, hC.s0_2, hC.s1_0, hC.s1_1, hC.s1_4, hC.s1_6, hC.s1_8, hC.s1_10, hC.s1_13, hC.s13_1, hC.s15_0, hC.s15_1, hC.s15_4, hC.s15_6, hC.s15_8, hC.s15_10, hC.s15_13, hC.s27_1, hC.s29_0, hC.s29_1, hC.s29_2, hC.s29_11, hC.s29_12, hC.s38_1, hC.s40_1, hC.s40_2, hC.l2, hC.l3, hC.l8, hC.l9, hC.l10, hC.l11, hC.l12, hC.l14, hC.l16, hC.l17, hC.l22, hC.l23, hC.l24, hC.l25, hC.l26, hC.l28, hC.l30, hC.l31, hC.l32, hC.l33, hC.l34, hC.l36, hC.l37, hC.l39, hC.l41, hC.l43, hC.l44, hC.l45, hC.l46, hC.l47, hC.l48, hC.l49, hC.l50, hC.l51, hC.l52, hC.l53, hC.l54, hC.l35, hC.n33, hC.n36, hC.dl R W, hC.fl R W, hC.ll R W, hC.tl R W, R.d1, R.d2, R.d3, R.d4, R.dn, R.da, R.f1, R.f2, R.f3, R.f4, R.fn, R.fa, R.t1, R.t2, R.t3, R.t4, R.t5, R.tn, R.ta, R.l0, R.l1, R.l2, R.l3, R.l7, R.ln, R.lv, R.r5, R.r6, R.r8, R.r13, R.r4, R.r10, R.r11, R.r12, R.r9, R.mt, R.ml, R.lg, R.lp, R.lr, R.lo W, R.ls W, R.1.1, R.1.2.1, R.1.2.2.1, R.1.2.2.2.1, R.1.2.2.2.2.1, R.1.2.2.2.2.2.1, R.1.2.2.2.2.2.2, R.born, R.good, R.unw, R.hp, R.hf, R.ht, ss.1, ss.2, n4, mb_eq (C_paperOn hC R W X x4 hg ss), ck.1, ck.2, mo, mb_eq (C_isPaperKind _ _), m11_taken_p98]
              rw [if_pos a6]
          · rw [if_pos (by omega)]
            have em : (if 1 ≤ kOn sg s ∧ kOn sg s ≤ 6 then some (pOn h (sg 24 s) (sg 25 s)) else none) = none := if_neg ck
            have cp := C_paperOn hC R W X x4 hg ss
            rw [em] at cp
            simp (config := { maxSteps := 1000000 }) (disch := first | assumption | exact W.i _ _ | exact sLine_i W _ _ _ | exact W1.i _ _ | exact hg _ _ | exact W3.i _ _ | (refine ⟨?_, ?_⟩ <;> omega) | omega | (simp only [sW_1, sW_2, sW_3, sW_4, sW_5, sW_8] <;> first | assumption | omega | (refine ⟨?_, ?_⟩ <;> omega)) | (simp only [sT_1, sT_2, sT_3, sT_4, sT_5, sT_8] <;> first | assumption | omega | (refine ⟨?_, ?_⟩ <;> omega))) only [Int.reduceEq, Int.reduceLT, Int.reduceLE, Int.reduceNeg, Int.reduceAdd, Int.reduceSub, Int.reduceMul, if_true, if_false, not_true, not_false_eq_true, false_or, or_false, true_or, or_true, true_and, and_true, false_and, and_false, iI_on, iI_mul, iI_add, iI_sub, iI_neg, ap_if, mp_eq, mz_0, mz_1, mz_b, b2_0, b2_1, iI_lt, iI_le, iI_inj, mb_div, mb_rem, hC.m0, hC.m1, hC.m13, hC.m15, hC.m27, hC.m29, hC.m38, hC.m40, hC.g0_0, hC.g0_1, hC.g0_3, hC.g0_4, hC.g0_5, hC.g0_6, hC.g0_7, hC.g0_8, hC.g0_9, hC.g0_10, hC.g0_11, hC.g0_12, hC.g0_13, hC.g0_14, hC.g1_2, hC.g1_3, hC.g1_5, hC.g1_7, hC.g1_9, hC.g1_11, hC.g1_12, hC.g1_14, hC.g1_15, hC.g1_16, hC.g1_17, hC.g1_18, hC.g13_0, hC.g15_2, hC.g15_3, hC.g15_5, hC.g15_7, hC.g15_9, hC.g15_11, hC.g15_12, hC.g15_14, hC.g15_15, hC.g15_16, hC.g15_17, hC.g15_18, hC.g27_0, hC.g29_3, hC.g29_4, hC.g29_5, hC.g29_6, hC.g29_7, hC.g29_8, hC.g29_9, hC.g29_10, hC.g38_0, hC.g40_0, hC.s0_2, hC.s1_0, hC.s1_1, hC.s1_4, hC.s1_6, hC.s1_8, hC.s1_10, hC.s1_13, hC.s13_1, hC.s15_0, hC.s15_1, hC.s15_4, hC.s15_6, hC.s15_8, hC.s15_10, hC.s15_13, hC.s27_1, hC.s29_0, hC.s29_1, hC.s29_2, hC.s29_11, hC.s29_12, hC.s38_1, hC.s40_1, hC.s40_2, hC.l2, hC.l3, hC.l8, hC.l9, hC.l10, hC.l11, hC.l12, hC.l14, hC.l16, hC.l17, hC.l22, hC.l23, hC.l24, hC.l25, hC.l26, hC.l28, hC.l30, hC.l31, hC.l32, hC.l33, hC.l34, hC.l36, hC.l37, hC.l39, hC.l41, hC.l43, hC.l44, hC.l45, hC.l46, hC.l47, hC.l48, hC.l49, hC.l50, hC.l51, hC.l52, hC.l53, hC.l54, hC.l35, hC.n33, hC.n36, hC.dl R W, hC.fl R W, hC.ll R W, hC.tl R W, R.d1, R.d2, R.d3, R.d4, R.dn, R.da, R.f1, R.f2, R.f3, R.f4, R.fn, R.fa, R.t1, R.t2, R.t3, R.t4, R.t5, R.tn, R.ta, R.l0, R.l1, R.l2, R.l3, R.l7, R.ln, R.lv, R.r5, R.r6, R.r8, R.r13, R.r4, R.r10, R.r11, R.r12, R.r9, R.mt, R.ml, R.lg, R.lp, R.lr, R.lo W, R.ls W, R.1.1, R.1.2.1, R.1.2.2.1, R.1.2.2.2.1, R.1.2.2.2.2.1, R.1.2.2.2.2.2.1, R.1.2.2.2.2.2.2, R.born, R.good, R.unw, R.hp, R.hf, R.ht, ss.1, ss.2, n4, mb_eq cp, mo]
        · obtain ⟨z4, z5, z6⟩ := z4
          have ek : kOn sg s = 9 := by
            unfold kOn
            rw [if_neg (by omega), if_pos z1]
          rw [ek, if_neg (by omega), if_pos rfl]
          simp (config := { maxSteps := 1000000 }) (disch := first | assumption | exact W.i _ _ | exact sLine_i W _ _ _ | exact W1.i _ _ | exact hg _ _ | exact W3.i _ _ | (refine ⟨?_, ?_⟩ <;> omega) | omega | (simp only [sW_1, sW_2, sW_3, sW_4, sW_5, sW_8] <;> first | assumption | omega | (refine ⟨?_, ?_⟩ <;> omega)) | (simp only [sT_1, sT_2, sT_3, sT_4, sT_5, sT_8] <;> first | assumption | omega | (refine ⟨?_, ?_⟩ <;> omega))) only [Int.reduceEq, Int.reduceLT, Int.reduceLE, Int.reduceNeg, Int.reduceAdd, Int.reduceSub, Int.reduceMul, if_true, if_false, not_true, not_false_eq_true, false_or, or_false, true_or, or_true, true_and, and_true, false_and, and_false, iI_on, iI_mul, iI_add, iI_sub, iI_neg, ap_if, mp_eq, mz_0, mz_1, mz_b, b2_0, b2_1, iI_lt, iI_le, iI_inj, mb_div, mb_rem, hC.m0, hC.m1, hC.m13, hC.m15, hC.m27, hC.m29, hC.m38, hC.m40, hC.g0_0, hC.g0_1, hC.g0_3, hC.g0_4, hC.g0_5, hC.g0_6, hC.g0_7, hC.g0_8, hC.g0_9, hC.g0_10, hC.g0_11, hC.g0_12, hC.g0_13, hC.g0_14, hC.g1_2, hC.g1_3, hC.g1_5, hC.g1_7, hC.g1_9, hC.g1_11, hC.g1_12, hC.g1_14, hC.g1_15, hC.g1_16, hC.g1_17, hC.g1_18, hC.g13_0, hC.g15_2, hC.g15_3, hC.g15_5, hC.g15_7, hC.g15_9, hC.g15_11, hC.g15_12, hC.g15_14, hC.g15_15, hC.g15_16, hC.g15_17, hC.g15_18, hC.g27_0, hC.g29_3, hC.g29_4, hC.g29_5, hC.g29_6, hC.g29_7, hC.g29_8, hC.g29_9, hC.g29_10, hC.g38_0, hC.g40_0, hC.s0_2, hC.s1_0, hC.s1_1, hC.s1_4, hC.s1_6, hC.s1_8, hC.s1_10, hC.s1_13, hC.s13_1, hC.s15_0, hC.s15_1, hC.s15_4, hC.s15_6, hC.s15_8, hC.s15_10, hC.s15_13, hC.s27_1, hC.s29_0, hC.s29_1, hC.s29_2, hC.s29_11, hC.s29_12, hC.s38_1, hC.s40_1, hC.s40_2, hC.l2, hC.l3, hC.l8, hC.l9, hC.l10, hC.l11, hC.l12, hC.l14, hC.l16, hC.l17, hC.l22, hC.l23, hC.l24, hC.l25, hC.l26, hC.l28, hC.l30, hC.l31, hC.l32, hC.l33, hC.l34, hC.l36, hC.l37, hC.l39, hC.l41, hC.l43, hC.l44, hC.l45, hC.l46, hC.l47, hC.l48, hC.l49, hC.l50, hC.l51, hC.l52, hC.l53, hC.l54, hC.l35, hC.n33, hC.n36, hC.dl R W, hC.fl R W, hC.ll R W, hC.tl R W, R.d1, R.d2, R.d3, R.d4, R.dn, R.da, R.f1, R.f2, R.f3, R.f4, R.fn, R.fa, R.t1, R.t2, R.t3, R.t4, R.t5, R.tn, R.ta, R.l0, R.l1, R.l2, R.l3, R.l7, R.ln, R.lv, R.r5, R.r6, R.r8, R.r13, R.r4, R.r10, R.r11, R.r12, R.r9, R.mt, R.ml, R.lg, R.lp, R.lr, R.lo W, R.ls W, R.1.1, R.1.2.1, R.1.2.2.1, R.1.2.2.2.1, R.1.2.2.2.2.1, R.1.2.2.2.2.2.1, R.1.2.2.2.2.2.2, R.born, R.good, R.unw, R.hp, R.hf, R.ht, ss.1, ss.2, z2, z3, z4, m11_taken_p60]
          by_cases cq : a = 10 + sg 25 s
          · rw [if_pos cq, if_pos (by omega)]
          · rw [if_neg cq, if_neg (by omega)]
      rw [if_pos c, ← key]
      by_cases a6 : 0 ≤ a ∧ a ≤ 6
      · simp (config := { maxSteps := 1000000 }) (disch := first | assumption | exact W.i _ _ | exact sLine_i W _ _ _ | exact W1.i _ _ | exact hg _ _ | exact W3.i _ _ | (refine ⟨?_, ?_⟩ <;> omega) | omega | (simp only [sW_1, sW_2, sW_3, sW_4, sW_5, sW_8] <;> first | assumption | omega | (refine ⟨?_, ?_⟩ <;> omega)) | (simp only [sT_1, sT_2, sT_3, sT_4, sT_5, sT_8] <;> first | assumption | omega | (refine ⟨?_, ?_⟩ <;> omega))) only [Int.reduceEq, Int.reduceLT, Int.reduceLE, Int.reduceNeg, Int.reduceAdd, Int.reduceSub, Int.reduceMul, if_true, if_false, not_true, not_false_eq_true, false_or, or_false, true_or, or_true, true_and, and_true, false_and, and_false, iI_on, iI_mul, iI_add, iI_sub, iI_neg, ap_if, mp_eq, mz_0, mz_1, mz_b, b2_0, b2_1, iI_lt, iI_le, iI_inj, mb_div, mb_rem, hC.m0, hC.m1, hC.m13, hC.m15, hC.m27, hC.m29, hC.m38, hC.m40, hC.g0_0, hC.g0_1, hC.g0_3, hC.g0_4, hC.g0_5, hC.g0_6, hC.g0_7, hC.g0_8, hC.g0_9, hC.g0_10, hC.g0_11, hC.g0_12, hC.g0_13, hC.g0_14, hC.g1_2, hC.g1_3, hC.g1_5, hC.g1_7, hC.g1_9, hC.g1_11, hC.g1_12, hC.g1_14, hC.g1_15, hC.g1_16, hC.g1_17, hC.g1_18, hC.g13_0, hC.g15_2, hC.g15_3, hC.g15_5, hC.g15_7, hC.g15_9, hC.g15_11, hC.g15_12, hC.g15_14, hC.g15_15, hC.g15_16, hC.g15_17, hC.g15_18, hC.g27_0, hC.g29_3, hC.g29_4, hC.g29_5, hC.g29_6, hC.g29_7, hC.g29_8, hC.g29_9, hC.g29_10, hC.g38_0, hC.g40_0, hC.s0_2, hC.s1_0, hC.s1_1, hC.s1_4, hC.s1_6, hC.s1_8, hC.s1_10, hC.s1_13, hC.s13_1, hC.s15_0, hC.s15_1, hC.s15_4, hC.s15_6, hC.s15_8, hC.s15_10, hC.s15_13, hC.s27_1, hC.s29_0, hC.s29_1, hC.s29_2, hC.s29_11, hC.s29_12, hC.s38_1, hC.s40_1, hC.s40_2, hC.l2, hC.l3, hC.l8, hC.l9, hC.l10, hC.l11, hC.l12, hC.l14, hC.l16, hC.l17, hC.l22, hC.l23, hC.l24, hC.l25, hC.l26, hC.l28, hC.l30, hC.l31, hC.l32, hC.l33, hC.l34, hC.l36, hC.l37, hC.l39, hC.l41, hC.l43, hC.l44, hC.l45, hC.l46, hC.l47, hC.l48, hC.l49, hC.l50, hC.l51, hC.l52, hC.l53, hC.l54, hC.l35, hC.n33, hC.n36, hC.p0_2, hC.p1_0, hC.p1_1, hC.p1_4, hC.p1_6, hC.p1_8, hC.p1_10, hC.p1_13, hC.p13_1, hC.p15_0, hC.p15_1, hC.p15_4, hC.p15_6, hC.p15_8, hC.p15_10, hC.p15_13, hC.p27_1, hC.p29_0, hC.p29_1, hC.p29_2, hC.p29_11, hC.p29_12, hC.p38_1, hC.p40_1, hC.p40_2, hC.w2, hC.w3, hC.w8, hC.w9, hC.w10, hC.w11, hC.w12, hC.w14, hC.w16, hC.w17, hC.w22, hC.w23, hC.w24, hC.w25, hC.w26, hC.w28, hC.w30, hC.w31, hC.w32, hC.w33, hC.w34, hC.w36, hC.w37, hC.w39, hC.w41, hC.w43, hC.w44, hC.w45, hC.w46, hC.w47, hC.w48, hC.w49, hC.w50, hC.w51, hC.w52, hC.w53, hC.w54, s3_at, s3_nk, s3_nj, mb_eq (C_isShelf _ _), ss.1, ss.2, mb_eq (C_isPaperKind _ _), a6.1, a6.2]
      · have a13 : 10 ≤ a ∧ a ≤ 13 := by omega
        simp (config := { maxSteps := 1000000 }) (disch := first | assumption | exact W.i _ _ | exact sLine_i W _ _ _ | exact W1.i _ _ | exact hg _ _ | exact W3.i _ _ | (refine ⟨?_, ?_⟩ <;> omega) | omega | (simp only [sW_1, sW_2, sW_3, sW_4, sW_5, sW_8] <;> first | assumption | omega | (refine ⟨?_, ?_⟩ <;> omega)) | (simp only [sT_1, sT_2, sT_3, sT_4, sT_5, sT_8] <;> first | assumption | omega | (refine ⟨?_, ?_⟩ <;> omega))) only [Int.reduceEq, Int.reduceLT, Int.reduceLE, Int.reduceNeg, Int.reduceAdd, Int.reduceSub, Int.reduceMul, if_true, if_false, not_true, not_false_eq_true, false_or, or_false, true_or, or_true, true_and, and_true, false_and, and_false, iI_on, iI_mul, iI_add, iI_sub, iI_neg, ap_if, mp_eq, mz_0, mz_1, mz_b, b2_0, b2_1, iI_lt, iI_le, iI_inj, mb_div, mb_rem, hC.m0, hC.m1, hC.m13, hC.m15, hC.m27, hC.m29, hC.m38, hC.m40, hC.g0_0, hC.g0_1, hC.g0_3, hC.g0_4, hC.g0_5, hC.g0_6, hC.g0_7, hC.g0_8, hC.g0_9, hC.g0_10, hC.g0_11, hC.g0_12, hC.g0_13, hC.g0_14, hC.g1_2, hC.g1_3, hC.g1_5, hC.g1_7, hC.g1_9, hC.g1_11, hC.g1_12, hC.g1_14, hC.g1_15, hC.g1_16, hC.g1_17, hC.g1_18, hC.g13_0, hC.g15_2, hC.g15_3, hC.g15_5, hC.g15_7, hC.g15_9, hC.g15_11, hC.g15_12, hC.g15_14, hC.g15_15, hC.g15_16, hC.g15_17, hC.g15_18, hC.g27_0, hC.g29_3, hC.g29_4, hC.g29_5, hC.g29_6, hC.g29_7, hC.g29_8, hC.g29_9, hC.g29_10, hC.g38_0, hC.g40_0, hC.s0_2, hC.s1_0, hC.s1_1, hC.s1_4, hC.s1_6, hC.s1_8, hC.s1_10, hC.s1_13, hC.s13_1, hC.s15_0, hC.s15_1, hC.s15_4, hC.s15_6, hC.s15_8, hC.s15_10, hC.s15_13, hC.s27_1, hC.s29_0, hC.s29_1, hC.s29_2, hC.s29_11, hC.s29_12, hC.s38_1, hC.s40_1, hC.s40_2, hC.l2, hC.l3, hC.l8, hC.l9, hC.l10, hC.l11, hC.l12, hC.l14, hC.l16, hC.l17, hC.l22, hC.l23, hC.l24, hC.l25, hC.l26, hC.l28, hC.l30, hC.l31, hC.l32, hC.l33, hC.l34, hC.l36, hC.l37, hC.l39, hC.l41, hC.l43, hC.l44, hC.l45, hC.l46, hC.l47, hC.l48, hC.l49, hC.l50, hC.l51, hC.l52, hC.l53, hC.l54, hC.l35, hC.n33, hC.n36, hC.p0_2, hC.p1_0, hC.p1_1, hC.p1_4, hC.p1_6, hC.p1_8, hC.p1_10, hC.p1_13, hC.p13_1, hC.p15_0, hC.p15_1, hC.p15_4, hC.p15_6, hC.p15_8, hC.p15_10, hC.p15_13, hC.p27_1, hC.p29_0, hC.p29_1, hC.p29_2, hC.p29_11, hC.p29_12, hC.p38_1, hC.p40_1, hC.p40_2, hC.w2, hC.w3, hC.w8, hC.w9, hC.w10, hC.w11, hC.w12, hC.w14, hC.w16, hC.w17, hC.w22, hC.w23, hC.w24, hC.w25, hC.w26, hC.w28, hC.w30, hC.w31, hC.w32, hC.w33, hC.w34, hC.w36, hC.w37, hC.w39, hC.w41, hC.w43, hC.w44, hC.w45, hC.w46, hC.w47, hC.w48, hC.w49, hC.w50, hC.w51, hC.w52, hC.w53, hC.w54, s3_at, s3_nk, s3_nj, mb_eq (C_isShelf _ _), ss.1, ss.2, mb_eq (C_isPaperKind _ _), mb_eq (C_isSort10 _ _), a13.1, a13.2]
        rw [if_pos a6]
    · rw [if_neg c]
      simp (config := { maxSteps := 1000000 }) (disch := first | assumption | exact W.i _ _ | exact sLine_i W _ _ _ | exact W1.i _ _ | exact hg _ _ | exact W3.i _ _ | (refine ⟨?_, ?_⟩ <;> omega) | omega | (simp only [sW_1, sW_2, sW_3, sW_4, sW_5, sW_8] <;> first | assumption | omega | (refine ⟨?_, ?_⟩ <;> omega)) | (simp only [sT_1, sT_2, sT_3, sT_4, sT_5, sT_8] <;> first | assumption | omega | (refine ⟨?_, ?_⟩ <;> omega))) only [Int.reduceEq, Int.reduceLT, Int.reduceLE, Int.reduceNeg, Int.reduceAdd, Int.reduceSub, Int.reduceMul, if_true, if_false, not_true, not_false_eq_true, false_or, or_false, true_or, or_true, true_and, and_true, false_and, and_false, iI_on, iI_mul, iI_add, iI_sub, iI_neg, ap_if, mp_eq, mz_0, mz_1, mz_b, b2_0, b2_1, iI_lt, iI_le, iI_inj, mb_div, mb_rem, hC.m0, hC.m1, hC.m13, hC.m15, hC.m27, hC.m29, hC.m38, hC.m40, hC.g0_0, hC.g0_1, hC.g0_3, hC.g0_4, hC.g0_5, hC.g0_6, hC.g0_7, hC.g0_8, hC.g0_9, hC.g0_10, hC.g0_11, hC.g0_12, hC.g0_13, hC.g0_14, hC.g1_2, hC.g1_3, hC.g1_5, hC.g1_7, hC.g1_9, hC.g1_11, hC.g1_12, hC.g1_14, hC.g1_15, hC.g1_16, hC.g1_17, hC.g1_18, hC.g13_0, hC.g15_2, hC.g15_3, hC.g15_5, hC.g15_7, hC.g15_9, hC.g15_11, hC.g15_12, hC.g15_14, hC.g15_15, hC.g15_16, hC.g15_17, hC.g15_18, hC.g27_0, hC.g29_3, hC.g29_4, hC.g29_5, hC.g29_6, hC.g29_7, hC.g29_8, hC.g29_9, hC.g29_10, hC.g38_0, hC.g40_0, hC.s0_2, hC.s1_0, hC.s1_1, hC.s1_4, hC.s1_6, hC.s1_8, hC.s1_10, hC.s1_13, hC.s13_1, hC.s15_0, hC.s15_1, hC.s15_4, hC.s15_6, hC.s15_8, hC.s15_10, hC.s15_13, hC.s27_1, hC.s29_0, hC.s29_1, hC.s29_2, hC.s29_11, hC.s29_12, hC.s38_1, hC.s40_1, hC.s40_2, hC.l2, hC.l3, hC.l8, hC.l9, hC.l10, hC.l11, hC.l12, hC.l14, hC.l16, hC.l17, hC.l22, hC.l23, hC.l24, hC.l25, hC.l26, hC.l28, hC.l30, hC.l31, hC.l32, hC.l33, hC.l34, hC.l36, hC.l37, hC.l39, hC.l41, hC.l43, hC.l44, hC.l45, hC.l46, hC.l47, hC.l48, hC.l49, hC.l50, hC.l51, hC.l52, hC.l53, hC.l54, hC.l35, hC.n33, hC.n36, hC.p0_2, hC.p1_0, hC.p1_1, hC.p1_4, hC.p1_6, hC.p1_8, hC.p1_10, hC.p1_13, hC.p13_1, hC.p15_0, hC.p15_1, hC.p15_4, hC.p15_6, hC.p15_8, hC.p15_10, hC.p15_13, hC.p27_1, hC.p29_0, hC.p29_1, hC.p29_2, hC.p29_11, hC.p29_12, hC.p38_1, hC.p40_1, hC.p40_2, hC.w2, hC.w3, hC.w8, hC.w9, hC.w10, hC.w11, hC.w12, hC.w14, hC.w16, hC.w17, hC.w22, hC.w23, hC.w24, hC.w25, hC.w26, hC.w28, hC.w30, hC.w31, hC.w32, hC.w33, hC.w34, hC.w36, hC.w37, hC.w39, hC.w41, hC.w43, hC.w44, hC.w45, hC.w46, hC.w47, hC.w48, hC.w49, hC.w50, hC.w51, hC.w52, hC.w53, hC.w54, s3_at, s3_nk, s3_nj, mb_eq (C_isShelf _ _), mb_eq (C_isPaperKind _ _), mb_eq (C_isSort10 _ _)]
      by_cases c1 : 0 ≤ s ∧ s ≤ 3
      · rw [if_neg (fun q => q c1), if_pos (fun q => c ⟨c1, Or.inl q⟩), if_pos (fun q => c ⟨c1, Or.inr q⟩)]
      · rw [if_pos c1]
  · unfold oTaken m12_taken m12_taken_p28
    by_cases c : tkOK s a
    · have ss := c.1
      have kb := kOn_b W X ss
      have i25 := W.i 25 s
      have kl : i32 (kOn sg s) := by omega
      have x25 := X.2.2.1 s ss.1 (by omega)
      have key : m12_taken_p30 55 (iI s) (iI a) (mK 55 sg H) = some (iI (if kOn sg s < 0 then -11 else if kOn sg s = 9 then (if a = 10 + sg 25 s then sg 26 s else -13) else if a < 10 ∧ under (kOn sg s) a then sg 25 s else -13), mK 55 sg H) := by
        unfold m12_taken_p30 m12_taken_p97
        by_cases k0 : kOn sg s < 0
        · rw [if_pos k0]
          simp (config := { maxSteps := 1000000 }) (disch := first | assumption | exact W.i _ _ | exact sLine_i W _ _ _ | exact W1.i _ _ | exact hg _ _ | exact W3.i _ _ | (refine ⟨?_, ?_⟩ <;> omega) | omega | (simp only [sW_1, sW_2, sW_3, sW_4, sW_5, sW_8] <;> first | assumption | omega | (refine ⟨?_, ?_⟩ <;> omega)) | (simp only [sT_1, sT_2, sT_3, sT_4, sT_5, sT_8] <;> first | assumption | omega | (refine ⟨?_, ?_⟩ <;> omega))) only [Int.reduceEq, Int.reduceLT, Int.reduceLE, Int.reduceNeg, Int.reduceAdd, Int.reduceSub, Int.reduceMul, if_true, if_false, not_true, not_false_eq_true, false_or, or_false, true_or, or_true, true_and, and_true, false_and, and_false, iI_on, iI_mul, iI_add, iI_sub, iI_neg, ap_if, mp_eq, mz_0, mz_1, mz_b, b2_0, b2_1, iI_lt, iI_le, iI_inj, mb_div, mb_rem, hM.m, hM.a1, hM.a2, hM.a3, hM.a4, hM.a5, hM.a6, hM.a7, hM.a8, hM.a9, hM.a10, hM.a11, hM.a12, hM.a13, hM.a14, hM.a15, hM.a16, hM.a17, hM.a18, hM.a19, hM.a20, hM.a21, hM.a22, hM.a23, hM.a24, hM.a25, hM.a26, hM.a27, hM.a28, hM.l1, hM.l2, hM.l3, hM.l4, hM.l5, hM.l6, hM.l7, hM.l8, hM.l9, hM.l10, hM.l11, hM.l12, hM.l13, hM.l14, hM.l15, hM.l16, hM.l17, hM.l18, hM.l19, hM.l20, hM.l21, hM.l22, hM.l23, hM.l24, hM.l25, hM.l26, hM.l27, hM.l28, hM.c10, hM.c11, hM.c12, hM.c13, hM.c14, hM.c15, hM.c19, hM.c20, hM.c23, hM.c27, hM.c36, hM.c37, hM.c38, hM.c40, hM.c41, hM.c42, hM.c44, mb_eq (B_kindOn hM W X ss), show ¬ 0 ≤ kOn sg s by omega]
        · rw [if_neg k0]
          by_cases k9 : kOn sg s = 9
          · rw [if_pos k9]
            have z5 : sg 24 s = 4 ∧ 0 ≤ sg 25 s ∧ sg 25 s ≤ 3 := by
              rcases x4 s ss.1 (by omega) with ⟨z1, z2⟩ | ⟨z1, z2, z3⟩ | ⟨z1, z2, z3, z4, z5, z6⟩
              · unfold kOn at k9
                rw [if_pos (by omega)] at k9
                omega
              · exact absurd k9 (kOn_n9 W z1)
              · exact ⟨z1, z5, z6⟩
            simp (config := { maxSteps := 1000000 }) (disch := first | assumption | exact W.i _ _ | exact sLine_i W _ _ _ | exact W1.i _ _ | exact hg _ _ | exact W3.i _ _ | (refine ⟨?_, ?_⟩ <;> omega) | omega | (simp only [sW_1, sW_2, sW_3, sW_4, sW_5, sW_8] <;> first | assumption | omega | (refine ⟨?_, ?_⟩ <;> omega)) | (simp only [sT_1, sT_2, sT_3, sT_4, sT_5, sT_8] <;> first | assumption | omega | (refine ⟨?_, ?_⟩ <;> omega))) only [Int.reduceEq, Int.reduceLT, Int.reduceLE, Int.reduceNeg, Int.reduceAdd, Int.reduceSub, Int.reduceMul, if_true, if_false, not_true, not_false_eq_true, false_or, or_false, true_or, or_true, true_and, and_true, false_and, and_false, iI_on, iI_mul, iI_add, iI_sub, iI_neg, ap_if, mp_eq, mz_0, mz_1, mz_b, b2_0, b2_1, iI_lt, iI_le, iI_inj, mb_div, mb_rem, hM.m, hM.a1, hM.a2, hM.a3, hM.a4, hM.a5, hM.a6, hM.a7, hM.a8, hM.a9, hM.a10, hM.a11, hM.a12, hM.a13, hM.a14, hM.a15, hM.a16, hM.a17, hM.a18, hM.a19, hM.a20, hM.a21, hM.a22, hM.a23, hM.a24, hM.a25, hM.a26, hM.a27, hM.a28, hM.l1, hM.l2, hM.l3, hM.l4, hM.l5, hM.l6, hM.l7, hM.l8, hM.l9, hM.l10, hM.l11, hM.l12, hM.l13, hM.l14, hM.l15, hM.l16, hM.l17, hM.l18, hM.l19, hM.l20, hM.l21, hM.l22, hM.l23, hM.l24, hM.l25, hM.l26, hM.l27, hM.l28, hM.c10, hM.c11, hM.c12, hM.c13, hM.c14, hM.c15, hM.c19, hM.c20, hM.c23, hM.c27, hM.c36, hM.c37, hM.c38, hM.c40, hM.c41, hM.c42, hM.c44, mb_eq (B_kindOn hM W X ss), k9, ss.1, ss.2, m12_taken_p73]
            by_cases cq : a = 10 + sg 25 s
            · rw [if_pos cq, if_pos (by omega)]
            · rw [if_neg cq, if_neg (by omega)]
          · rw [if_neg k9]
            by_cases ca : a < 10 ∧ under (kOn sg s) a
            · have eu : b2 (under (kOn sg s) a) = 1 := b2_t ca.2
              rw [if_pos ca]
              simp (config := { maxSteps := 1000000 }) (disch := first | assumption | exact W.i _ _ | exact sLine_i W _ _ _ | exact W1.i _ _ | exact hg _ _ | exact W3.i _ _ | (refine ⟨?_, ?_⟩ <;> omega) | omega | (simp only [sW_1, sW_2, sW_3, sW_4, sW_5, sW_8] <;> first | assumption | omega | (refine ⟨?_, ?_⟩ <;> omega)) | (simp only [sT_1, sT_2, sT_3, sT_4, sT_5, sT_8] <;> first | assumption | omega | (refine ⟨?_, ?_⟩ <;> omega))) only [Int.reduceEq, Int.reduceLT, Int.reduceLE, Int.reduceNeg, Int.reduceAdd, Int.reduceSub, Int.reduceMul, if_true, if_false, not_true, not_false_eq_true, false_or, or_false, true_or, or_true, true_and, and_true, false_and, and_false, iI_on, iI_mul, iI_add, iI_sub, iI_neg, ap_if, mp_eq, mz_0, mz_1, mz_b, b2_0, b2_1, iI_lt, iI_le, iI_inj, mb_div, mb_rem, hM.m, hM.a1, hM.a2, hM.a3, hM.a4, hM.a5, hM.a6, hM.a7, hM.a8, hM.a9, hM.a10, hM.a11, hM.a12, hM.a13, hM.a14, hM.a15, hM.a16, hM.a17, hM.a18, hM.a19, hM.a20, hM.a21, hM.a22, hM.a23, hM.a24, hM.a25, hM.a26, hM.a27, hM.a28, hM.l1, hM.l2, hM.l3, hM.l4, hM.l5, hM.l6, hM.l7, hM.l8, hM.l9, hM.l10, hM.l11, hM.l12, hM.l13, hM.l14, hM.l15, hM.l16, hM.l17, hM.l18, hM.l19, hM.l20, hM.l21, hM.l22, hM.l23, hM.l24, hM.l25, hM.l26, hM.l27, hM.l28, hM.c10, hM.c11, hM.c12, hM.c13, hM.c14, hM.c15, hM.c19, hM.c20, hM.c23, hM.c27, hM.c36, hM.c37, hM.c38, hM.c40, hM.c41, hM.c42, hM.c44, mb_eq (B_kindOn hM W X ss), show 0 ≤ kOn sg s by omega, k9, show ¬ 10 ≤ a by omega, mb_eq (B_isUnder _ _ _), eu, ss.1, ss.2, m12_taken_p99]
            · rw [if_neg ca]
              by_cases a10 : 10 ≤ a
              · simp (config := { maxSteps := 1000000 }) (disch := first | assumption | exact W.i _ _ | exact sLine_i W _ _ _ | exact W1.i _ _ | exact hg _ _ | exact W3.i _ _ | (refine ⟨?_, ?_⟩ <;> omega) | omega | (simp only [sW_1, sW_2, sW_3, sW_4, sW_5, sW_8] <;> first | assumption | omega | (refine ⟨?_, ?_⟩ <;> omega)) | (simp only [sT_1, sT_2, sT_3, sT_4, sT_5, sT_8] <;> first | assumption | omega | (refine ⟨?_, ?_⟩ <;> omega))) only [Int.reduceEq, Int.reduceLT, Int.reduceLE, Int.reduceNeg, Int.reduceAdd, Int.reduceSub, Int.reduceMul, if_true, if_false, not_true, not_false_eq_true, false_or, or_false, true_or, or_true, true_and, and_true, false_and, and_false, iI_on, iI_mul, iI_add, iI_sub, iI_neg, ap_if, mp_eq, mz_0, mz_1, mz_b, b2_0, b2_1, iI_lt, iI_le, iI_inj, mb_div, mb_rem, hM.m, hM.a1, hM.a2, hM.a3, hM.a4, hM.a5, hM.a6, hM.a7, hM.a8, hM.a9, hM.a10, hM.a11, hM.a12, hM.a13, hM.a14, hM.a15, hM.a16, hM.a17, hM.a18, hM.a19, hM.a20, hM.a21, hM.a22, hM.a23, hM.a24, hM.a25, hM.a26, hM.a27, hM.a28, hM.l1, hM.l2, hM.l3, hM.l4, hM.l5, hM.l6, hM.l7, hM.l8, hM.l9, hM.l10, hM.l11, hM.l12, hM.l13, hM.l14, hM.l15, hM.l16, hM.l17, hM.l18, hM.l19, hM.l20, hM.l21, hM.l22, hM.l23, hM.l24, hM.l25, hM.l26, hM.l27, hM.l28, hM.c10, hM.c11, hM.c12, hM.c13, hM.c14, hM.c15, hM.c19, hM.c20, hM.c23, hM.c27, hM.c36, hM.c37, hM.c38, hM.c40, hM.c41, hM.c42, hM.c44, mb_eq (B_kindOn hM W X ss), show 0 ≤ kOn sg s by omega, k9, a10, m12_taken_p99]
              · have eu : b2 (under (kOn sg s) a) = 0 := b2_f (fun q => ca ⟨by omega, q⟩)
                simp (config := { maxSteps := 1000000 }) (disch := first | assumption | exact W.i _ _ | exact sLine_i W _ _ _ | exact W1.i _ _ | exact hg _ _ | exact W3.i _ _ | (refine ⟨?_, ?_⟩ <;> omega) | omega | (simp only [sW_1, sW_2, sW_3, sW_4, sW_5, sW_8] <;> first | assumption | omega | (refine ⟨?_, ?_⟩ <;> omega)) | (simp only [sT_1, sT_2, sT_3, sT_4, sT_5, sT_8] <;> first | assumption | omega | (refine ⟨?_, ?_⟩ <;> omega))) only [Int.reduceEq, Int.reduceLT, Int.reduceLE, Int.reduceNeg, Int.reduceAdd, Int.reduceSub, Int.reduceMul, if_true, if_false, not_true, not_false_eq_true, false_or, or_false, true_or, or_true, true_and, and_true, false_and, and_false, iI_on, iI_mul, iI_add, iI_sub, iI_neg, ap_if, mp_eq, mz_0, mz_1, mz_b, b2_0, b2_1, iI_lt, iI_le, iI_inj, mb_div, mb_rem, hM.m, hM.a1, hM.a2, hM.a3, hM.a4, hM.a5, hM.a6, hM.a7, hM.a8, hM.a9, hM.a10, hM.a11, hM.a12, hM.a13, hM.a14, hM.a15, hM.a16, hM.a17, hM.a18, hM.a19, hM.a20, hM.a21, hM.a22, hM.a23, hM.a24, hM.a25, hM.a26, hM.a27, hM.a28, hM.l1, hM.l2, hM.l3, hM.l4, hM.l5, hM.l6, hM.l7, hM.l8, hM.l9, hM.l10, hM.l11, hM.l12, hM.l13, hM.l14, hM.l15, hM.l16, hM.l17, hM.l18, hM.l19, hM.l20, hM.l21, hM.l22, hM.l23, hM.l24, hM.l25, hM.l26, hM.l27, hM.l28, hM.c10, hM.c11, hM.c12, hM.c13, hM.c14, hM.c15, hM.c19, hM.c20, hM.c23, hM.c27, hM.c36, hM.c37, hM.c38, hM.c40, hM.c41, hM.c42, hM.c44, mb_eq (B_kindOn hM W X ss), show 0 ≤ kOn sg s by omega, k9, a10, mb_eq (B_isUnder _ _ _), eu, m12_taken_p99]
      rw [if_pos c, ← key]
      by_cases a6 : 0 ≤ a ∧ a ≤ 6
      · simp (config := { maxSteps := 1000000 }) (disch := first | assumption | exact W.i _ _ | exact sLine_i W _ _ _ | exact W1.i _ _ | exact hg _ _ | exact W3.i _ _ | (refine ⟨?_, ?_⟩ <;> omega) | omega | (simp only [sW_1, sW_2, sW_3, sW_4, sW_5, sW_8] <;> first | assumption | omega | (refine ⟨?_, ?_⟩ <;> omega)) | (simp only [sT_1, sT_2, sT_3, sT_4, sT_5, sT_8] <;> first | assumption | omega | (refine ⟨?_, ?_⟩ <;> omega))) only [Int.reduceEq, Int.reduceLT, Int.reduceLE, Int.reduceNeg, Int.reduceAdd, Int.reduceSub, Int.reduceMul, if_true, if_false, not_true, not_false_eq_true, false_or, or_false, true_or, or_true, true_and, and_true, false_and, and_false, iI_on, iI_mul, iI_add, iI_sub, iI_neg, ap_if, mp_eq, mz_0, mz_1, mz_b, b2_0, b2_1, iI_lt, iI_le, iI_inj, mb_div, mb_rem, hM.m, hM.a1, hM.a2, hM.a3, hM.a4, hM.a5, hM.a6, hM.a7, hM.a8, hM.a9, hM.a10, hM.a11, hM.a12, hM.a13, hM.a14, hM.a15, hM.a16, hM.a17, hM.a18, hM.a19, hM.a20, hM.a21, hM.a22, hM.a23, hM.a24, hM.a25, hM.a26, hM.a27, hM.a28, hM.l1, hM.l2, hM.l3, hM.l4, hM.l5, hM.l6, hM.l7, hM.l8, hM.l9, hM.l10, hM.l11, hM.l12, hM.l13, hM.l14, hM.l15, hM.l16, hM.l17, hM.l18, hM.l19, hM.l20, hM.l21, hM.l22, hM.l23, hM.l24, hM.l25, hM.l26, hM.l27, hM.l28, hM.c10, hM.c11, hM.c12, hM.c13, hM.c14, hM.c15, hM.c19, hM.c20, hM.c23, hM.c27, hM.c36, hM.c37, hM.c38, hM.c40, hM.c41, hM.c42, hM.c44, mb_eq (B_isShelf _ _), ss.1, ss.2, mb_eq (B_in _ _ _ _), a6.1, a6.2]
      · have a13 : 10 ≤ a ∧ a ≤ 13 := by omega
        simp (config := { maxSteps := 1000000 }) (disch := first | assumption | exact W.i _ _ | exact sLine_i W _ _ _ | exact W1.i _ _ | exact hg _ _ | exact W3.i _ _ | (refine ⟨?_, ?_⟩ <;> omega) | omega | (simp only [sW_1, sW_2, sW_3, sW_4, sW_5, sW_8] <;> first | assumption | omega | (refine ⟨?_, ?_⟩ <;> omega)) | (simp only [sT_1, sT_2, sT_3, sT_4, sT_5, sT_8] <;> first | assumption | omega | (refine ⟨?_, ?_⟩ <;> omega))) only [Int.reduceEq, Int.reduceLT, Int.reduceLE, Int.reduceNeg, Int.reduceAdd, Int.reduceSub, Int.reduceMul, if_true, if_false, not_true, not_false_eq_true, false_or, or_false, true_or, or_true, true_and, and_true, false_and, and_false, iI_on, iI_mul, iI_add, iI_sub, iI_neg, ap_if, mp_eq, mz_0, mz_1, mz_b, b2_0, b2_1, iI_lt, iI_le, iI_inj, mb_div, mb_rem, hM.m, hM.a1, hM.a2, hM.a3, hM.a4, hM.a5, hM.a6, hM.a7, hM.a8, hM.a9, hM.a10, hM.a11, hM.a12, hM.a13, hM.a14, hM.a15, hM.a16, hM.a17, hM.a18, hM.a19, hM.a20, hM.a21, hM.a22, hM.a23, hM.a24, hM.a25, hM.a26, hM.a27, hM.a28, hM.l1, hM.l2, hM.l3, hM.l4, hM.l5, hM.l6, hM.l7, hM.l8, hM.l9, hM.l10, hM.l11, hM.l12, hM.l13, hM.l14, hM.l15, hM.l16, hM.l17, hM.l18, hM.l19, hM.l20, hM.l21, hM.l22, hM.l23, hM.l24, hM.l25, hM.l26, hM.l27, hM.l28, hM.c10, hM.c11, hM.c12, hM.c13, hM.c14, hM.c15, hM.c19, hM.c20, hM.c23, hM.c27, hM.c36, hM.c37, hM.c38, hM.c40, hM.c41, hM.c42, hM.c44, mb_eq (B_isShelf _ _), ss.1, ss.2, mb_eq (B_in _ _ _ _), a13.1, a13.2]
        rw [if_pos a6]
    · rw [if_neg c]
      simp (config := { maxSteps := 1000000 }) (disch := first | assumption | exact W.i _ _ | exact sLine_i W _ _ _ | exact W1.i _ _ | exact hg _ _ | exact W3.i _ _ | (refine ⟨?_, ?_⟩ <;> omega) | omega | (simp only [sW_1, sW_2, sW_3, sW_4, sW_5, sW_8] <;> first | assumption | omega | (refine ⟨?_, ?_⟩ <;> omega)) | (simp only [sT_1, sT_2, sT_3, sT_4, sT_5, sT_8] <;> first | assumption | omega | (refine ⟨?_, ?_⟩ <;> omega))) only [Int.reduceEq, Int.reduceLT, Int.reduceLE, Int.reduceNeg, Int.reduceAdd, Int.reduceSub, Int.reduceMul, if_true, if_false, not_true, not_false_eq_true, false_or, or_false, true_or, or_true, true_and, and_true, false_and, and_false, iI_on, iI_mul, iI_add, iI_sub, iI_neg, ap_if, mp_eq, mz_0, mz_1, mz_b, b2_0, b2_1, iI_lt, iI_le, iI_inj, mb_div, mb_rem, hM.m, hM.a1, hM.a2, hM.a3, hM.a4, hM.a5, hM.a6, hM.a7, hM.a8, hM.a9, hM.a10, hM.a11, hM.a12, hM.a13, hM.a14, hM.a15, hM.a16, hM.a17, hM.a18, hM.a19, hM.a20, hM.a21, hM.a22, hM.a23, hM.a24, hM.a25, hM.a26, hM.a27, hM.a28, hM.l1, hM.l2, hM.l3, hM.l4, hM.l5, hM.l6, hM.l7, hM.l8, hM.l9, hM.l10, hM.l11, hM.l12, hM.l13, hM.l14, hM.l15, hM.l16, hM.l17, hM.l18, hM.l19, hM.l20, hM.l21, hM.l22, hM.l23, hM.l24, hM.l25, hM.l26, hM.l27, hM.l28, hM.c10, hM.c11, hM.c12, hM.c13, hM.c14, hM.c15, hM.c19, hM.c20, hM.c23, hM.c27, hM.c36, hM.c37, hM.c38, hM.c40, hM.c41, hM.c42, hM.c44, mb_eq (B_isShelf _ _), mb_eq (B_in _ _ _ _)]
      by_cases c1 : 0 ≤ s ∧ s ≤ 3
      · rw [if_neg (fun q => q c1), if_pos (fun q => c ⟨c1, Or.inl q⟩), if_pos (fun q => c ⟨c1, Or.inr q⟩)]
      · rw [if_pos c1]
end ACT

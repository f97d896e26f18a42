/-! ===== a call on both: the docket goes on ===== -/
theorem mb_as {α β γ : Type} (x : gM α) (f : α → gM β) (g : β → gM γ) : mb (mb x f) g = mb x fun a => mb (f a) g := by
  funext h
  unfold mb
  cases x h <;> rfl
theorem mb_mp {α β : Type} (a : α) (f : α → gM β) : mb (mp a) f = f a := by
  funext h
  rfl
theorem CI.up {sg sg' rho rho' : Nat → Int → Int} {h h' : gH} (C : CI sg rho h) (k1 : ∀ q, q = 0 ∨ 10 ≤ q → sg' q = sg q) (k2 : ∀ q, q = 0 ∨ 12 ≤ q → rho' q = rho q) (hg : okG rho') (hC : OKC h') (hL : LB h') (R : RDs 1 sg' rho' h') (x1 : ∀ (q : Nat) (x : Nat × Nat), h.1[q]? = some x → h'.1[q]? = some x) (x2 : ∀ q, 84 ≤ q → q < h.1.length → h'.2.1 q = h.2.1 q ∧ h'.2.2 q = h.2.2 q) (x3 : ∀ q, 18 ≤ q → q ≤ 21 → h'.2.2 q = h.2.2 q) : CI sg' rho' h' := by
  obtain ⟨a, b, c, d, e, f, g, i, j, k, l⟩ := C
  have ek : kG sg' = kG sg := by
    funext q z
    unfold kG
    rw [k1 28 (by omega)]
  have len : h.1.length ≤ h'.1.length := by
    rcases Nat.lt_or_ge h'.1.length h.1.length with z | z
    · have hz : h.1[h'.1.length]? = some h.1[h'.1.length] := List.getElem?_eq_getElem z
      have := x1 _ _ hz
      have := (List.getElem?_eq_some_iff.mp this).1
      omega
    · exact z
  refine ⟨hC, hL, hg, by omega, R, ⟨?_, fun q => ?_⟩, ?_, ?_, ?_, ?_, ?_⟩
  · rw [k1 0 (by omega), k2 0 (by omega)]; exact f.1
  · rw [ek]
    refine ((f.2 (by rw [← k1 0 (by omega)]; exact q)).ext x1 x2 (fun q a b => x3 q (by omega) (by omega))).co (fun q a b => k2 q (by omega))
  · unfold XR
    rw [k1 0 (by omega), k1 19 (by omega), k2 38 (by omega), k2 39 (by omega)]; exact g
  · unfold XT
    rw [k1 0 (by omega), k1 10 (by omega), k2 29 (by omega), k2 35 (by omega)]; exact i
  · intro s s0 s1
    rw [k1 21 (by omega), k1 22 (by omega), k1 23 (by omega), k2 47 (by omega), k2 48 (by omega), k2 (43 + s.toNat) (by omega)]; exact j s s0 s1
  · unfold XH
    rw [k1 24 (by omega), k1 25 (by omega), k1 26 (by omega), k2 49 (by omega), k2 50 (by omega), k2 51 (by omega), k2 52 (by omega)]; exact k
  · unfold XB
    rw [k1 0 (by omega), k1 27 (by omega), k2 40 (by omega), k2 41 (by omega), k2 54 (by omega)]; exact l
theorem CI.u0 {sg sg' rho rho' : Nat → Int → Int} {h : gH} (C : CI sg rho h) (k1 : ∀ q, q = 0 ∨ 10 ≤ q → sg' q = sg q) (k2 : ∀ q, q = 0 ∨ 12 ≤ q → rho' q = rho q) (hg : okG rho') (R : RDs 1 sg' rho' h) : CI sg' rho' h :=
  C.up k1 k2 hg C.1 C.2.1 R (fun _ _ h => h) (fun _ _ _ => ⟨rfl, rfl⟩) (fun _ _ _ => rfl)
theorem s3_o {sg : Nat → Int → Int} {k q : Nat} {j v : Int} (h : q ≠ k) : s3 sg k j v q = sg q := by
  funext j'
  exact s3_nk h
theorem WY.s {sg : Nat → Int → Int} (Y : WY sg) {k : Nat} {j v : Int} (h1 : 1 ≤ k) (h9 : k ≤ 9) (hj : 0 ≤ j ∧ j < lenK k) : WY (s3 sg k j v) := by
  obtain ⟨a, b, c, d, e⟩ := Y
  have ek : kG (s3 sg k j v) = kG sg := by
    funext q z
    unfold kG
    rw [s3_o (by omega)]
  refine ⟨?_, ?_, ?_, ?_, e.s (by omega)⟩
  · rw [s3_o (by omega)]; exact a
  · rw [s3_o (by omega)]; exact b
  · rw [s3_o (by omega)]; exact c
  · rw [s3_o (by omega), ek]; exact d
theorem WX.s {sg : Nat → Int → Int} (X : WX sg) {k : Nat} {j v : Int} (h1 : 1 ≤ k) (h9 : k ≤ 9) : WX (s3 sg k j v) := by
  obtain ⟨a, b, c, d⟩ := X
  refine ⟨?_, ?_, ?_, ?_⟩
  · rw [s3_o (by omega)]; exact a
  · rw [s3_o (by omega), s3_o (by omega)]; exact b
  · rw [s3_o (by omega)]; exact c
  · rw [s3_o (by omega)]; exact d
section UPD
variable {sg rho : Nat → Int → Int} {h : gH}
theorem T_days (I : Inv sg rho h) {n : Int} (hn : i32 n) : Both (m11_days 0 (iI n)) (m12_days 55 (iI n)) rho h := by
  have hC := I.1.1
  have hg := I.1.2.2.1
  have R := I.1.2.2.2.2.1
  have W := I.2.1
  have n0 := W.n0
  by_cases c : 1 ≤ n ∧ n ≤ 2000
  · by_cases c2 : sg 1 0 + n ≤ 9999
    · refine both_of (r := iI (oDays sg n)) (rho' := s3 rho 1 0 (sg 1 0 + n)) (sg' := uDays sg n) I ?_ ?_ (hG.rf h) (fun H hM => B_days hM W hn) ?_ ?_ ?_
      · unfold m11_days oDays m11_days_p12
        rw [if_pos c, if_pos c2]
        simp (config := { maxSteps := 1000000 }) (disch := first | assumption | exact W.i _ _ | exact sLine_i W _ _ _ | exact W1.i _ _ | exact hg _ _ | exact W3.i _ _ | (refine ⟨?_, ?_⟩ <;> omega) | omega | (simp only [sW_1, sW_2, sW_3, sW_4, sW_5, sW_8] <;> first | assumption | omega | (refine ⟨?_, ?_⟩ <;> omega)) | (simp only [sT_1, sT_2, sT_3, sT_4, sT_5, sT_8] <;> first | assumption | omega | (refine ⟨?_, ?_⟩ <;> omega))) only [Int.reduceEq, Int.reduceLT, Int.reduceLE, Int.reduceNeg, Int.reduceAdd, Int.reduceSub, Int.reduceMul, if_true, if_false, not_true, not_false_eq_true, false_or, or_false, true_or, or_true, true_and, and_true, false_and, and_false, iI_on, iI_mul, iI_add, iI_sub, iI_neg, ap_if, mp_eq, mz_0, mz_1, mz_b, b2_0, b2_1, iI_lt, iI_le, iI_inj, mb_div, mb_rem, hC.m0, hC.m1, hC.m13, hC.m15, hC.m27, hC.m29, hC.m38, hC.m40, hC.g0_0, hC.g0_1, hC.g0_3, hC.g0_4, hC.g0_5, hC.g0_6, hC.g0_7, hC.g0_8, hC.g0_9, hC.g0_10, hC.g0_11, hC.g0_12, hC.g0_13, hC.g0_14, hC.g1_2, hC.g1_3, hC.g1_5, hC.g1_7, hC.g1_9, hC.g1_11, hC.g1_12, hC.g1_14, hC.g1_15, hC.g1_16, hC.g1_17, hC.g1_18, hC.g13_0, hC.g15_2, hC.g15_3, hC.g15_5, hC.g15_7, hC.g15_9, hC.g15_11, hC.g15_12, hC.g15_14, hC.g15_15, hC.g15_16, hC.g15_17, hC.g15_18, hC.g27_0, hC.g29_3, hC.g29_4, hC.g29_5, hC.g29_6, hC.g29_7, hC.g29_8, hC.g29_9, hC.g29_10, hC.g38_0, hC.g40_0, hC.s0_2, hC.s1_0, hC.s1_1, hC.s1_4, hC.s1_6, hC.s1_8, hC.s1_10, hC.s1_13, hC.s13_1, hC.s15_0, hC.s15_1, hC.s15_4, hC.s15_6, hC.s15_8, hC.s15_10, hC.s15_13, hC.s27_1, hC.s29_0, hC.s29_1, hC.s29_2, hC.s29_11, hC.s29_12, hC.s38_1, hC.s40_1, hC.s40_2, hC.l2, hC.l3, hC.l8, hC.l9, hC.l10, hC.l11, hC.l12, hC.l14, hC.l16, hC.l17, hC.l22, hC.l23, hC.l24, hC.l25, hC.l26, hC.l28, hC.l30, hC.l31, hC.l32, hC.l33, hC.l34, hC.l36, hC.l37, hC.l39, hC.l41, hC.l43, hC.l44, hC.l45, hC.l46, hC.l47, hC.l48, hC.l49, hC.l50, hC.l51, hC.l52, hC.l53, hC.l54, hC.l35, hC.n33, hC.n36, hC.dl R W, hC.fl R W, hC.ll R W, hC.tl R W, R.d1, R.d2, R.d3, R.d4, R.dn, R.da, R.f1, R.f2, R.f3, R.f4, R.fn, R.fa, R.t1, R.t2, R.t3, R.t4, R.t5, R.tn, R.ta, R.l0, R.l1, R.l2, R.l3, R.l7, R.ln, R.lv, R.r5, R.r6, R.r8, R.r13, R.r4, R.r10, R.r11, R.r12, R.r9, R.mt, R.ml, R.lg, R.lp, R.lr, R.lo W, R.ls W, R.1.1, R.1.2.1, R.1.2.2.1, R.1.2.2.2.1, R.1.2.2.2.2.1, R.1.2.2.2.2.2.1, R.1.2.2.2.2.2.2, R.born, R.good, R.unw, R.hp, R.hf, R.ht, hC.p0_2, hC.p1_0, hC.p1_1, hC.p1_4, hC.p1_6, hC.p1_8, hC.p1_10, hC.p1_13, hC.p13_1, hC.p15_0, hC.p15_1, hC.p15_4, hC.p15_6, hC.p15_8, hC.p15_10, hC.p15_13, hC.p27_1, hC.p29_0, hC.p29_1, hC.p29_2, hC.p29_11, hC.p29_12, hC.p38_1, hC.p40_1, hC.p40_2, hC.w2, hC.w3, hC.w8, hC.w9, hC.w10, hC.w11, hC.w12, hC.w14, hC.w16, hC.w17, hC.w22, hC.w23, hC.w24, hC.w25, hC.w26, hC.w28, hC.w30, hC.w31, hC.w32, hC.w33, hC.w34, hC.w36, hC.w37, hC.w39, hC.w41, hC.w43, hC.w44, hC.w45, hC.w46, hC.w47, hC.w48, hC.w49, hC.w50, hC.w51, hC.w52, hC.w53, hC.w54, s3_at, s3_nk, s3_nj, c.1, c.2, c2, show ¬ n < 1 by omega]
      · unfold uDays
        rw [if_pos c, if_pos c2]
        exact I.1.u0 (fun q hq => s3_o (by omega)) (fun q hq => s3_o (by omega)) (hg.s ⟨by omega, by omega⟩) ⟨⟨rfl, R.1.2⟩, R.2⟩
      · unfold uDays
        rw [if_pos c, if_pos c2]
        exact WD_days W c.1 c2
      · unfold uDays
        rw [if_pos c, if_pos c2]
        exact I.2.2.1.s (by omega) (by omega)
      · unfold uDays
        rw [if_pos c, if_pos c2]
        exact I.2.2.2.1.s (by omega) (by omega) ⟨by omega, by decide⟩
    · refine both_q (r := iI (oDays sg n)) I ?_ (fun H hM => ?_)
      · unfold m11_days oDays m11_days_p12
        rw [if_pos c, if_neg c2]
        simp (config := { maxSteps := 1000000 }) (disch := first | assumption | exact W.i _ _ | exact sLine_i W _ _ _ | exact W1.i _ _ | exact hg _ _ | exact W3.i _ _ | (refine ⟨?_, ?_⟩ <;> omega) | omega | (simp only [sW_1, sW_2, sW_3, sW_4, sW_5, sW_8] <;> first | assumption | omega | (refine ⟨?_, ?_⟩ <;> omega)) | (simp only [sT_1, sT_2, sT_3, sT_4, sT_5, sT_8] <;> first | assumption | omega | (refine ⟨?_, ?_⟩ <;> omega))) only [Int.reduceEq, Int.reduceLT, Int.reduceLE, Int.reduceNeg, Int.reduceAdd, Int.reduceSub, Int.reduceMul, if_true, if_false, not_true, not_false_eq_true, false_or, or_false, true_or, or_true, true_and, and_true, false_and, and_false, iI_on, iI_mul, iI_add, iI_sub, iI_neg, ap_if, mp_eq, mz_0, mz_1, mz_b, b2_0, b2_1, iI_lt, iI_le, iI_inj, mb_div, mb_rem, hC.m0, hC.m1, hC.m13, hC.m15, hC.m27, hC.m29, hC.m38, hC.m40, hC.g0_0, hC.g0_1, hC.g0_3, hC.g0_4, hC.g0_5, hC.g0_6, hC.g0_7, hC.g0_8, hC.g0_9, hC.g0_10, hC.g0_11, hC.g0_12, hC.g0_13, hC.g0_14, hC.g1_2, hC.g1_3, hC.g1_5, hC.g1_7, hC.g1_9, hC.g1_11, hC.g1_12, hC.g1_14, hC.g1_15, hC.g1_16, hC.g1_17, hC.g1_18, hC.g13_0, hC.g15_2, hC.g15_3, hC.g15_5, hC.g15_7, hC.g15_9, hC.g15_11, hC.g15_12, hC.g15_14, hC.g15_15, hC.g15_16, hC.g15_17, hC.g15_18, hC.g27_0, hC.g29_3, hC.g29_4, hC.g29_5, hC.g29_6, hC.g29_7, hC.g29_8, hC.g29_9, hC.g29_10, hC.g38_0, hC.g40_0, hC.s0_2, hC.s1_0, hC.s1_1, hC.s1_4, hC.s1_6, hC.s1_8, hC.s1_10, hC.s1_13, hC.s13_1, hC.s15_0, hC.s15_1, hC.s15_4, hC.s15_6, hC.s15_8, hC.s15_10, hC.s15_13, hC.s27_1, hC.s29_0, hC.s29_1, hC.s29_2, hC.s29_11, hC.s29_12, hC.s38_1, hC.s40_1, hC.s40_2, hC.l2, hC.l3, hC.l8, hC.l9, hC.l10, hC.l11, hC.l12, hC.l14, hC.l16, hC.l17, hC.l22, hC.l23, hC.l24, hC.l25, hC.l26, hC.l28, hC.l30, hC.l31, hC.l32, hC.l33, hC.l34, hC.l36, hC.l37, hC.l39, hC.l41, hC.l43, hC.l44, hC.l45, hC.l46, hC.l47, hC.l48, hC.l49, hC.l50, hC.l51, hC.l52, hC.l53, hC.l54, hC.l35, hC.n33, hC.n36, hC.dl R W, hC.fl R W, hC.ll R W, hC.tl R W, R.d1, R.d2, R.d3, R.d4, R.dn, R.da, R.f1, R.f2, R.f3, R.f4, R.fn, R.fa, R.t1, R.t2, R.t3, R.t4, R.t5, R.tn, R.ta, R.l0, R.l1, R.l2, R.l3, R.l7, R.ln, R.lv, R.r5, R.r6, R.r8, R.r13, R.r4, R.r10, R.r11, R.r12, R.r9, R.mt, R.ml, R.lg, R.lp, R.lr, R.lo W, R.ls W, R.1.1, R.1.2.1, R.1.2.2.1, R.1.2.2.2.1, R.1.2.2.2.2.1, R.1.2.2.2.2.2.1, R.1.2.2.2.2.2.2, R.born, R.good, R.unw, R.hp, R.hf, R.ht, hC.p0_2, hC.p1_0, hC.p1_1, hC.p1_4, hC.p1_6, hC.p1_8, hC.p1_10, hC.p1_13, hC.p13_1, hC.p15_0, hC.p15_1, hC.p15_4, hC.p15_6, hC.p15_8, hC.p15_10, hC.p15_13, hC.p27_1, hC.p29_0, hC.p29_1, hC.p29_2, hC.p29_11, hC.p29_12, hC.p38_1, hC.p40_1, hC.p40_2, hC.w2, hC.w3, hC.w8, hC.w9, hC.w10, hC.w11, hC.w12, hC.w14, hC.w16, hC.w17, hC.w22, hC.w23, hC.w24, hC.w25, hC.w26, hC.w28, hC.w30, hC.w31, hC.w32, hC.w33, hC.w34, hC.w36, hC.w37, hC.w39, hC.w41, hC.w43, hC.w44, hC.w45, hC.w46, hC.w47, hC.w48, hC.w49, hC.w50, hC.w51, hC.w52, hC.w53, hC.w54, s3_at, s3_nk, s3_nj, c.1, c.2, c2, show ¬ n < 1 by omega]
      · have := B_days (h := H) hM W hn
        unfold uDays at this
        rw [if_pos c, if_neg c2] at this
        exact this
  · refine both_q (r := iI (oDays sg n)) I ?_ (fun H hM => ?_)
    · unfold m11_days oDays m11_days_p12
      rw [if_neg c]
      simp (config := { maxSteps := 1000000 }) (disch := first | assumption | exact W.i _ _ | exact sLine_i W _ _ _ | exact W1.i _ _ | exact hg _ _ | exact W3.i _ _ | (refine ⟨?_, ?_⟩ <;> omega) | omega | (simp only [sW_1, sW_2, sW_3, sW_4, sW_5, sW_8] <;> first | assumption | omega | (refine ⟨?_, ?_⟩ <;> omega)) | (simp only [sT_1, sT_2, sT_3, sT_4, sT_5, sT_8] <;> first | assumption | omega | (refine ⟨?_, ?_⟩ <;> omega))) only [Int.reduceEq, Int.reduceLT, Int.reduceLE, Int.reduceNeg, Int.reduceAdd, Int.reduceSub, Int.reduceMul, if_true, if_false, not_true, not_false_eq_true, false_or, or_false, true_or, or_true, true_and, and_true, false_and, and_false, iI_on, iI_mul, iI_add, iI_sub, iI_neg, ap_if, mp_eq, mz_0, mz_1, mz_b, b2_0, b2_1, iI_lt, iI_le, iI_inj, mb_div, mb_rem, hC.m0, hC.m1, hC.m13, hC.m15, hC.m27, hC.m29, hC.m38, hC.m40, hC.g0_0, hC.g0_1, hC.g0_3, hC.g0_4, hC.g0_5, hC.g0_6, hC.g0_7, hC.g0_8, hC.g0_9, hC.g0_10, hC.g0_11, hC.g0_12, hC.g0_13, hC.g0_14, hC.g1_2, hC.g1_3, hC.g1_5, hC.g1_7, hC.g1_9, hC.g1_11, hC.g1_12, hC.g1_14, hC.g1_15, hC.g1_16, hC.g1_17, hC.g1_18, hC.g13_0, hC.g15_2, hC.g15_3, hC.g15_5, hC.g15_7, hC.g15_9, hC.g15_11, hC.g15_12, hC.g15_14, hC.g15_15, hC.g15_16, hC.g15_17, hC.g15_18, hC.g27_0, hC.g29_3, hC.g29_4, hC.g29_5, hC.g29_6, hC.g29_7, hC.g29_8, hC.g29_9, hC.g29_10, hC.g38_0, hC.g40_0, hC.s0_2, hC.s1_0, hC.s1_1, hC.s1_4, hC.s1_6, hC.s1_8, hC.s1_10, hC.s1_13, hC.s13_1, hC.s15_0, hC.s15_1, hC.s15_4, hC.s15_6, hC.s15_8, hC.s15_10, hC.s15_13, hC.s27_1, hC.s29_0, hC.s29_1, hC.s29_2, hC.s29_11, hC.s29_12, hC.s38_1, hC.s40_1, hC.s40_2, hC.l2, hC.l3, hC.l8, hC.l9, hC.l10, hC.l11, hC.l12, hC.l14, hC.l16, hC.l17, hC.l22, hC.l23, hC.l24, hC.l25, hC.l26, hC.l28, hC.l30, hC.l31, hC.l32, hC.l33, hC.l34, hC.l36, hC.l37, hC.l39, hC.l41, hC.l43, hC.l44, hC.l45, hC.l46, hC.l47, hC.l48, hC.l49, hC.l50, hC.l51, hC.l52, hC.l53, hC.l54, hC.l35, hC.n33, hC.n36, hC.dl R W, hC.fl R W, hC.ll R W, hC.tl R W, R.d1, R.d2, R.d3, R.d4, R.dn, R.da, R.f1, R.f2, R.f3, R.f4, R.fn, R.fa, R.t1, R.t2, R.t3, R.t4, R.t5, R.tn, R.ta, R.l0, R.l1, R.l2, R.l3, R.l7, R.ln, R.lv, R.r5, R.r6, R.r8, R.r13, R.r4, R.r10, R.r11, R.r12, R.r9, R.mt, R.ml, R.lg, R.lp, R.lr, R.lo W, R.ls W, R.1.1, R.1.2.1, R.1.2.2.1, R.1.2.2.2.1, R.1.2.2.2.2.1, R.1.2.2.2.2.2.1, R.1.2.2.2.2.2.2, R.born, R.good, R.unw, R.hp, R.hf, R.ht, hC.p0_2, hC.p1_0, hC.p1_1, hC.p1_4, hC.p1_6, hC.p1_8, hC.p1_10, hC.p1_13, hC.p13_1, hC.p15_0, hC.p15_1, hC.p15_4, hC.p15_6, hC.p15_8, hC.p15_10, hC.p15_13, hC.p27_1, hC.p29_0, hC.p29_1, hC.p29_2, hC.p29_11, hC.p29_12, hC.p38_1, hC.p40_1, hC.p40_2, hC.w2, hC.w3, hC.w8, hC.w9, hC.w10, hC.w11, hC.w12, hC.w14, hC.w16, hC.w17, hC.w22, hC.w23, hC.w24, hC.w25, hC.w26, hC.w28, hC.w30, hC.w31, hC.w32, hC.w33, hC.w34, hC.w36, hC.w37, hC.w39, hC.w41, hC.w43, hC.w44, hC.w45, hC.w46, hC.w47, hC.w48, hC.w49, hC.w50, hC.w51, hC.w52, hC.w53, hC.w54, s3_at, s3_nk, s3_nj]
      (repeat' split) <;> first | with_reducible rfl | omega
    · have := B_days (h := H) hM W hn
      unfold uDays at this
      rw [if_neg c] at this
      exact this
theorem T_person (I : Inv sg rho h) {y d : Int} (hy : i32 y) (hd : i32 d) : Both (m11_person 0 (iI y) (iI d)) (m12_person 55 (iI y) (iI d)) rho h := by
  have hC := I.1.1
  have hg := I.1.2.2.1
  have R := I.1.2.2.2.2.1
  have W := I.2.1
  have n1 := W.n1
  by_cases c : (0 ≤ y ∧ y ≤ 90) ∧ 0 ≤ d ∧ d ≤ 359
  · by_cases c2 : sg 1 1 = 8
    · refine both_q (r := iI (oPerson sg y d)) I ?_ (fun H hM => ?_)
      · unfold m11_person oPerson
        rw [if_pos c, if_pos c2]
        simp (config := { maxSteps := 1000000 }) (disch := first | assumption | exact W.i _ _ | exact sLine_i W _ _ _ | exact W1.i _ _ | exact hg _ _ | exact W3.i _ _ | (refine ⟨?_, ?_⟩ <;> omega) | omega | (simp only [sW_1, sW_2, sW_3, sW_4, sW_5, sW_8] <;> first | assumption | omega | (refine ⟨?_, ?_⟩ <;> omega)) | (simp only [sT_1, sT_2, sT_3, sT_4, sT_5, sT_8] <;> first | assumption | omega | (refine ⟨?_, ?_⟩ <;> omega))) only [Int.reduceEq, Int.reduceLT, Int.reduceLE, Int.reduceNeg, Int.reduceAdd, Int.reduceSub, Int.reduceMul, if_true, if_false, not_true, not_false_eq_true, false_or, or_false, true_or, or_true, true_and, and_true, false_and, and_false, iI_on, iI_mul, iI_add, iI_sub, iI_neg, ap_if, mp_eq, mz_0, mz_1, mz_b, b2_0, b2_1, iI_lt, iI_le, iI_inj, mb_div, mb_rem, hC.m0, hC.m1, hC.m13, hC.m15, hC.m27, hC.m29, hC.m38, hC.m40, hC.g0_0, hC.g0_1, hC.g0_3, hC.g0_4, hC.g0_5, hC.g0_6, hC.g0_7, hC.g0_8, hC.g0_9, hC.g0_10, hC.g0_11, hC.g0_12, hC.g0_13, hC.g0_14, hC.g1_2, hC.g1_3, hC.g1_5, hC.g1_7, hC.g1_9, hC.g1_11, hC.g1_12, hC.g1_14, hC.g1_15, hC.g1_16, hC.g1_17, hC.g1_18, hC.g13_0, hC.g15_2, hC.g15_3, hC.g15_5, hC.g15_7, hC.g15_9, hC.g15_11, hC.g15_12, hC.g15_14, hC.g15_15, hC.g15_16, hC.g15_17, hC.g15_18, hC.g27_0, hC.g29_3, hC.g29_4, hC.g29_5, hC.g29_6, hC.g29_7, hC.g29_8, hC.g29_9, hC.g29_10, hC.g38_0, hC.g40_0, hC.s0_2, hC.s1_0, hC.s1_1, hC.s1_4, hC.s1_6, hC.s1_8, hC.s1_10, hC.s1_13, hC.s13_1, hC.s15_0, hC.s15_1, hC.s15_4, hC.s15_6, hC.s15_8, hC.s15_10, hC.s15_13, hC.s27_1, hC.s29_0, hC.s29_1, hC.s29_2, hC.s29_11, hC.s29_12, hC.s38_1, hC.s40_1, hC.s40_2, hC.l2, hC.l3, hC.l8, hC.l9, hC.l10, hC.l11, hC.l12, hC.l14, hC.l16, hC.l17, hC.l22, hC.l23, hC.l24, hC.l25, hC.l26, hC.l28, hC.l30, hC.l31, hC.l32, hC.l33, hC.l34, hC.l36, hC.l37, hC.l39, hC.l41, hC.l43, hC.l44, hC.l45, hC.l46, hC.l47, hC.l48, hC.l49, hC.l50, hC.l51, hC.l52, hC.l53, hC.l54, hC.l35, hC.n33, hC.n36, hC.dl R W, hC.fl R W, hC.ll R W, hC.tl R W, R.d1, R.d2, R.d3, R.d4, R.dn, R.da, R.f1, R.f2, R.f3, R.f4, R.fn, R.fa, R.t1, R.t2, R.t3, R.t4, R.t5, R.tn, R.ta, R.l0, R.l1, R.l2, R.l3, R.l7, R.ln, R.lv, R.r5, R.r6, R.r8, R.r13, R.r4, R.r10, R.r11, R.r12, R.r9, R.mt, R.ml, R.lg, R.lp, R.lr, R.lo W, R.ls W, R.1.1, R.1.2.1, R.1.2.2.1, R.1.2.2.2.1, R.1.2.2.2.2.1, R.1.2.2.2.2.2.1, R.1.2.2.2.2.2.2, R.born, R.good, R.unw, R.hp, R.hf, R.ht, hC.p0_2, hC.p1_0, hC.p1_1, hC.p1_4, hC.p1_6, hC.p1_8, hC.p1_10, hC.p1_13, hC.p13_1, hC.p15_0, hC.p15_1, hC.p15_4, hC.p15_6, hC.p15_8, hC.p15_10, hC.p15_13, hC.p27_1, hC.p29_0, hC.p29_1, hC.p29_2, hC.p29_11, hC.p29_12, hC.p38_1, hC.p40_1, hC.p40_2, hC.w2, hC.w3, hC.w8, hC.w9, hC.w10, hC.w11, hC.w12, hC.w14, hC.w16, hC.w17, hC.w22, hC.w23, hC.w24, hC.w25, hC.w26, hC.w28, hC.w30, hC.w31, hC.w32, hC.w33, hC.w34, hC.w36, hC.w37, hC.w39, hC.w41, hC.w43, hC.w44, hC.w45, hC.w46, hC.w47, hC.w48, hC.w49, hC.w50, hC.w51, hC.w52, hC.w53, hC.w54, s3_at, s3_nk, s3_nj, show ¬ y < 0 by omega, show ¬ 90 < y by omega, show ¬ d < 0 by omega, show d < 360 by omega, show ¬ sg 1 1 < 8 by omega]
      · have := B_person (h := H) hM W hy hd
        unfold uPerson at this
        rw [if_pos c, if_pos c2] at this
        exact this
    · have ek : y * 360 + d = 360 * y + d := by omega
      refine both_of (r := iI (oPerson sg y d)) (rho' := s3 (s3 (s3 rho 2 (sg 1 1) (360 * y + d)) 3 (sg 1 1) 0) 1 1 (sg 1 1 + 1)) (sg' := uPerson sg y d) I ?_ ?_ (hG.rf h) (fun H hM => B_person hM W hy hd) ?_ ?_ ?_
      · unfold m11_person oPerson
        rw [if_pos c, if_neg c2]
        simp (config := { maxSteps := 1000000 }) (disch := first | assumption | exact W.i _ _ | exact sLine_i W _ _ _ | exact W1.i _ _ | exact hg _ _ | exact W3.i _ _ | (refine ⟨?_, ?_⟩ <;> omega) | omega | (simp only [sW_1, sW_2, sW_3, sW_4, sW_5, sW_8] <;> first | assumption | omega | (refine ⟨?_, ?_⟩ <;> omega)) | (simp only [sT_1, sT_2, sT_3, sT_4, sT_5, sT_8] <;> first | assumption | omega | (refine ⟨?_, ?_⟩ <;> omega))) only [Int.reduceEq, Int.reduceLT, Int.reduceLE, Int.reduceNeg, Int.reduceAdd, Int.reduceSub, Int.reduceMul, if_true, if_false, not_true, not_false_eq_true, false_or, or_false, true_or, or_true, true_and, and_true, false_and, and_false, iI_on, iI_mul, iI_add, iI_sub, iI_neg, ap_if, mp_eq, mz_0, mz_1, mz_b, b2_0, b2_1, iI_lt, iI_le, iI_inj, mb_div, mb_rem, hC.m0, hC.m1, hC.m13, hC.m15, hC.m27, hC.m29, hC.m38, hC.m40, hC.g0_0, hC.g0_1, hC.g0_3, hC.g0_4, hC.g0_5, hC.g0_6, hC.g0_7, hC.g0_8, hC.g0_9, hC.g0_10, hC.g0_11, hC.g0_12, hC.g0_13, hC.g0_14, hC.g1_2, hC.g1_3, hC.g1_5, hC.g1_7, hC.g1_9, hC.g1_11, hC.g1_12, hC.g1_14, hC.g1_15, hC.g1_16, hC.g1_17, hC.g1_18, hC.g13_0, hC.g15_2, hC.g15_3, hC.g15_5, hC.g15_7, hC.g15_9, hC.g15_11, hC.g15_12, hC.g15_14, hC.g15_15, hC.g15_16, hC.g15_17, hC.g15_18, hC.g27_0, hC.g29_3, hC.g29_4, hC.g29_5, hC.g29_6, hC.g29_7, hC.g29_8, hC.g29_9, hC.g29_10, hC.g38_0, hC.g40_0, hC.s0_2, hC.s1_0, hC.s1_1, hC.s1_4, hC.s1_6, hC.s1_8, hC.s1_10, hC.s1_13, hC.s13_1, hC.s15_0, hC.s15_1, hC.s15_4, hC.s15_6, hC.s15_8, hC.s15_10, hC.s15_13, hC.s27_1, hC.s29_0, hC.s29_1, hC.s29_2, hC.s29_11, hC.s29_12, hC.s38_1, hC.s40_1, hC.s40_2, hC.l2, hC.l3, hC.l8, hC.l9, hC.l10, hC.l11, hC.l12, hC.l14, hC.l16, hC.l17, hC.l22, hC.l23, hC.l24, hC.l25, hC.l26, hC.l28, hC.l30, hC.l31, hC.l32, hC.l33, hC.l34, hC.l36, hC.l37, hC.l39, hC.l41, hC.l43, hC.l44, hC.l45, hC.l46, hC.l47, hC.l48, hC.l49, hC.l50, hC.l51, hC.l52, hC.l53, hC.l54, hC.l35, hC.n33, hC.n36, hC.dl R W, hC.fl R W, hC.ll R W, hC.tl R W, R.d1, R.d2, R.d3, R.d4, R.dn, R.da, R.f1, R.f2, R.f3, R.f4, R.fn, R.fa, R.t1, R.t2, R.t3, R.t4, R.t5, R.tn, R.ta, R.l0, R.l1, R.l2, R.l3, R.l7, R.ln, R.lv, R.r5, R.r6, R.r8, R.r13, R.r4, R.r10, R.r11, R.r12, R.r9, R.mt, R.ml, R.lg, R.lp, R.lr, R.lo W, R.ls W, R.1.1, R.1.2.1, R.1.2.2.1, R.1.2.2.2.1, R.1.2.2.2.2.1, R.1.2.2.2.2.2.1, R.1.2.2.2.2.2.2, R.born, R.good, R.unw, R.hp, R.hf, R.ht, hC.p0_2, hC.p1_0, hC.p1_1, hC.p1_4, hC.p1_6, hC.p1_8, hC.p1_10, hC.p1_13, hC.p13_1, hC.p15_0, hC.p15_1, hC.p15_4, hC.p15_6, hC.p15_8, hC.p15_10, hC.p15_13, hC.p27_1, hC.p29_0, hC.p29_1, hC.p29_2, hC.p29_11, hC.p29_12, hC.p38_1, hC.p40_1, hC.p40_2, hC.w2, hC.w3, hC.w8, hC.w9, hC.w10, hC.w11, hC.w12, hC.w14, hC.w16, hC.w17, hC.w22, hC.w23, hC.w24, hC.w25, hC.w26, hC.w28, hC.w30, hC.w31, hC.w32, hC.w33, hC.w34, hC.w36, hC.w37, hC.w39, hC.w41, hC.w43, hC.w44, hC.w45, hC.w46, hC.w47, hC.w48, hC.w49, hC.w50, hC.w51, hC.w52, hC.w53, hC.w54, s3_at, s3_nk, s3_nj, show ¬ y < 0 by omega, show ¬ 90 < y by omega, show ¬ d < 0 by omega, show d < 360 by omega, show sg 1 1 < 8 by omega, m1_addPerson, mb_as, mb_mp, ek]
      · unfold uPerson
        rw [if_pos c, if_neg c2]
        refine I.1.u0 (fun q hq => by rw [s3_o (by omega), s3_o (by omega), s3_o (by omega)]) (fun q hq => by rw [s3_o (by omega), s3_o (by omega), s3_o (by omega)]) (((hg.s ⟨by omega, by omega⟩).s ⟨by omega, by omega⟩).s ⟨by omega, by omega⟩) ⟨⟨R.1.1, ?_, R.1.2.2⟩, ?_, ?_, R.2.2.2⟩
        · rfl
        · intro i h0 h1
          simp (disch := omega) only [s3_at] at h1
          show s3 (s3 (s3 rho 2 (sg 1 1) (360 * y + d)) 3 (sg 1 1) 0) 1 1 (sg 1 1 + 1) 2 i = _ ∧ s3 (s3 (s3 rho 2 (sg 1 1) (360 * y + d)) 3 (sg 1 1) 0) 1 1 (sg 1 1 + 1) 3 i = _
          by_cases ci : i = sg 1 1
          · subst ci
            simp (disch := omega) only [s3_at, s3_nk, s3_nj, and_self]
          · have := R.2.1 i h0 (by omega)
            simp (disch := omega) only [s3_at, s3_nk, s3_nj]
            exact this
        · intro i h0 h1
          obtain ⟨p, a, b⟩ := R.2.2.1 i h0 h1
          refine ⟨p, a, ?_⟩
          have nd := W.de i h0 h1
          have e : sAge (s3 (s3 (s3 sg 2 (2 * sg 1 1) (360 * y + d)) 2 (2 * sg 1 1 + 1) 0) 1 1 (sg 1 1 + 1)) i = sAge sg i := by
            unfold sAge sAgeOn
            simp (disch := omega) only [s3_nk, s3_nj]
          unfold isDeedO at b ⊢
          rw [e]
          exact b
      · unfold uPerson
        rw [if_pos c, if_neg c2]
        exact WD_person W c.1 c.2 c2
      · unfold uPerson
        rw [if_pos c, if_neg c2]
        exact ((I.2.2.1.s (by omega) (by omega)).s (by omega) (by omega)).s (by omega) (by omega)
      · unfold uPerson
        rw [if_pos c, if_neg c2]
        exact ((I.2.2.2.1.s (by omega) (by omega) ⟨by omega, by show _ < (16 : Int); omega⟩).s (by omega) (by omega) ⟨by omega, by show _ < (16 : Int); omega⟩).s (by omega) (by omega) ⟨by omega, by decide⟩
  · refine both_q (r := iI (oPerson sg y d)) I ?_ (fun H hM => ?_)
    · unfold m11_person oPerson m11_person_p21
      rw [if_neg c]
      simp (config := { maxSteps := 1000000 }) (disch := first | assumption | exact W.i _ _ | exact sLine_i W _ _ _ | exact W1.i _ _ | exact hg _ _ | exact W3.i _ _ | (refine ⟨?_, ?_⟩ <;> omega) | omega | (simp only [sW_1, sW_2, sW_3, sW_4, sW_5, sW_8] <;> first | assumption | omega | (refine ⟨?_, ?_⟩ <;> omega)) | (simp only [sT_1, sT_2, sT_3, sT_4, sT_5, sT_8] <;> first | assumption | omega | (refine ⟨?_, ?_⟩ <;> omega))) only [Int.reduceEq, Int.reduceLT, Int.reduceLE, Int.reduceNeg, Int.reduceAdd, Int.reduceSub, Int.reduceMul, if_true, if_false, not_true, not_false_eq_true, false_or, or_false, true_or, or_true, true_and, and_true, false_and, and_false, iI_on, iI_mul, iI_add, iI_sub, iI_neg, ap_if, mp_eq, mz_0, mz_1, mz_b, b2_0, b2_1, iI_lt, iI_le, iI_inj, mb_div, mb_rem, hC.m0, hC.m1, hC.m13, hC.m15, hC.m27, hC.m29, hC.m38, hC.m40, hC.g0_0, hC.g0_1, hC.g0_3, hC.g0_4, hC.g0_5, hC.g0_6, hC.g0_7, hC.g0_8, hC.g0_9, hC.g0_10, hC.g0_11, hC.g0_12, hC.g0_13, hC.g0_14, hC.g1_2, hC.g1_3, hC.g1_5, hC.g1_7, hC.g1_9, hC.g1_11, hC.g1_12, hC.g1_14, hC.g1_15, hC.g1_16, hC.g1_17, hC.g1_18, hC.g13_0, hC.g15_2, hC.g15_3, hC.g15_5, hC.g15_7, hC.g15_9, hC.g15_11, hC.g15_12, hC.g15_14, hC.g15_15, hC.g15_16, hC.g15_17, hC.g15_18, hC.g27_0, hC.g29_3, hC.g29_4, hC.g29_5, hC.g29_6, hC.g29_7, hC.g29_8, hC.g29_9, hC.g29_10, hC.g38_0, hC.g40_0, hC.s0_2, hC.s1_0, hC.s1_1, hC.s1_4, hC.s1_6, hC.s1_8, hC.s1_10, hC.s1_13, hC.s13_1, hC.s15_0, hC.s15_1, hC.s15_4, hC.s15_6, hC.s15_8, hC.s15_10, hC.s15_13, hC.s27_1, hC.s29_0, hC.s29_1, hC.s29_2, hC.s29_11, hC.s29_12, hC.s38_1, hC.s40_1, hC.s40_2, hC.l2, hC.l3, hC.l8, hC.l9, hC.l10, hC.l11, hC.l12, hC.l14, hC.l16, hC.l17, hC.l22, hC.l23, hC.l24, hC.l25, hC.l26, hC.l28, hC.l30, hC.l31, hC.l32, hC.l33, hC.l34, hC.l36, hC.l37, hC.l39, hC.l41, hC.l43, hC.l44, hC.l45, hC.l46, hC.l47, hC.l48, hC.l49, hC.l50, hC.l51, hC.l52, hC.l53, hC.l54, hC.l35, hC.n33, hC.n36, hC.dl R W, hC.fl R W, hC.ll R W, hC.tl R W, R.d1, R.d2, R.d3, R.d4, R.dn, R.da, R.f1, R.f2, R.f3, R.f4, R.fn, R.fa, R.t1, R.t2, R.t3, R.t4, R.t5, R.tn, R.ta, R.l0, R.l1, R.l2, R.l3, R.l7, R.ln, R.lv, R.r5, R.r6, R.r8, R.r13, R.r4, R.r10, R.r11, R.r12, R.r9, R.mt, R.ml, R.lg, R.lp, R.lr, R.lo W, R.ls W, R.1.1, R.1.2.1, R.1.2.2.1, R.1.2.2.2.1, R.1.2.2.2.2.1, R.1.2.2.2.2.2.1, R.1.2.2.2.2.2.2, R.born, R.good, R.unw, R.hp, R.hf, R.ht]
      (repeat' split) <;> first | with_reducible rfl | omega
    · have := B_person (h := H) hM W hy hd
      unfold uPerson at this
      rw [if_neg c] at this
      exact this
theorem T_held (I : Inv sg rho h) {p f t : Int} (hp : i32 p) (hf : i32 f) (ht : i32 t) : Both (m11_held 0 (iI p) (iI f) (iI t)) (m12_held 55 (iI p) (iI f) (iI t)) rho h := by
  have hC := I.1.1
  have hg := I.1.2.2.1
  have R := I.1.2.2.2.2.1
  have W := I.2.1
  have n6 := W.n6
  have n1 := W.n1
  have n0 := W.n0
  by_cases c : ((0 ≤ p ∧ p < sg 1 1) ∧ inD f) ∧ f ≤ t ∧ t ≤ sg 1 0
  · by_cases c2 : sg 1 6 = 12
    · refine both_q (r := iI (oHeld sg p f t)) I ?_ (fun H hM => ?_)
      · unfold m11_held oHeld
        rw [if_pos c, if_pos c2]
        simp (config := { maxSteps := 1000000 }) (disch := first | assumption | exact W.i _ _ | exact sLine_i W _ _ _ | exact W1.i _ _ | exact hg _ _ | exact W3.i _ _ | (refine ⟨?_, ?_⟩ <;> omega) | omega | (simp only [sW_1, sW_2, sW_3, sW_4, sW_5, sW_8] <;> first | assumption | omega | (refine ⟨?_, ?_⟩ <;> omega)) | (simp only [sT_1, sT_2, sT_3, sT_4, sT_5, sT_8] <;> first | assumption | omega | (refine ⟨?_, ?_⟩ <;> omega))) only [Int.reduceEq, Int.reduceLT, Int.reduceLE, Int.reduceNeg, Int.reduceAdd, Int.reduceSub, Int.reduceMul, if_true, if_false, not_true, not_false_eq_true, false_or, or_false, true_or, or_true, true_and, and_true, false_and, and_false, iI_on, iI_mul, iI_add, iI_sub, iI_neg, ap_if, mp_eq, mz_0, mz_1, mz_b, b2_0, b2_1, iI_lt, iI_le, iI_inj, mb_div, mb_rem, hC.m0, hC.m1, hC.m13, hC.m15, hC.m27, hC.m29, hC.m38, hC.m40, hC.g0_0, hC.g0_1, hC.g0_3, hC.g0_4, hC.g0_5, hC.g0_6, hC.g0_7, hC.g0_8, hC.g0_9, hC.g0_10, hC.g0_11, hC.g0_12, hC.g0_13, hC.g0_14, hC.g1_2, hC.g1_3, hC.g1_5, hC.g1_7, hC.g1_9, hC.g1_11, hC.g1_12, hC.g1_14, hC.g1_15, hC.g1_16, hC.g1_17, hC.g1_18, hC.g13_0, hC.g15_2, hC.g15_3, hC.g15_5, hC.g15_7, hC.g15_9, hC.g15_11, hC.g15_12, hC.g15_14, hC.g15_15, hC.g15_16, hC.g15_17, hC.g15_18, hC.g27_0, hC.g29_3, hC.g29_4, hC.g29_5, hC.g29_6, hC.g29_7, hC.g29_8, hC.g29_9, hC.g29_10, hC.g38_0, hC.g40_0, hC.s0_2, hC.s1_0, hC.s1_1, hC.s1_4, hC.s1_6, hC.s1_8, hC.s1_10, hC.s1_13, hC.s13_1, hC.s15_0, hC.s15_1, hC.s15_4, hC.s15_6, hC.s15_8, hC.s15_10, hC.s15_13, hC.s27_1, hC.s29_0, hC.s29_1, hC.s29_2, hC.s29_11, hC.s29_12, hC.s38_1, hC.s40_1, hC.s40_2, hC.l2, hC.l3, hC.l8, hC.l9, hC.l10, hC.l11, hC.l12, hC.l14, hC.l16, hC.l17, hC.l22, hC.l23, hC.l24, hC.l25, hC.l26, hC.l28, hC.l30, hC.l31, hC.l32, hC.l33, hC.l34, hC.l36, hC.l37, hC.l39, hC.l41, hC.l43, hC.l44, hC.l45, hC.l46, hC.l47, hC.l48, hC.l49, hC.l50, hC.l51, hC.l52, hC.l53, hC.l54, hC.l35, hC.n33, hC.n36, hC.dl R W, hC.fl R W, hC.ll R W, hC.tl R W, R.d1, R.d2, R.d3, R.d4, R.dn, R.da, R.f1, R.f2, R.f3, R.f4, R.fn, R.fa, R.t1, R.t2, R.t3, R.t4, R.t5, R.tn, R.ta, R.l0, R.l1, R.l2, R.l3, R.l7, R.ln, R.lv, R.r5, R.r6, R.r8, R.r13, R.r4, R.r10, R.r11, R.r12, R.r9, R.mt, R.ml, R.lg, R.lp, R.lr, R.lo W, R.ls W, R.1.1, R.1.2.1, R.1.2.2.1, R.1.2.2.2.1, R.1.2.2.2.2.1, R.1.2.2.2.2.2.1, R.1.2.2.2.2.2.2, R.born, R.good, R.unw, R.hp, R.hf, R.ht, hC.p0_2, hC.p1_0, hC.p1_1, hC.p1_4, hC.p1_6, hC.p1_8, hC.p1_10, hC.p1_13, hC.p13_1, hC.p15_0, hC.p15_1, hC.p15_4, hC.p15_6, hC.p15_8, hC.p15_10, hC.p15_13, hC.p27_1, hC.p29_0, hC.p29_1, hC.p29_2, hC.p29_11, hC.p29_12, hC.p38_1, hC.p40_1, hC.p40_2, hC.w2, hC.w3, hC.w8, hC.w9, hC.w10, hC.w11, hC.w12, hC.w14, hC.w16, hC.w17, hC.w22, hC.w23, hC.w24, hC.w25, hC.w26, hC.w28, hC.w30, hC.w31, hC.w32, hC.w33, hC.w34, hC.w36, hC.w37, hC.w39, hC.w41, hC.w43, hC.w44, hC.w45, hC.w46, hC.w47, hC.w48, hC.w49, hC.w50, hC.w51, hC.w52, hC.w53, hC.w54, s3_at, s3_nk, s3_nj, mb_eq (C_isPerson hC R W _), c.1.1.1, c.1.1.2, show ¬ f < 0 by omega, show ¬ t < f by omega, c.2.2, show ¬ sg 1 6 < 12 by omega]
      · have := B_held (h := H) hM W hp hf ht
        unfold uHeld at this
        rw [if_pos c, if_pos c2] at this
        exact this
    · refine both_of (r := iI (oHeld sg p f t)) (rho' := s3 (s3 (s3 (s3 rho 9 (sg 1 6) p) 10 (sg 1 6) f) 11 (sg 1 6) t) 1 13 (sg 1 6 + 1)) (sg' := uHeld sg p f t) I ?_ ?_ (hG.rf h) (fun H hM => B_held hM W hp hf ht) ?_ ?_ ?_
      · unfold m11_held oHeld
        rw [if_pos c, if_neg c2]
        simp (config := { maxSteps := 1000000 }) (disch := first | assumption | exact W.i _ _ | exact sLine_i W _ _ _ | exact W1.i _ _ | exact hg _ _ | exact W3.i _ _ | (refine ⟨?_, ?_⟩ <;> omega) | omega | (simp only [sW_1, sW_2, sW_3, sW_4, sW_5, sW_8] <;> first | assumption | omega | (refine ⟨?_, ?_⟩ <;> omega)) | (simp only [sT_1, sT_2, sT_3, sT_4, sT_5, sT_8] <;> first | assumption | omega | (refine ⟨?_, ?_⟩ <;> omega))) only [Int.reduceEq, Int.reduceLT, Int.reduceLE, Int.reduceNeg, Int.reduceAdd, Int.reduceSub, Int.reduceMul, if_true, if_false, not_true, not_false_eq_true, false_or, or_false, true_or, or_true, true_and, and_true, false_and, and_false, iI_on, iI_mul, iI_add, iI_sub, iI_neg, ap_if, mp_eq, mz_0, mz_1, mz_b, b2_0, b2_1, iI_lt, iI_le, iI_inj, mb_div, mb_rem, hC.m0, hC.m1, hC.m13, hC.m15, hC.m27, hC.m29, hC.m38, hC.m40, hC.g0_0, hC.g0_1, hC.g0_3, hC.g0_4, hC.g0_5, hC.g0_6, hC.g0_7, hC.g0_8, hC.g0_9, hC.g0_10, hC.g0_11, hC.g0_12, hC.g0_13, hC.g0_14, hC.g1_2, hC.g1_3, hC.g1_5, hC.g1_7, hC.g1_9, hC.g1_11, hC.g1_12, hC.g1_14, hC.g1_15, hC.g1_16, hC.g1_17, hC.g1_18, hC.g13_0, hC.g15_2, hC.g15_3, hC.g15_5, hC.g15_7, hC.g15_9, hC.g15_11, hC.g15_12, hC.g15_14, hC.g15_15, hC.g15_16, hC.g15_17, hC.g15_18, hC.g27_0, hC.g29_3, hC.g29_4, hC.g29_5, hC.g29_6, hC.g29_7, hC.g29_8, hC.g29_9, hC.g29_10, hC.g38_0, hC.g40_0, hC.s0_2, hC.s1_0, hC.s1_1, hC.s1_4, hC.s1_6, hC.s1_8, hC.s1_10, hC.s1_13, hC.s13_1, hC.s15_0, hC.s15_1, hC.s15_4, hC.s15_6, hC.s15_8, hC.s15_10, hC.s15_13, hC.s27_1, hC.s29_0, hC.s29_1, hC.s29_2, hC.s29_11, hC.s29_12, hC.s38_1, hC.s40_1, hC.s40_2, hC.l2, hC.l3, hC.l8, hC.l9, hC.l10, hC.l11, hC.l12, hC.l14, hC.l16, hC.l17, hC.l22, hC.l23, hC.l24, hC.l25, hC.l26, hC.l28, hC.l30, hC.l31, hC.l32, hC.l33, hC.l34, hC.l36, hC.l37, hC.l39, hC.l41, hC.l43, hC.l44, hC.l45, hC.l46, hC.l47, hC.l48, hC.l49, hC.l50, hC.l51, hC.l52, hC.l53, hC.l54, hC.l35, hC.n33, hC.n36, hC.dl R W, hC.fl R W, hC.ll R W, hC.tl R W, R.d1, R.d2, R.d3, R.d4, R.dn, R.da, R.f1, R.f2, R.f3, R.f4, R.fn, R.fa, R.t1, R.t2, R.t3, R.t4, R.t5, R.tn, R.ta, R.l0, R.l1, R.l2, R.l3, R.l7, R.ln, R.lv, R.r5, R.r6, R.r8, R.r13, R.r4, R.r10, R.r11, R.r12, R.r9, R.mt, R.ml, R.lg, R.lp, R.lr, R.lo W, R.ls W, R.1.1, R.1.2.1, R.1.2.2.1, R.1.2.2.2.1, R.1.2.2.2.2.1, R.1.2.2.2.2.2.1, R.1.2.2.2.2.2.2, R.born, R.good, R.unw, R.hp, R.hf, R.ht, hC.p0_2, hC.p1_0, hC.p1_1, hC.p1_4, hC.p1_6, hC.p1_8, hC.p1_10, hC.p1_13, hC.p13_1, hC.p15_0, hC.p15_1, hC.p15_4, hC.p15_6, hC.p15_8, hC.p15_10, hC.p15_13, hC.p27_1, hC.p29_0, hC.p29_1, hC.p29_2, hC.p29_11, hC.p29_12, hC.p38_1, hC.p40_1, hC.p40_2, hC.w2, hC.w3, hC.w8, hC.w9, hC.w10, hC.w11, hC.w12, hC.w14, hC.w16, hC.w17, hC.w22, hC.w23, hC.w24, hC.w25, hC.w26, hC.w28, hC.w30, hC.w31, hC.w32, hC.w33, hC.w34, hC.w36, hC.w37, hC.w39, hC.w41, hC.w43, hC.w44, hC.w45, hC.w46, hC.w47, hC.w48, hC.w49, hC.w50, hC.w51, hC.w52, hC.w53, hC.w54, s3_at, s3_nk, s3_nj, mb_eq (C_isPerson hC R W _), c.1.1.1, c.1.1.2, show ¬ f < 0 by omega, show ¬ t < f by omega, c.2.2, show sg 1 6 < 12 by omega, m1_addHeld, mb_as, mb_mp]
      · unfold uHeld
        rw [if_pos c, if_neg c2]
        refine I.1.u0 (fun q hq => by rw [s3_o (by omega), s3_o (by omega), s3_o (by omega), s3_o (by omega)]) (fun q hq => by rw [s3_o (by omega), s3_o (by omega), s3_o (by omega), s3_o (by omega)]) ((((hg.s ⟨by omega, by omega⟩).s ⟨by omega, by omega⟩).s ⟨by omega, by omega⟩).s ⟨by omega, by omega⟩) ⟨⟨R.1.1, R.1.2.1, R.1.2.2.1, R.1.2.2.2.1, R.1.2.2.2.2.1, R.1.2.2.2.2.2.1, rfl⟩, R.2.1, R.2.2.1, R.2.2.2.1, R.2.2.2.2.1, R.2.2.2.2.2.1, R.2.2.2.2.2.2.1, ?_⟩
        intro i h0 h1
        simp (disch := omega) only [s3_at] at h1
        show s3 (s3 (s3 (s3 rho 9 (sg 1 6) p) 10 (sg 1 6) f) 11 (sg 1 6) t) 1 13 (sg 1 6 + 1) 9 i = _ ∧ s3 (s3 (s3 (s3 rho 9 (sg 1 6) p) 10 (sg 1 6) f) 11 (sg 1 6) t) 1 13 (sg 1 6 + 1) 10 i = _ ∧ s3 (s3 (s3 (s3 rho 9 (sg 1 6) p) 10 (sg 1 6) f) 11 (sg 1 6) t) 1 13 (sg 1 6 + 1) 11 i = _
        by_cases ci : i = sg 1 6
        · subst ci
          simp (disch := omega) only [s3_at, s3_nk, s3_nj, and_self]
        · have := R.2.2.2.2.2.2.2 i h0 (by omega)
          simp (disch := omega) only [s3_at, s3_nk, s3_nj]
          exact this
      · unfold uHeld
        rw [if_pos c, if_neg c2]
        exact WD_held W c.1.1 c.1.2.1 c.2 c2
      · unfold uHeld
        rw [if_pos c, if_neg c2]
        exact (((I.2.2.1.s (by omega) (by omega)).s (by omega) (by omega)).s (by omega) (by omega)).s (by omega) (by omega)
      · unfold uHeld
        rw [if_pos c, if_neg c2]
        exact (((I.2.2.2.1.s (by omega) (by omega) ⟨by omega, by show _ < (36 : Int); omega⟩).s (by omega) (by omega) ⟨by omega, by show _ < (36 : Int); omega⟩).s (by omega) (by omega) ⟨by omega, by show _ < (36 : Int); omega⟩).s (by omega) (by omega) ⟨by omega, by decide⟩
  · refine both_q (r := iI (oHeld sg p f t)) I ?_ (fun H hM => ?_)
    · unfold m11_held oHeld m11_held_p31
      rw [if_neg c]
      simp (config := { maxSteps := 1000000 }) (disch := first | assumption | exact W.i _ _ | exact sLine_i W _ _ _ | exact W1.i _ _ | exact hg _ _ | exact W3.i _ _ | (refine ⟨?_, ?_⟩ <;> omega) | omega | (simp only [sW_1, sW_2, sW_3, sW_4, sW_5, sW_8] <;> first | assumption | omega | (refine ⟨?_, ?_⟩ <;> omega)) | (simp only [sT_1, sT_2, sT_3, sT_4, sT_5, sT_8] <;> first | assumption | omega | (refine ⟨?_, ?_⟩ <;> omega))) only [Int.reduceEq, Int.reduceLT, Int.reduceLE, Int.reduceNeg, Int.reduceAdd, Int.reduceSub, Int.reduceMul, if_true, if_false, not_true, not_false_eq_true, false_or, or_false, true_or, or_true, true_and, and_true, false_and, and_false, iI_on, iI_mul, iI_add, iI_sub, iI_neg, ap_if, mp_eq, mz_0, mz_1, mz_b, b2_0, b2_1, iI_lt, iI_le, iI_inj, mb_div, mb_rem, hC.m0, hC.m1, hC.m13, hC.m15, hC.m27, hC.m29, hC.m38, hC.m40, hC.g0_0, hC.g0_1, hC.g0_3, hC.g0_4, hC.g0_5, hC.g0_6, hC.g0_7, hC.g0_8, hC.g0_9, hC.g0_10, hC.g0_11, hC.g0_12, hC.g0_13, hC.g0_14, hC.g1_2, hC.g1_3, hC.g1_5, hC.g1_7, hC.g1_9, hC.g1_11, hC.g1_12, hC.g1_14, hC.g1_15, hC.g1_16, hC.g1_17, hC.g1_18, hC.g13_0, hC.g15_2, hC.g15_3, hC.g15_5, hC.g15_7, hC.g15_9, hC.g15_11, hC.g15_12, hC.g15_14, hC.g15_15, hC.g15_16, hC.g15_17, hC.g15_18, hC.g27_0, hC.g29_3, hC.g29_4, hC.g29_5, hC.g29_6, hC.g29_7, hC.g29_8, hC.g29_9, hC.g29_10, hC.g38_0, hC.g40_0, hC.s0_2, hC.s1_0, hC.s1_1, hC.s1_4, hC.s1_6, hC.s1_8, hC.s1_10, hC.s1_13, hC.s13_1, hC.s15_0, hC.s15_1, hC.s15_4, hC.s15_6, hC.s15_8, hC.s15_10, hC.s15_13, hC.s27_1, hC.s29_0, hC.s29_1, hC.s29_2, hC.s29_11, hC.s29_12, hC.s38_1, hC.s40_1, hC.s40_2, hC.l2, hC.l3, hC.l8, hC.l9, hC.l10, hC.l11, hC.l12, hC.l14, hC.l16, hC.l17, hC.l22, hC.l23, hC.l24, hC.l25, hC.l26, hC.l28, hC.l30, hC.l31, hC.l32, hC.l33, hC.l34, hC.l36, hC.l37, hC.l39, hC.l41, hC.l43, hC.l44, hC.l45, hC.l46, hC.l47, hC.l48, hC.l49, hC.l50, hC.l51, hC.l52, hC.l53, hC.l54, hC.l35, hC.n33, hC.n36, hC.dl R W, hC.fl R W, hC.ll R W, hC.tl R W, R.d1, R.d2, R.d3, R.d4, R.dn, R.da, R.f1, R.f2, R.f3, R.f4, R.fn, R.fa, R.t1, R.t2, R.t3, R.t4, R.t5, R.tn, R.ta, R.l0, R.l1, R.l2, R.l3, R.l7, R.ln, R.lv, R.r5, R.r6, R.r8, R.r13, R.r4, R.r10, R.r11, R.r12, R.r9, R.mt, R.ml, R.lg, R.lp, R.lr, R.lo W, R.ls W, R.1.1, R.1.2.1, R.1.2.2.1, R.1.2.2.2.1, R.1.2.2.2.2.1, R.1.2.2.2.2.2.1, R.1.2.2.2.2.2.2, R.born, R.good, R.unw, R.hp, R.hf, R.ht, mb_eq (C_isPerson hC R W _)]
      (repeat' split) <;> first | with_reducible rfl | omega
    · have := B_held (h := H) hM W hp hf ht
      unfold uHeld at this
      rw [if_neg c] at this
      exact this
theorem T_good (I : Inv sg rho h) {p n : Int} (hp : i32 p) (hn : i32 n) : Both (m11_good 0 (iI p) (iI n)) (m12_good 55 (iI p) (iI n)) rho h := by
  have hC := I.1.1
  have hg := I.1.2.2.1
  have R := I.1.2.2.2.2.1
  have W := I.2.1
  have n1 := W.n1
  by_cases c : (0 ≤ p ∧ p < sg 1 1) ∧ 1 ≤ n ∧ n ≤ 99
  · have np := W.pe p c.1.1 c.1.2
    by_cases c2 : sg 2 (2 * p + 1) + n ≤ 999
    · refine both_of (r := iI (oGood sg p n)) (rho' := s3 rho 3 p (sg 2 (2 * p + 1) + n)) (sg' := uGood sg p n) I ?_ ?_ (hG.rf h) (fun H hM => B_good hM W hp hn) ?_ ?_ ?_
      · unfold m11_good oGood
        rw [if_pos c, if_pos c2]
        simp (config := { maxSteps := 1000000 }) (disch := first | assumption | exact W.i _ _ | exact sLine_i W _ _ _ | exact W1.i _ _ | exact hg _ _ | exact W3.i _ _ | (refine ⟨?_, ?_⟩ <;> omega) | omega | (simp only [sW_1, sW_2, sW_3, sW_4, sW_5, sW_8] <;> first | assumption | omega | (refine ⟨?_, ?_⟩ <;> omega)) | (simp only [sT_1, sT_2, sT_3, sT_4, sT_5, sT_8] <;> first | assumption | omega | (refine ⟨?_, ?_⟩ <;> omega))) only [Int.reduceEq, Int.reduceLT, Int.reduceLE, Int.reduceNeg, Int.reduceAdd, Int.reduceSub, Int.reduceMul, if_true, if_false, not_true, not_false_eq_true, false_or, or_false, true_or, or_true, true_and, and_true, false_and, and_false, iI_on, iI_mul, iI_add, iI_sub, iI_neg, ap_if, mp_eq, mz_0, mz_1, mz_b, b2_0, b2_1, iI_lt, iI_le, iI_inj, mb_div, mb_rem, hC.m0, hC.m1, hC.m13, hC.m15, hC.m27, hC.m29, hC.m38, hC.m40, hC.g0_0, hC.g0_1, hC.g0_3, hC.g0_4, hC.g0_5, hC.g0_6, hC.g0_7, hC.g0_8, hC.g0_9, hC.g0_10, hC.g0_11, hC.g0_12, hC.g0_13, hC.g0_14, hC.g1_2, hC.g1_3, hC.g1_5, hC.g1_7, hC.g1_9, hC.g1_11, hC.g1_12, hC.g1_14, hC.g1_15, hC.g1_16, hC.g1_17, hC.g1_18, hC.g13_0, hC.g15_2, hC.g15_3, hC.g15_5, hC.g15_7, hC.g15_9, hC.g15_11, hC.g15_12, hC.g15_14, hC.g15_15, hC.g15_16, hC.g15_17, hC.g15_18, hC.g27_0, hC.g29_3, hC.g29_4, hC.g29_5, hC.g29_6, hC.g29_7, hC.g29_8, hC.g29_9, hC.g29_10, hC.g38_0, hC.g40_0, hC.s0_2, hC.s1_0, hC.s1_1, hC.s1_4, hC.s1_6, hC.s1_8, hC.s1_10, hC.s1_13, hC.s13_1, hC.s15_0, hC.s15_1, hC.s15_4, hC.s15_6, hC.s15_8, hC.s15_10, hC.s15_13, hC.s27_1, hC.s29_0, hC.s29_1, hC.s29_2, hC.s29_11, hC.s29_12, hC.s38_1, hC.s40_1, hC.s40_2, hC.l2, hC.l3, hC.l8, hC.l9, hC.l10, hC.l11, hC.l12, hC.l14, hC.l16, hC.l17, hC.l22, hC.l23, hC.l24, hC.l25, hC.l26, hC.l28, hC.l30, hC.l31, hC.l32, hC.l33, hC.l34, hC.l36, hC.l37, hC.l39, hC.l41, hC.l43, hC.l44, hC.l45, hC.l46, hC.l47, hC.l48, hC.l49, hC.l50, hC.l51, hC.l52, hC.l53, hC.l54, hC.l35, hC.n33, hC.n36, hC.dl R W, hC.fl R W, hC.ll R W, hC.tl R W, R.d1, R.d2, R.d3, R.d4, R.dn, R.da, R.f1, R.f2, R.f3, R.f4, R.fn, R.fa, R.t1, R.t2, R.t3, R.t4, R.t5, R.tn, R.ta, R.l0, R.l1, R.l2, R.l3, R.l7, R.ln, R.lv, R.r5, R.r6, R.r8, R.r13, R.r4, R.r10, R.r11, R.r12, R.r9, R.mt, R.ml, R.lg, R.lp, R.lr, R.lo W, R.ls W, R.1.1, R.1.2.1, R.1.2.2.1, R.1.2.2.2.1, R.1.2.2.2.2.1, R.1.2.2.2.2.2.1, R.1.2.2.2.2.2.2, R.born, R.good, R.unw, R.hp, R.hf, R.ht, hC.p0_2, hC.p1_0, hC.p1_1, hC.p1_4, hC.p1_6, hC.p1_8, hC.p1_10, hC.p1_13, hC.p13_1, hC.p15_0, hC.p15_1, hC.p15_4, hC.p15_6, hC.p15_8, hC.p15_10, hC.p15_13, hC.p27_1, hC.p29_0, hC.p29_1, hC.p29_2, hC.p29_11, hC.p29_12, hC.p38_1, hC.p40_1, hC.p40_2, hC.w2, hC.w3, hC.w8, hC.w9, hC.w10, hC.w11, hC.w12, hC.w14, hC.w16, hC.w17, hC.w22, hC.w23, hC.w24, hC.w25, hC.w26, hC.w28, hC.w30, hC.w31, hC.w32, hC.w33, hC.w34, hC.w36, hC.w37, hC.w39, hC.w41, hC.w43, hC.w44, hC.w45, hC.w46, hC.w47, hC.w48, hC.w49, hC.w50, hC.w51, hC.w52, hC.w53, hC.w54, s3_at, s3_nk, s3_nj, mb_eq (C_isPerson hC R W _), c.1.1, c.1.2, show ¬ n < 1 by omega, c.2.2, c2]
      · unfold uGood
        rw [if_pos c, if_pos c2]
        refine I.1.u0 (fun q hq => s3_o (by omega)) (fun q hq => s3_o (by omega)) (hg.s ⟨by omega, by omega⟩) ⟨R.1, ?_, ?_, R.2.2.2⟩
        · intro i h0 h1
          have := R.2.1 i h0 h1
          show s3 rho 3 p (sg 2 (2 * p + 1) + n) 2 i = _ ∧ s3 rho 3 p (sg 2 (2 * p + 1) + n) 3 i = _
          by_cases ci : i = p
          · subst ci
            simp (disch := omega) only [s3_at, s3_nk, s3_nj, and_true]
            exact this.1
          · simp (disch := omega) only [s3_at, s3_nk, s3_nj]
            exact this
        · intro i h0 h1
          obtain ⟨q, a, b⟩ := R.2.2.1 i h0 h1
          refine ⟨q, a, ?_⟩
          have e : sAge (s3 sg 2 (2 * p + 1) (sg 2 (2 * p + 1) + n)) i = sAge sg i := by
            unfold sAge sAgeOn
            simp (disch := omega) only [s3_nk, s3_nj]
          unfold isDeedO at b ⊢
          rw [e]
          exact b
      · unfold uGood
        rw [if_pos c, if_pos c2]
        exact WD_good W c.1 c.2.1 c2
      · unfold uGood
        rw [if_pos c, if_pos c2]
        exact I.2.2.1.s (by omega) (by omega)
      · unfold uGood
        rw [if_pos c, if_pos c2]
        exact I.2.2.2.1.s (by omega) (by omega) ⟨by omega, by show _ < (16 : Int); omega⟩
    · refine both_q (r := iI (oGood sg p n)) I ?_ (fun H hM => ?_)
      · unfold m11_good oGood
        rw [if_pos c, if_neg c2]
        simp (config := { maxSteps := 1000000 }) (disch := first | assumption | exact W.i _ _ | exact sLine_i W _ _ _ | exact W1.i _ _ | exact hg _ _ | exact W3.i _ _ | (refine ⟨?_, ?_⟩ <;> omega) | omega | (simp only [sW_1, sW_2, sW_3, sW_4, sW_5, sW_8] <;> first | assumption | omega | (refine ⟨?_, ?_⟩ <;> omega)) | (simp only [sT_1, sT_2, sT_3, sT_4, sT_5, sT_8] <;> first | assumption | omega | (refine ⟨?_, ?_⟩ <;> omega))) only [Int.reduceEq, Int.reduceLT, Int.reduceLE, Int.reduceNeg, Int.reduceAdd, Int.reduceSub, Int.reduceMul, if_true, if_false, not_true, not_false_eq_true, false_or, or_false, true_or, or_true, true_and, and_true, false_and, and_false, iI_on, iI_mul, iI_add, iI_sub, iI_neg, ap_if, mp_eq, mz_0, mz_1, mz_b, b2_0, b2_1, iI_lt, iI_le, iI_inj, mb_div, mb_rem, hC.m0, hC.m1, hC.m13, hC.m15, hC.m27, hC.m29, hC.m38, hC.m40, hC.g0_0, hC.g0_1, hC.g0_3, hC.g0_4, hC.g0_5, hC.g0_6, hC.g0_7, hC.g0_8, hC.g0_9, hC.g0_10, hC.g0_11, hC.g0_12, hC.g0_13, hC.g0_14, hC.g1_2, hC.g1_3, hC.g1_5, hC.g1_7, hC.g1_9, hC.g1_11, hC.g1_12, hC.g1_14, hC.g1_15, hC.g1_16, hC.g1_17, hC.g1_18, hC.g13_0, hC.g15_2, hC.g15_3, hC.g15_5, hC.g15_7, hC.g15_9, hC.g15_11, hC.g15_12, hC.g15_14, hC.g15_15, hC.g15_16, hC.g15_17, hC.g15_18, hC.g27_0, hC.g29_3, hC.g29_4, hC.g29_5, hC.g29_6, hC.g29_7, hC.g29_8, hC.g29_9, hC.g29_10, hC.g38_0, hC.g40_0, hC.s0_2, hC.s1_0, hC.s1_1, hC.s1_4, hC.s1_6, hC.s1_8, hC.s1_10, hC.s1_13, hC.s13_1, hC.s15_0, hC.s15_1, hC.s15_4, hC.s15_6, hC.s15_8, hC.s15_10, hC.s15_13, hC.s27_1, hC.s29_0, hC.s29_1, hC.s29_2, hC.s29_11, hC.s29_12, hC.s38_1, hC.s40_1, hC.s40_2, hC.l2, hC.l3, hC.l8, hC.l9, hC.l10, hC.l11, hC.l12, hC.l14, hC.l16, hC.l17, hC.l22, hC.l23, hC.l24, hC.l25, hC.l26, hC.l28, hC.l30, hC.l31, hC.l32, hC.l33, hC.l34, hC.l36, hC.l37, hC.l39, hC.l41, hC.l43, hC.l44, hC.l45, hC.l46, hC.l47, hC.l48, hC.l49, hC.l50, hC.l51, hC.l52, hC.l53, hC.l54, hC.l35, hC.n33, hC.n36, hC.dl R W, hC.fl R W, hC.ll R W, hC.tl R W, R.d1, R.d2, R.d3, R.d4, R.dn, R.da, R.f1, R.f2, R.f3, R.f4, R.fn, R.fa, R.t1, R.t2, R.t3, R.t4, R.t5, R.tn, R.ta, R.l0, R.l1, R.l2, R.l3, R.l7, R.ln, R.lv, R.r5, R.r6, R.r8, R.r13, R.r4, R.r10, R.r11, R.r12, R.r9, R.mt, R.ml, R.lg, R.lp, R.lr, R.lo W, R.ls W, R.1.1, R.1.2.1, R.1.2.2.1, R.1.2.2.2.1, R.1.2.2.2.2.1, R.1.2.2.2.2.2.1, R.1.2.2.2.2.2.2, R.born, R.good, R.unw, R.hp, R.hf, R.ht, hC.p0_2, hC.p1_0, hC.p1_1, hC.p1_4, hC.p1_6, hC.p1_8, hC.p1_10, hC.p1_13, hC.p13_1, hC.p15_0, hC.p15_1, hC.p15_4, hC.p15_6, hC.p15_8, hC.p15_10, hC.p15_13, hC.p27_1, hC.p29_0, hC.p29_1, hC.p29_2, hC.p29_11, hC.p29_12, hC.p38_1, hC.p40_1, hC.p40_2, hC.w2, hC.w3, hC.w8, hC.w9, hC.w10, hC.w11, hC.w12, hC.w14, hC.w16, hC.w17, hC.w22, hC.w23, hC.w24, hC.w25, hC.w26, hC.w28, hC.w30, hC.w31, hC.w32, hC.w33, hC.w34, hC.w36, hC.w37, hC.w39, hC.w41, hC.w43, hC.w44, hC.w45, hC.w46, hC.w47, hC.w48, hC.w49, hC.w50, hC.w51, hC.w52, hC.w53, hC.w54, s3_at, s3_nk, s3_nj, mb_eq (C_isPerson hC R W _), c.1.1, c.1.2, show ¬ n < 1 by omega, c.2.2, c2]
      · have := B_good (h := H) hM W hp hn
        unfold uGood at this
        rw [if_pos c, if_neg c2] at this
        exact this
  · refine both_q (r := iI (oGood sg p n)) I ?_ (fun H hM => ?_)
    · unfold m11_good oGood m11_good_p22
      rw [if_neg c]
      simp (config := { maxSteps := 1000000 }) (disch := first | assumption | exact W.i _ _ | exact sLine_i W _ _ _ | exact W1.i _ _ | exact hg _ _ | exact W3.i _ _ | (refine ⟨?_, ?_⟩ <;> omega) | omega | (simp only [sW_1, sW_2, sW_3, sW_4, sW_5, sW_8] <;> first | assumption | omega | (refine ⟨?_, ?_⟩ <;> omega)) | (simp only [sT_1, sT_2, sT_3, sT_4, sT_5, sT_8] <;> first | assumption | omega | (refine ⟨?_, ?_⟩ <;> omega))) only [Int.reduceEq, Int.reduceLT, Int.reduceLE, Int.reduceNeg, Int.reduceAdd, Int.reduceSub, Int.reduceMul, if_true, if_false, not_true, not_false_eq_true, false_or, or_false, true_or, or_true, true_and, and_true, false_and, and_false, iI_on, iI_mul, iI_add, iI_sub, iI_neg, ap_if, mp_eq, mz_0, mz_1, mz_b, b2_0, b2_1, iI_lt, iI_le, iI_inj, mb_div, mb_rem, hC.m0, hC.m1, hC.m13, hC.m15, hC.m27, hC.m29, hC.m38, hC.m40, hC.g0_0, hC.g0_1, hC.g0_3, hC.g0_4, hC.g0_5, hC.g0_6, hC.g0_7, hC.g0_8, hC.g0_9, hC.g0_10, hC.g0_11, hC.g0_12, hC.g0_13, hC.g0_14, hC.g1_2, hC.g1_3, hC.g1_5, hC.g1_7, hC.g1_9, hC.g1_11, hC.g1_12, hC.g1_14, hC.g1_15, hC.g1_16, hC.g1_17, hC.g1_18, hC.g13_0, hC.g15_2, hC.g15_3, hC.g15_5, hC.g15_7, hC.g15_9, hC.g15_11, hC.g15_12, hC.g15_14, hC.g15_15, hC.g15_16, hC.g15_17, hC.g15_18, hC.g27_0, hC.g29_3, hC.g29_4, hC.g29_5, hC.g29_6, hC.g29_7, hC.g29_8, hC.g29_9, hC.g29_10, hC.g38_0, hC.g40_0, hC.s0_2, hC.s1_0, hC.s1_1, hC.s1_4, hC.s1_6, hC.s1_8, hC.s1_10, hC.s1_13, hC.s13_1, hC.s15_0, hC.s15_1, hC.s15_4, hC.s15_6, hC.s15_8, hC.s15_10, hC.s15_13, hC.s27_1, hC.s29_0, hC.s29_1, hC.s29_2, hC.s29_11, hC.s29_12, hC.s38_1, hC.s40_1, hC.s40_2, hC.l2, hC.l3, hC.l8, hC.l9, hC.l10, hC.l11, hC.l12, hC.l14, hC.l16, hC.l17, hC.l22, hC.l23, hC.l24, hC.l25, hC.l26, hC.l28, hC.l30, hC.l31, hC.l32, hC.l33, hC.l34, hC.l36, hC.l37, hC.l39, hC.l41, hC.l43, hC.l44, hC.l45, hC.l46, hC.l47, hC.l48, hC.l49, hC.l50, hC.l51, hC.l52, hC.l53, hC.l54, hC.l35, hC.n33, hC.n36, hC.dl R W, hC.fl R W, hC.ll R W, hC.tl R W, R.d1, R.d2, R.d3, R.d4, R.dn, R.da, R.f1, R.f2, R.f3, R.f4, R.fn, R.fa, R.t1, R.t2, R.t3, R.t4, R.t5, R.tn, R.ta, R.l0, R.l1, R.l2, R.l3, R.l7, R.ln, R.lv, R.r5, R.r6, R.r8, R.r13, R.r4, R.r10, R.r11, R.r12, R.r9, R.mt, R.ml, R.lg, R.lp, R.lr, R.lo W, R.ls W, R.1.1, R.1.2.1, R.1.2.2.1, R.1.2.2.2.1, R.1.2.2.2.2.1, R.1.2.2.2.2.2.1, R.1.2.2.2.2.2.2, R.born, R.good, R.unw, R.hp, R.hf, R.ht, mb_eq (C_isPerson hC R W _)]
      (repeat' split) <;> first | with_reducible rfl | omega
    · have := B_good (h := H) hM W hp hn
      unfold uGood at this
      rw [if_neg c] at this
      exact this
theorem T_appeal (I : Inv sg rho h) {t : Int} (ht : i32 t) : Both (m11_appeal 0 (iI t)) (m12_appeal 55 (iI t)) rho h := by
  have hC := I.1.1
  have hg := I.1.2.2.1
  have R := I.1.2.2.2.2.1
  have W := I.2.1
  have n5 := W.n5
  have n0 := W.n0
  have hB := fun H (hM : OKM 55 H) => B_appeal (h := H) hM W (fun t a b c => WD_appeal W t a b c) ht
  by_cases c : 0 ≤ t ∧ t < sg 1 5
  · by_cases c2 : sStands sg t (sg 1 0)
    · have est : b2 (sStands sg t (sg 1 0)) = 1 := b2_t c2
      have W2 := WD_appeal W t c.1 c.2 c2
      have R2 : RDs 1 (s3 sg 8 (7 * t + 6) (sg 1 0)) (s3 rho 8 t (sg 1 0)) h := by
        refine ⟨R.1, R.2.1, R.2.2.1, R.2.2.2.1, R.2.2.2.2.1, ?_, ?_, R.2.2.2.2.2.2.2⟩
        · intro i h0 h1
          obtain ⟨q, a, b⟩ := R.2.2.2.2.2.1 i h0 h1
          refine ⟨q, a, ?_⟩
          unfold isTermO at b ⊢
          simp (disch := omega) only [s3_nj]
          exact b
        · intro i h0 h1
          have := R.2.2.2.2.2.2.1 i h0 h1
          show s3 rho 8 t (sg 1 0) 8 i = _
          by_cases ci : i = t
          · subst ci
            simp only [s3_at]
            rw [if_neg (by omega)]
          · simp (disch := omega) only [s3_nj]
            exact this
      refine both_of (r := iI (oAppeal sg t)) (rho' := s3 rho 8 t (sg 1 0)) (sg' := uAppeal sg t) I ?_ ?_ (hG.rf h) hB ?_ ?_ ?_
      · unfold m11_appeal oAppeal
        rw [if_pos c, if_pos c2]
        simp (config := { maxSteps := 1000000 }) (disch := first | assumption | exact W.i _ _ | exact sLine_i W _ _ _ | exact W1.i _ _ | exact hg _ _ | exact W3.i _ _ | (refine ⟨?_, ?_⟩ <;> omega) | omega | (simp only [sW_1, sW_2, sW_3, sW_4, sW_5, sW_8] <;> first | assumption | omega | (refine ⟨?_, ?_⟩ <;> omega)) | (simp only [sT_1, sT_2, sT_3, sT_4, sT_5, sT_8] <;> first | assumption | omega | (refine ⟨?_, ?_⟩ <;> omega))) only [Int.reduceEq, Int.reduceLT, Int.reduceLE, Int.reduceNeg, Int.reduceAdd, Int.reduceSub, Int.reduceMul, if_true, if_false, not_true, not_false_eq_true, false_or, or_false, true_or, or_true, true_and, and_true, false_and, and_false, iI_on, iI_mul, iI_add, iI_sub, iI_neg, ap_if, mp_eq, mz_0, mz_1, mz_b, b2_0, b2_1, iI_lt, iI_le, iI_inj, mb_div, mb_rem, hC.m0, hC.m1, hC.m13, hC.m15, hC.m27, hC.m29, hC.m38, hC.m40, hC.g0_0, hC.g0_1, hC.g0_3, hC.g0_4, hC.g0_5, hC.g0_6, hC.g0_7, hC.g0_8, hC.g0_9, hC.g0_10, hC.g0_11, hC.g0_12, hC.g0_13, hC.g0_14, hC.g1_2, hC.g1_3, hC.g1_5, hC.g1_7, hC.g1_9, hC.g1_11, hC.g1_12, hC.g1_14, hC.g1_15, hC.g1_16, hC.g1_17, hC.g1_18, hC.g13_0, hC.g15_2, hC.g15_3, hC.g15_5, hC.g15_7, hC.g15_9, hC.g15_11, hC.g15_12, hC.g15_14, hC.g15_15, hC.g15_16, hC.g15_17, hC.g15_18, hC.g27_0, hC.g29_3, hC.g29_4, hC.g29_5, hC.g29_6, hC.g29_7, hC.g29_8, hC.g29_9, hC.g29_10, hC.g38_0, hC.g40_0, hC.s0_2, hC.s1_0, hC.s1_1, hC.s1_4, hC.s1_6, hC.s1_8, hC.s1_10, hC.s1_13, hC.s13_1, hC.s15_0, hC.s15_1, hC.s15_4, hC.s15_6, hC.s15_8, hC.s15_10, hC.s15_13, hC.s27_1, hC.s29_0, hC.s29_1, hC.s29_2, hC.s29_11, hC.s29_12, hC.s38_1, hC.s40_1, hC.s40_2, hC.l2, hC.l3, hC.l8, hC.l9, hC.l10, hC.l11, hC.l12, hC.l14, hC.l16, hC.l17, hC.l22, hC.l23, hC.l24, hC.l25, hC.l26, hC.l28, hC.l30, hC.l31, hC.l32, hC.l33, hC.l34, hC.l36, hC.l37, hC.l39, hC.l41, hC.l43, hC.l44, hC.l45, hC.l46, hC.l47, hC.l48, hC.l49, hC.l50, hC.l51, hC.l52, hC.l53, hC.l54, hC.l35, hC.n33, hC.n36, hC.dl R W, hC.fl R W, hC.ll R W, hC.tl R W, R.d1, R.d2, R.d3, R.d4, R.dn, R.da, R.f1, R.f2, R.f3, R.f4, R.fn, R.fa, R.t1, R.t2, R.t3, R.t4, R.t5, R.tn, R.ta, R.l0, R.l1, R.l2, R.l3, R.l7, R.ln, R.lv, R.r5, R.r6, R.r8, R.r13, R.r4, R.r10, R.r11, R.r12, R.r9, R.mt, R.ml, R.lg, R.lp, R.lr, R.lo W, R.ls W, R.1.1, R.1.2.1, R.1.2.2.1, R.1.2.2.2.1, R.1.2.2.2.2.1, R.1.2.2.2.2.2.1, R.1.2.2.2.2.2.2, R.born, R.good, R.unw, R.hp, R.hf, R.ht, hC.p0_2, hC.p1_0, hC.p1_1, hC.p1_4, hC.p1_6, hC.p1_8, hC.p1_10, hC.p1_13, hC.p13_1, hC.p15_0, hC.p15_1, hC.p15_4, hC.p15_6, hC.p15_8, hC.p15_10, hC.p15_13, hC.p27_1, hC.p29_0, hC.p29_1, hC.p29_2, hC.p29_11, hC.p29_12, hC.p38_1, hC.p40_1, hC.p40_2, hC.w2, hC.w3, hC.w8, hC.w9, hC.w10, hC.w11, hC.w12, hC.w14, hC.w16, hC.w17, hC.w22, hC.w23, hC.w24, hC.w25, hC.w26, hC.w28, hC.w30, hC.w31, hC.w32, hC.w33, hC.w34, hC.w36, hC.w37, hC.w39, hC.w41, hC.w43, hC.w44, hC.w45, hC.w46, hC.w47, hC.w48, hC.w49, hC.w50, hC.w51, hC.w52, hC.w53, hC.w54, s3_at, s3_nk, s3_nj, mb_eq (C_isTerm hC R W _), c.1, c.2, mb_eq (C_stands hC R W _ _ _), est, mb_eq (C_standing hC R2 W2 _)]
      · unfold uAppeal
        rw [if_pos c, if_pos c2]
        exact I.1.u0 (fun q hq => s3_o (by omega)) (fun q hq => s3_o (by omega)) (hg.s ⟨by omega, by omega⟩) R2
      · unfold uAppeal
        rw [if_pos c, if_pos c2]
        exact W2
      · unfold uAppeal
        rw [if_pos c, if_pos c2]
        exact I.2.2.1.s (by omega) (by omega)
      · unfold uAppeal
        rw [if_pos c, if_pos c2]
        exact I.2.2.2.1.s (by omega) (by omega) ⟨by omega, by show _ < (112 : Int); omega⟩
    · have est : b2 (sStands sg t (sg 1 0)) = 0 := b2_f c2
      refine both_q (r := iI (oAppeal sg t)) I ?_ (fun H hM => ?_)
      · unfold m11_appeal oAppeal
        rw [if_pos c, if_neg c2]
        simp (config := { maxSteps := 1000000 }) (disch := first | assumption | exact W.i _ _ | exact sLine_i W _ _ _ | exact W1.i _ _ | exact hg _ _ | exact W3.i _ _ | (refine ⟨?_, ?_⟩ <;> omega) | omega | (simp only [sW_1, sW_2, sW_3, sW_4, sW_5, sW_8] <;> first | assumption | omega | (refine ⟨?_, ?_⟩ <;> omega)) | (simp only [sT_1, sT_2, sT_3, sT_4, sT_5, sT_8] <;> first | assumption | omega | (refine ⟨?_, ?_⟩ <;> omega))) only [Int.reduceEq, Int.reduceLT, Int.reduceLE, Int.reduceNeg, Int.reduceAdd, Int.reduceSub, Int.reduceMul, if_true, if_false, not_true, not_false_eq_true, false_or, or_false, true_or, or_true, true_and, and_true, false_and, and_false, iI_on, iI_mul, iI_add, iI_sub, iI_neg, ap_if, mp_eq, mz_0, mz_1, mz_b, b2_0, b2_1, iI_lt, iI_le, iI_inj, mb_div, mb_rem, hC.m0, hC.m1, hC.m13, hC.m15, hC.m27, hC.m29, hC.m38, hC.m40, hC.g0_0, hC.g0_1, hC.g0_3, hC.g0_4, hC.g0_5, hC.g0_6, hC.g0_7, hC.g0_8, hC.g0_9, hC.g0_10, hC.g0_11, hC.g0_12, hC.g0_13, hC.g0_14, hC.g1_2, hC.g1_3, hC.g1_5, hC.g1_7, hC.g1_9, hC.g1_11, hC.g1_12, hC.g1_14, hC.g1_15, hC.g1_16, hC.g1_17, hC.g1_18, hC.g13_0, hC.g15_2, hC.g15_3, hC.g15_5, hC.g15_7, hC.g15_9, hC.g15_11, hC.g15_12, hC.g15_14, hC.g15_15, hC.g15_16, hC.g15_17, hC.g15_18, hC.g27_0, hC.g29_3, hC.g29_4, hC.g29_5, hC.g29_6, hC.g29_7, hC.g29_8, hC.g29_9, hC.g29_10, hC.g38_0, hC.g40_0, hC.s0_2, hC.s1_0, hC.s1_1, hC.s1_4, hC.s1_6, hC.s1_8, hC.s1_10, hC.s1_13, hC.s13_1, hC.s15_0, hC.s15_1, hC.s15_4, hC.s15_6, hC.s15_8, hC.s15_10, hC.s15_13, hC.s27_1, hC.s29_0, hC.s29_1, hC.s29_2, hC.s29_11, hC.s29_12, hC.s38_1, hC.s40_1, hC.s40_2, hC.l2, hC.l3, hC.l8, hC.l9, hC.l10, hC.l11, hC.l12, hC.l14, hC.l16, hC.l17, hC.l22, hC.l23, hC.l24, hC.l25, hC.l26, hC.l28, hC.l30, hC.l31, hC.l32, hC.l33, hC.l34, hC.l36, hC.l37, hC.l39, hC.l41, hC.l43, hC.l44, hC.l45, hC.l46, hC.l47, hC.l48, hC.l49, hC.l50, hC.l51, hC.l52, hC.l53, hC.l54, hC.l35, hC.n33, hC.n36, hC.dl R W, hC.fl R W, hC.ll R W, hC.tl R W, R.d1, R.d2, R.d3, R.d4, R.dn, R.da, R.f1, R.f2, R.f3, R.f4, R.fn, R.fa, R.t1, R.t2, R.t3, R.t4, R.t5, R.tn, R.ta, R.l0, R.l1, R.l2, R.l3, R.l7, R.ln, R.lv, R.r5, R.r6, R.r8, R.r13, R.r4, R.r10, R.r11, R.r12, R.r9, R.mt, R.ml, R.lg, R.lp, R.lr, R.lo W, R.ls W, R.1.1, R.1.2.1, R.1.2.2.1, R.1.2.2.2.1, R.1.2.2.2.2.1, R.1.2.2.2.2.2.1, R.1.2.2.2.2.2.2, R.born, R.good, R.unw, R.hp, R.hf, R.ht, hC.p0_2, hC.p1_0, hC.p1_1, hC.p1_4, hC.p1_6, hC.p1_8, hC.p1_10, hC.p1_13, hC.p13_1, hC.p15_0, hC.p15_1, hC.p15_4, hC.p15_6, hC.p15_8, hC.p15_10, hC.p15_13, hC.p27_1, hC.p29_0, hC.p29_1, hC.p29_2, hC.p29_11, hC.p29_12, hC.p38_1, hC.p40_1, hC.p40_2, hC.w2, hC.w3, hC.w8, hC.w9, hC.w10, hC.w11, hC.w12, hC.w14, hC.w16, hC.w17, hC.w22, hC.w23, hC.w24, hC.w25, hC.w26, hC.w28, hC.w30, hC.w31, hC.w32, hC.w33, hC.w34, hC.w36, hC.w37, hC.w39, hC.w41, hC.w43, hC.w44, hC.w45, hC.w46, hC.w47, hC.w48, hC.w49, hC.w50, hC.w51, hC.w52, hC.w53, hC.w54, s3_at, s3_nk, s3_nj, mb_eq (C_isTerm hC R W _), c.1, c.2, mb_eq (C_stands hC R W _ _ _), est]
      · have := hB H hM
        unfold uAppeal at this
        rw [if_pos c, if_neg c2] at this
        exact this
  · refine both_q (r := iI (oAppeal sg t)) I ?_ (fun H hM => ?_)
    · unfold m11_appeal oAppeal
      rw [if_neg c]
      simp (config := { maxSteps := 1000000 }) (disch := first | assumption | exact W.i _ _ | exact sLine_i W _ _ _ | exact W1.i _ _ | exact hg _ _ | exact W3.i _ _ | (refine ⟨?_, ?_⟩ <;> omega) | omega | (simp only [sW_1, sW_2, sW_3, sW_4, sW_5, sW_8] <;> first | assumption | omega | (refine ⟨?_, ?_⟩ <;> omega)) | (simp only [sT_1, sT_2, sT_3, sT_4, sT_5, sT_8] <;> first | assumption | omega | (refine ⟨?_, ?_⟩ <;> omega))) only [Int.reduceEq, Int.reduceLT, Int.reduceLE, Int.reduceNeg, Int.reduceAdd, Int.reduceSub, Int.reduceMul, if_true, if_false, not_true, not_false_eq_true, false_or, or_false, true_or, or_true, true_and, and_true, false_and, and_false, iI_on, iI_mul, iI_add, iI_sub, iI_neg, ap_if, mp_eq, mz_0, mz_1, mz_b, b2_0, b2_1, iI_lt, iI_le, iI_inj, mb_div, mb_rem, hC.m0, hC.m1, hC.m13, hC.m15, hC.m27, hC.m29, hC.m38, hC.m40, hC.g0_0, hC.g0_1, hC.g0_3, hC.g0_4, hC.g0_5, hC.g0_6, hC.g0_7, hC.g0_8, hC.g0_9, hC.g0_10, hC.g0_11, hC.g0_12, hC.g0_13, hC.g0_14, hC.g1_2, hC.g1_3, hC.g1_5, hC.g1_7, hC.g1_9, hC.g1_11, hC.g1_12, hC.g1_14, hC.g1_15, hC.g1_16, hC.g1_17, hC.g1_18, hC.g13_0, hC.g15_2, hC.g15_3, hC.g15_5, hC.g15_7, hC.g15_9, hC.g15_11, hC.g15_12, hC.g15_14, hC.g15_15, hC.g15_16, hC.g15_17, hC.g15_18, hC.g27_0, hC.g29_3, hC.g29_4, hC.g29_5, hC.g29_6, hC.g29_7, hC.g29_8, hC.g29_9, hC.g29_10, hC.g38_0, hC.g40_0, hC.s0_2, hC.s1_0, hC.s1_1, hC.s1_4, hC.s1_6, hC.s1_8, hC.s1_10, hC.s1_13, hC.s13_1, hC.s15_0, hC.s15_1, hC.s15_4, hC.s15_6, hC.s15_8, hC.s15_10, hC.s15_13, hC.s27_1, hC.s29_0, hC.s29_1, hC.s29_2, hC.s29_11, hC.s29_12, hC.s38_1, hC.s40_1, hC.s40_2, hC.l2, hC.l3, hC.l8, hC.l9, hC.l10, hC.l11, hC.l12, hC.l14, hC.l16, hC.l17, hC.l22, hC.l23, hC.l24, hC.l25, hC.l26, hC.l28, hC.l30, hC.l31, hC.l32, hC.l33, hC.l34, hC.l36, hC.l37, hC.l39, hC.l41, hC.l43, hC.l44, hC.l45, hC.l46, hC.l47, hC.l48, hC.l49, hC.l50, hC.l51, hC.l52, hC.l53, hC.l54, hC.l35, hC.n33, hC.n36, hC.dl R W, hC.fl R W, hC.ll R W, hC.tl R W, R.d1, R.d2, R.d3, R.d4, R.dn, R.da, R.f1, R.f2, R.f3, R.f4, R.fn, R.fa, R.t1, R.t2, R.t3, R.t4, R.t5, R.tn, R.ta, R.l0, R.l1, R.l2, R.l3, R.l7, R.ln, R.lv, R.r5, R.r6, R.r8, R.r13, R.r4, R.r10, R.r11, R.r12, R.r9, R.mt, R.ml, R.lg, R.lp, R.lr, R.lo W, R.ls W, R.1.1, R.1.2.1, R.1.2.2.1, R.1.2.2.2.1, R.1.2.2.2.2.1, R.1.2.2.2.2.2.1, R.1.2.2.2.2.2.2, R.born, R.good, R.unw, R.hp, R.hf, R.ht, mb_eq (C_isTerm hC R W _)]
      rw [if_pos c]
    · have := hB H hM
      unfold uAppeal at this
      rw [if_neg c] at this
      exact this
end UPD

/-! ===== the class's times, release, likeness ===== -/
theorem RDs.co {X : Nat} {sg rho rho' : Nat → Int → Int} {h : gH} (H : RDs X sg rho h) (k : ∀ q, X ≤ q → q ≤ X + 10 → rho' q = rho q) : RDs X sg rho' h := by
  unfold RDs at H ⊢
  rw [k X (by omega) (by omega), k (X + 1) (by omega) (by omega), k (X + 2) (by omega) (by omega), k (X + 7) (by omega) (by omega), k (X + 8) (by omega) (by omega), k (X + 9) (by omega) (by omega), k (X + 10) (by omega) (by omega)]
  exact H
theorem hS.R {sg rho : Nat → Int → Int} {h h' : gH} (k : hS h h') (R : RDs 1 sg rho h) (hL : LB h) : RDs 1 sg rho h' := R.hs (Or.inl rfl) hL (cS.rf _) k
section CT
variable {sg rho : Nat → Int → Int} {h : gH}
abbrev tmP (sg : Nat → Int → Int) (p k t : Int) : Prop := sg 3 (3 * sg 8 (7 * t)) = p ∧ sStands sg t k
theorem sTime_ends (p k : Int) : ∀ n : Nat, ((fo (sTmS sg p k) n [] 0).length = 0 → ∀ j : Int, 0 ≤ j → j < n → ¬ tmP sg p k j) ∧ ((fo (sTmS sg p k) n [] 0).length ≠ 0 → tmP sg p k (tmO (fo (sTmS sg p k) n [] 0)) ∧ 0 ≤ tmO (fo (sTmS sg p k) n [] 0) ∧ tmO (fo (sTmS sg p k) n [] 0) < n ∧ (∀ j : Int, 0 ≤ j → j < tmO (fo (sTmS sg p k) n [] 0) → ¬ tmP sg p k j) ∧ tmN (fo (sTmS sg p k) n [] 0) = lst (tmP sg p k) n)
  | 0 => ⟨fun _ j j0 j1 => by omega, fun q => absurd rfl q⟩
  | n + 1 => by
    obtain ⟨a, b⟩ := sTime_ends p k n
    rw [fo_succ, Int.zero_add, lst_s]
    generalize fo (sTmS sg p k) n [] 0 = L at a b
    unfold sTmS
    by_cases c : tmP sg p k n
    · rw [if_pos c, if_pos c]
      refine ⟨fun q => by simp at q, fun _ => ?_⟩
      by_cases cl : L.length = 0
      · have eo : tmO (((n : Int), sBegin sg n (lE L) k, sBegin sg n (lE L) k + 30 * sg 8 (7 * n + 2)) :: L) = n := by
          unfold tmO
          rw [if_pos cl]
        rw [eo]
        exact ⟨c, by omega, by omega, fun j j0 j1 => a cl j j0 j1, rfl⟩
      · have eo : tmO (((n : Int), sBegin sg n (lE L) k, sBegin sg n (lE L) k + 30 * sg 8 (7 * n + 2)) :: L) = tmO L := by
          conv => lhs; unfold tmO
          rw [if_neg cl]
        obtain ⟨b1, b2, b3, b4, b5⟩ := b cl
        rw [eo]
        exact ⟨b1, b2, by omega, b4, rfl⟩
    · rw [if_neg c, if_neg c]
      refine ⟨fun q j j0 j1 => ?_, fun q => ?_⟩
      · by_cases e : j = n
        · rw [e]; exact c
        · exact a q j j0 (by omega)
      · obtain ⟨b1, b2, b3, b4, b5⟩ := b q
        exact ⟨b1, b2, by omega, b4, b5⟩
def sFP (sg : Nat → Int → Int) (p k : Int) : Int := if (sTime sg p k).length = 0 then -3 else sg 8 (7 * tmO (sTime sg p k) + 5)
def sLP (sg : Nat → Int → Int) (p k : Int) : Int := if (sTime sg p k).length = 0 then -3 else sg 8 (7 * tmN (sTime sg p k) + 5)
theorem C_firstPassed (hC : OKC h) (R : RDs 1 sg rho h) (W : WD sg) {p k : Int} (hp : i32 p) (hk : 0 ≤ k ∧ k ≤ 9999) : m1_firstPassed 1 (iI p) (iI k) (cK rho h) = some (iI (sFP sg p k), cK rho h) := by
  have n5 := W.n5
  have n1 := W.n1
  obtain ⟨sa, sb⟩ := sTime_ends (sg := sg) p k (sg 1 5).toNat
  have key : ∀ (m n : Nat) (i : Int), 0 ≤ i → i + m = sg 1 5 → m < n → (∀ j, 0 ≤ j → j < i → ¬ tmP sg p k j) → m1_firstPassed_p2 n 1 (iI p) (iI k) (iI i) (cK rho h) = some (iI (sFP sg p k), cK rho h) := by
    intro m
    induction m with
    | zero =>
      intro n i hi him hn hno
      obtain ⟨n, rfl⟩ : ∃ q, n = q + 1 := ⟨n - 1, by omega⟩
      have e : (sTime sg p k).length = 0 := by
        rcases Nat.eq_zero_or_pos (sTime sg p k).length with q | q
        · exact q
        · obtain ⟨b1, b2, b3, _⟩ := sb (by unfold sTime at q; omega)
          exact absurd b1 (hno _ b2 (by omega))
      unfold sFP
      rw [m1_firstPassed_p2, if_pos e]
      simp (config := { maxSteps := 1000000 }) (disch := first | assumption | exact W.i _ _ | exact sLine_i W _ _ _ | exact W1.i _ _ | exact hg _ _ | exact W3.i _ _ | (refine ⟨?_, ?_⟩ <;> omega) | omega | (simp only [sW_1, sW_2, sW_3, sW_4, sW_5, sW_8] <;> first | assumption | omega | (refine ⟨?_, ?_⟩ <;> omega)) | (simp only [sT_1, sT_2, sT_3, sT_4, sT_5, sT_8] <;> first | assumption | omega | (refine ⟨?_, ?_⟩ <;> omega))) only [Int.reduceEq, Int.reduceLT, Int.reduceLE, Int.reduceNeg, Int.reduceAdd, Int.reduceSub, Int.reduceMul, if_true, if_false, not_true, not_false_eq_true, false_or, or_false, true_or, or_true, true_and, and_true, false_and, and_false, iI_on, iI_mul, iI_add, iI_sub, iI_neg, ap_if, mp_eq, mz_0, mz_1, mz_b, b2_0, b2_1, iI_lt, iI_le, iI_inj, mb_div, mb_rem, hC.m0, hC.m1, hC.m13, hC.m15, hC.m27, hC.m29, hC.m38, hC.m40, hC.g0_0, hC.g0_1, hC.g0_3, hC.g0_4, hC.g0_5, hC.g0_6, hC.g0_7, hC.g0_8, hC.g0_9, hC.g0_10, hC.g0_11, hC.g0_12, hC.g0_13, hC.g0_14, hC.g1_2, hC.g1_3, hC.g1_5, hC.g1_7, hC.g1_9, hC.g1_11, hC.g1_12, hC.g1_14, hC.g1_15, hC.g1_16, hC.g1_17, hC.g1_18, hC.g13_0, hC.g15_2, hC.g15_3, hC.g15_5, hC.g15_7, hC.g15_9, hC.g15_11, hC.g15_12, hC.g15_14, hC.g15_15, hC.g15_16, hC.g15_17, hC.g15_18, hC.g27_0, hC.g29_3, hC.g29_4, hC.g29_5, hC.g29_6, hC.g29_7, hC.g29_8, hC.g29_9, hC.g29_10, hC.g38_0, hC.g40_0, hC.s0_2, hC.s1_0, hC.s1_1, hC.s1_4, hC.s1_6, hC.s1_8, hC.s1_10, hC.s1_13, hC.s13_1, hC.s15_0, hC.s15_1, hC.s15_4, hC.s15_6, hC.s15_8, hC.s15_10, hC.s15_13, hC.s27_1, hC.s29_0, hC.s29_1, hC.s29_2, hC.s29_11, hC.s29_12, hC.s38_1, hC.s40_1, hC.s40_2, hC.l2, hC.l3, hC.l8, hC.l9, hC.l10, hC.l11, hC.l12, hC.l14, hC.l16, hC.l17, hC.l22, hC.l23, hC.l24, hC.l25, hC.l26, hC.l28, hC.l30, hC.l31, hC.l32, hC.l33, hC.l34, hC.l36, hC.l37, hC.l39, hC.l41, hC.l43, hC.l44, hC.l45, hC.l46, hC.l47, hC.l48, hC.l49, hC.l50, hC.l51, hC.l52, hC.l53, hC.l54, hC.l35, hC.n33, hC.n36, hC.dl R W, hC.fl R W, hC.ll R W, hC.tl R W, R.d1, R.d2, R.d3, R.d4, R.dn, R.da, R.f1, R.f2, R.f3, R.f4, R.fn, R.fa, R.t1, R.t2, R.t3, R.t4, R.t5, R.tn, R.ta, R.l0, R.l1, R.l2, R.l3, R.l7, R.ln, R.lv, R.r5, R.r6, R.r8, R.r13, R.r4, R.r10, R.r11, R.r12, R.r9, R.mt, R.ml, R.lg, R.lp, R.lr, R.lo W, R.ls W, R.1.1, R.1.2.1, R.1.2.2.1, R.1.2.2.2.1, R.1.2.2.2.2.1, R.1.2.2.2.2.2.1, R.1.2.2.2.2.2.2, R.born, R.good, R.unw, R.hp, R.hf, R.ht]
      rw [if_pos (by omega)]
    | succ m ih =>
      intro n i hi him hn hno
      obtain ⟨n, rfl⟩ : ∃ q, n = q + 1 := ⟨n - 1, by omega⟩
      have nt := W.te i hi (by omega)
      have nd := W.de _ nt.1 nt.2.1
      have i5 : ¬ sg 1 5 ≤ i := by omega
      rw [m1_firstPassed_p2]
      by_cases c : tmP sg p k i
      · have e : sFP sg p k = sg 8 (7 * i + 5) := by
          have hl : (sTime sg p k).length ≠ 0 := fun q => sa q i hi (by omega) c
          obtain ⟨b1, b2, b3, b4, _⟩ := sb hl
          have e2 : tmO (sTime sg p k) = i := by
            rcases Int.lt_trichotomy (tmO (sTime sg p k)) i with q | q | q
            · exact absurd b1 (hno _ b2 q)
            · exact q
            · exact absurd c (b4 i hi q)
          unfold sFP
          rw [if_neg hl, e2]
        rw [e]
        have est : b2 (sStands sg i k) = 1 := b2_t c.2
        simp (config := { maxSteps := 1000000 }) (disch := first | assumption | exact W.i _ _ | exact sLine_i W _ _ _ | exact W1.i _ _ | exact hg _ _ | exact W3.i _ _ | (refine ⟨?_, ?_⟩ <;> omega) | omega | (simp only [sW_1, sW_2, sW_3, sW_4, sW_5, sW_8] <;> first | assumption | omega | (refine ⟨?_, ?_⟩ <;> omega)) | (simp only [sT_1, sT_2, sT_3, sT_4, sT_5, sT_8] <;> first | assumption | omega | (refine ⟨?_, ?_⟩ <;> omega))) only [Int.reduceEq, Int.reduceLT, Int.reduceLE, Int.reduceNeg, Int.reduceAdd, Int.reduceSub, Int.reduceMul, if_true, if_false, not_true, not_false_eq_true, false_or, or_false, true_or, or_true, true_and, and_true, false_and, and_false, iI_on, iI_mul, iI_add, iI_sub, iI_neg, ap_if, mp_eq, mz_0, mz_1, mz_b, b2_0, b2_1, iI_lt, iI_le, iI_inj, mb_div, mb_rem, hC.m0, hC.m1, hC.m13, hC.m15, hC.m27, hC.m29, hC.m38, hC.m40, hC.g0_0, hC.g0_1, hC.g0_3, hC.g0_4, hC.g0_5, hC.g0_6, hC.g0_7, hC.g0_8, hC.g0_9, hC.g0_10, hC.g0_11, hC.g0_12, hC.g0_13, hC.g0_14, hC.g1_2, hC.g1_3, hC.g1_5, hC.g1_7, hC.g1_9, hC.g1_11, hC.g1_12, hC.g1_14, hC.g1_15, hC.g1_16, hC.g1_17, hC.g1_18, hC.g13_0, hC.g15_2, hC.g15_3, hC.g15_5, hC.g15_7, hC.g15_9, hC.g15_11, hC.g15_12, hC.g15_14, hC.g15_15, hC.g15_16, hC.g15_17, hC.g15_18, hC.g27_0, hC.g29_3, hC.g29_4, hC.g29_5, hC.g29_6, hC.g29_7, hC.g29_8, hC.g29_9, hC.g29_10, hC.g38_0, hC.g40_0, hC.s0_2, hC.s1_0, hC.s1_1, hC.s1_4, hC.s1_6, hC.s1_8, hC.s1_10, hC.s1_13, hC.s13_1, hC.s15_0, hC.s15_1, hC.s15_4, hC.s15_6, hC.s15_8, hC.s15_10, hC.s15_13, hC.s27_1, hC.s29_0, hC.s29_1, hC.s29_2, hC.s29_11, hC.s29_12, hC.s38_1, hC.s40_1, hC.s40_2, hC.l2, hC.l3, hC.l8, hC.l9, hC.l10, hC.l11, hC.l12, hC.l14, hC.l16, hC.l17, hC.l22, hC.l23, hC.l24, hC.l25, hC.l26, hC.l28, hC.l30, hC.l31, hC.l32, hC.l33, hC.l34, hC.l36, hC.l37, hC.l39, hC.l41, hC.l43, hC.l44, hC.l45, hC.l46, hC.l47, hC.l48, hC.l49, hC.l50, hC.l51, hC.l52, hC.l53, hC.l54, hC.l35, hC.n33, hC.n36, hC.dl R W, hC.fl R W, hC.ll R W, hC.tl R W, R.d1, R.d2, R.d3, R.d4, R.dn, R.da, R.f1, R.f2, R.f3, R.f4, R.fn, R.fa, R.t1, R.t2, R.t3, R.t4, R.t5, R.tn, R.ta, R.l0, R.l1, R.l2, R.l3, R.l7, R.ln, R.lv, R.r5, R.r6, R.r8, R.r13, R.r4, R.r10, R.r11, R.r12, R.r9, R.mt, R.ml, R.lg, R.lp, R.lr, R.lo W, R.ls W, R.1.1, R.1.2.1, R.1.2.2.1, R.1.2.2.2.1, R.1.2.2.2.2.1, R.1.2.2.2.2.2.1, R.1.2.2.2.2.2.2, R.born, R.good, R.unw, R.hp, R.hf, R.ht, i5, c.1, mb_eq (C_stands hC R W _ _ _), est]
      · have nx := ih n (i + 1) (by omega) (by omega) (by omega) (fun j h2 h3 => by
          by_cases ej : j = i
          · rw [ej]; exact c
          · exact hno j h2 (by omega))
        by_cases c1 : sg 3 (3 * sg 8 (7 * i)) = p
        · have est : b2 (sStands sg i k) = 0 := b2_f (fun q => c ⟨c1, q⟩)
          simp (config := { maxSteps := 1000000 }) (disch := first | assumption | exact W.i _ _ | exact sLine_i W _ _ _ | exact W1.i _ _ | exact hg _ _ | exact W3.i _ _ | (refine ⟨?_, ?_⟩ <;> omega) | omega | (simp only [sW_1, sW_2, sW_3, sW_4, sW_5, sW_8] <;> first | assumption | omega | (refine ⟨?_, ?_⟩ <;> omega)) | (simp only [sT_1, sT_2, sT_3, sT_4, sT_5, sT_8] <;> first | assumption | omega | (refine ⟨?_, ?_⟩ <;> omega))) only [Int.reduceEq, Int.reduceLT, Int.reduceLE, Int.reduceNeg, Int.reduceAdd, Int.reduceSub, Int.reduceMul, if_true, if_false, not_true, not_false_eq_true, false_or, or_false, true_or, or_true, true_and, and_true, false_and, and_false, iI_on, iI_mul, iI_add, iI_sub, iI_neg, ap_if, mp_eq, mz_0, mz_1, mz_b, b2_0, b2_1, iI_lt, iI_le, iI_inj, mb_div, mb_rem, hC.m0, hC.m1, hC.m13, hC.m15, hC.m27, hC.m29, hC.m38, hC.m40, hC.g0_0, hC.g0_1, hC.g0_3, hC.g0_4, hC.g0_5, hC.g0_6, hC.g0_7, hC.g0_8, hC.g0_9, hC.g0_10, hC.g0_11, hC.g0_12, hC.g0_13, hC.g0_14, hC.g1_2, hC.g1_3, hC.g1_5, hC.g1_7, hC.g1_9, hC.g1_11, hC.g1_12, hC.g1_14, hC.g1_15, hC.g1_16, hC.g1_17, hC.g1_18, hC.g13_0, hC.g15_2, hC.g15_3, hC.g15_5, hC.g15_7, hC.g15_9, hC.g15_11, hC.g15_12, hC.g15_14, hC.g15_15, hC.g15_16, hC.g15_17, hC.g15_18, hC.g27_0, hC.g29_3, hC.g29_4, hC.g29_5, hC.g29_6, hC.g29_7, hC.g29_8, hC.g29_9, hC.g29_10, hC.g38_0, hC.g40_0, hC.s0_2, hC.s1_0, hC.s1_1, hC.s1_4, hC.s1_6, hC.s1_8, hC.s1_10, hC.s1_13, hC.s13_1, hC.s15_0, hC.s15_1, hC.s15_4, hC.s15_6, hC.s15_8, hC.s15_10, hC.s15_13, hC.s27_1, hC.s29_0, hC.s29_1, hC.s29_2, hC.s29_11, hC.s29_12, hC.s38_1, hC.s40_1, hC.s40_2, hC.l2, hC.l3, hC.l8, hC.l9, hC.l10, hC.l11, hC.l12, hC.l14, hC.l16, hC.l17, hC.l22, hC.l23, hC.l24, hC.l25, hC.l26, hC.l28, hC.l30, hC.l31, hC.l32, hC.l33, hC.l34, hC.l36, hC.l37, hC.l39, hC.l41, hC.l43, hC.l44, hC.l45, hC.l46, hC.l47, hC.l48, hC.l49, hC.l50, hC.l51, hC.l52, hC.l53, hC.l54, hC.l35, hC.n33, hC.n36, hC.dl R W, hC.fl R W, hC.ll R W, hC.tl R W, R.d1, R.d2, R.d3, R.d4, R.dn, R.da, R.f1, R.f2, R.f3, R.f4, R.fn, R.fa, R.t1, R.t2, R.t3, R.t4, R.t5, R.tn, R.ta, R.l0, R.l1, R.l2, R.l3, R.l7, R.ln, R.lv, R.r5, R.r6, R.r8, R.r13, R.r4, R.r10, R.r11, R.r12, R.r9, R.mt, R.ml, R.lg, R.lp, R.lr, R.lo W, R.ls W, R.1.1, R.1.2.1, R.1.2.2.1, R.1.2.2.2.1, R.1.2.2.2.2.1, R.1.2.2.2.2.2.1, R.1.2.2.2.2.2.2, R.born, R.good, R.unw, R.hp, R.hf, R.ht, i5, c1, mb_eq (C_stands hC R W _ _ _), est, m1_firstPassed_p45, nx]
        · simp (config := { maxSteps := 1000000 }) (disch := first | assumption | exact W.i _ _ | exact sLine_i W _ _ _ | exact W1.i _ _ | exact hg _ _ | exact W3.i _ _ | (refine ⟨?_, ?_⟩ <;> omega) | omega | (simp only [sW_1, sW_2, sW_3, sW_4, sW_5, sW_8] <;> first | assumption | omega | (refine ⟨?_, ?_⟩ <;> omega)) | (simp only [sT_1, sT_2, sT_3, sT_4, sT_5, sT_8] <;> first | assumption | omega | (refine ⟨?_, ?_⟩ <;> omega))) only [Int.reduceEq, Int.reduceLT, Int.reduceLE, Int.reduceNeg, Int.reduceAdd, Int.reduceSub, Int.reduceMul, if_true, if_false, not_true, not_false_eq_true, false_or, or_false, true_or, or_true, true_and, and_true, false_and, and_false, iI_on, iI_mul, iI_add, iI_sub, iI_neg, ap_if, mp_eq, mz_0, mz_1, mz_b, b2_0, b2_1, iI_lt, iI_le, iI_inj, mb_div, mb_rem, hC.m0, hC.m1, hC.m13, hC.m15, hC.m27, hC.m29, hC.m38, hC.m40, hC.g0_0, hC.g0_1, hC.g0_3, hC.g0_4, hC.g0_5, hC.g0_6, hC.g0_7, hC.g0_8, hC.g0_9, hC.g0_10, hC.g0_11, hC.g0_12, hC.g0_13, hC.g0_14, hC.g1_2, hC.g1_3, hC.g1_5, hC.g1_7, hC.g1_9, hC.g1_11, hC.g1_12, hC.g1_14, hC.g1_15, hC.g1_16, hC.g1_17, hC.g1_18, hC.g13_0, hC.g15_2, hC.g15_3, hC.g15_5, hC.g15_7, hC.g15_9, hC.g15_11, hC.g15_12, hC.g15_14, hC.g15_15, hC.g15_16, hC.g15_17, hC.g15_18, hC.g27_0, hC.g29_3, hC.g29_4, hC.g29_5, hC.g29_6, hC.g29_7, hC.g29_8, hC.g29_9, hC.g29_10, hC.g38_0, hC.g40_0, hC.s0_2, hC.s1_0, hC.s1_1, hC.s1_4, hC.s1_6, hC.s1_8, hC.s1_10, hC.s1_13, hC.s13_1, hC.s15_0, hC.s15_1, hC.s15_4, hC.s15_6, hC.s15_8, hC.s15_10, hC.s15_13, hC.s27_1, hC.s29_0, hC.s29_1, hC.s29_2, hC.s29_11, hC.s29_12, hC.s38_1, hC.s40_1, hC.s40_2, hC.l2, hC.l3, hC.l8, hC.l9, hC.l10, hC.l11, hC.l12, hC.l14, hC.l16, hC.l17, hC.l22, hC.l23, hC.l24, hC.l25, hC.l26, hC.l28, hC.l30, hC.l31, hC.l32, hC.l33, hC.l34, hC.l36, hC.l37, hC.l39, hC.l41, hC.l43, hC.l44, hC.l45, hC.l46, hC.l47, hC.l48, hC.l49, hC.l50, hC.l51, hC.l52, hC.l53, hC.l54, hC.l35, hC.n33, hC.n36, hC.dl R W, hC.fl R W, hC.ll R W, hC.tl R W, R.d1, R.d2, R.d3, R.d4, R.dn, R.da, R.f1, R.f2, R.f3, R.f4, R.fn, R.fa, R.t1, R.t2, R.t3, R.t4, R.t5, R.tn, R.ta, R.l0, R.l1, R.l2, R.l3, R.l7, R.ln, R.lv, R.r5, R.r6, R.r8, R.r13, R.r4, R.r10, R.r11, R.r12, R.r9, R.mt, R.ml, R.lg, R.lp, R.lr, R.lo W, R.ls W, R.1.1, R.1.2.1, R.1.2.2.1, R.1.2.2.2.1, R.1.2.2.2.2.1, R.1.2.2.2.2.2.1, R.1.2.2.2.2.2.2, R.born, R.good, R.unw, R.hp, R.hf, R.ht, i5, c1, m1_firstPassed_p45, nx]
  unfold m1_firstPassed
  simp (config := { maxSteps := 1000000 }) (disch := first | assumption | exact W.i _ _ | exact sLine_i W _ _ _ | exact W1.i _ _ | exact hg _ _ | exact W3.i _ _ | (refine ⟨?_, ?_⟩ <;> omega) | omega | (simp only [sW_1, sW_2, sW_3, sW_4, sW_5, sW_8] <;> first | assumption | omega | (refine ⟨?_, ?_⟩ <;> omega)) | (simp only [sT_1, sT_2, sT_3, sT_4, sT_5, sT_8] <;> first | assumption | omega | (refine ⟨?_, ?_⟩ <;> omega))) only [Int.reduceEq, Int.reduceLT, Int.reduceLE, Int.reduceNeg, Int.reduceAdd, Int.reduceSub, Int.reduceMul, if_true, if_false, not_true, not_false_eq_true, false_or, or_false, true_or, or_true, true_and, and_true, false_and, and_false, iI_on, iI_mul, iI_add, iI_sub, iI_neg, ap_if, mp_eq, mz_0, mz_1, mz_b, b2_0, b2_1, iI_lt, iI_le, iI_inj, mb_div, mb_rem]
  exact key (sg 1 5).toNat FU 0 (by omega) (by omega) (FU_lt (by omega)) (fun j h2 h3 => by omega)
theorem C_lastPassed (hC : OKC h) (R : RDs 1 sg rho h) (W : WD sg) {p k : Int} (hp : i32 p) (hk : 0 ≤ k ∧ k ≤ 9999) : m1_lastPassed 1 (iI p) (iI k) (cK rho h) = some (iI (sLP sg p k), cK rho h) := by
  have n5 := W.n5
  have n1 := W.n1
  obtain ⟨sa, sb⟩ := sTime_ends (sg := sg) p k (sg 1 5).toNat
  have key : ∀ (m n : Nat), (m : Int) ≤ sg 1 5 → m < n → (∀ j, (m : Int) ≤ j → j < sg 1 5 → ¬ tmP sg p k j) → m1_lastPassed_p7 n 1 (iI p) (iI k) (iI ((m : Int) - 1)) (cK rho h) = some (iI (sLP sg p k), cK rho h) := by
    intro m
    induction m with
    | zero =>
      intro n hm hn hno
      obtain ⟨n, rfl⟩ : ∃ q, n = q + 1 := ⟨n - 1, by omega⟩
      have e : (sTime sg p k).length = 0 := by
        rcases Nat.eq_zero_or_pos (sTime sg p k).length with q | q
        · exact q
        · obtain ⟨b1, b2, b3, _⟩ := sb (by unfold sTime at q; omega)
          exact absurd b1 (hno _ (by omega) (by omega))
      unfold sLP
      rw [m1_lastPassed_p7, if_pos e]
      simp (config := { maxSteps := 1000000 }) (disch := first | assumption | exact W.i _ _ | exact sLine_i W _ _ _ | exact W1.i _ _ | exact hg _ _ | exact W3.i _ _ | (refine ⟨?_, ?_⟩ <;> omega) | omega | (simp only [sW_1, sW_2, sW_3, sW_4, sW_5, sW_8] <;> first | assumption | omega | (refine ⟨?_, ?_⟩ <;> omega)) | (simp only [sT_1, sT_2, sT_3, sT_4, sT_5, sT_8] <;> first | assumption | omega | (refine ⟨?_, ?_⟩ <;> omega))) only [Int.reduceEq, Int.reduceLT, Int.reduceLE, Int.reduceNeg, Int.reduceAdd, Int.reduceSub, Int.reduceMul, if_true, if_false, not_true, not_false_eq_true, false_or, or_false, true_or, or_true, true_and, and_true, false_and, and_false, iI_on, iI_mul, iI_add, iI_sub, iI_neg, ap_if, mp_eq, mz_0, mz_1, mz_b, b2_0, b2_1, iI_lt, iI_le, iI_inj, mb_div, mb_rem, hC.m0, hC.m1, hC.m13, hC.m15, hC.m27, hC.m29, hC.m38, hC.m40, hC.g0_0, hC.g0_1, hC.g0_3, hC.g0_4, hC.g0_5, hC.g0_6, hC.g0_7, hC.g0_8, hC.g0_9, hC.g0_10, hC.g0_11, hC.g0_12, hC.g0_13, hC.g0_14, hC.g1_2, hC.g1_3, hC.g1_5, hC.g1_7, hC.g1_9, hC.g1_11, hC.g1_12, hC.g1_14, hC.g1_15, hC.g1_16, hC.g1_17, hC.g1_18, hC.g13_0, hC.g15_2, hC.g15_3, hC.g15_5, hC.g15_7, hC.g15_9, hC.g15_11, hC.g15_12, hC.g15_14, hC.g15_15, hC.g15_16, hC.g15_17, hC.g15_18, hC.g27_0, hC.g29_3, hC.g29_4, hC.g29_5, hC.g29_6, hC.g29_7, hC.g29_8, hC.g29_9, hC.g29_10, hC.g38_0, hC.g40_0, hC.s0_2, hC.s1_0, hC.s1_1, hC.s1_4, hC.s1_6, hC.s1_8, hC.s1_10, hC.s1_13, hC.s13_1, hC.s15_0, hC.s15_1, hC.s15_4, hC.s15_6, hC.s15_8, hC.s15_10, hC.s15_13, hC.s27_1, hC.s29_0, hC.s29_1, hC.s29_2, hC.s29_11, hC.s29_12, hC.s38_1, hC.s40_1, hC.s40_2, hC.l2, hC.l3, hC.l8, hC.l9, hC.l10, hC.l11, hC.l12, hC.l14, hC.l16, hC.l17, hC.l22, hC.l23, hC.l24, hC.l25, hC.l26, hC.l28, hC.l30, hC.l31, hC.l32, hC.l33, hC.l34, hC.l36, hC.l37, hC.l39, hC.l41, hC.l43, hC.l44, hC.l45, hC.l46, hC.l47, hC.l48, hC.l49, hC.l50, hC.l51, hC.l52, hC.l53, hC.l54, hC.l35, hC.n33, hC.n36, hC.dl R W, hC.fl R W, hC.ll R W, hC.tl R W, R.d1, R.d2, R.d3, R.d4, R.dn, R.da, R.f1, R.f2, R.f3, R.f4, R.fn, R.fa, R.t1, R.t2, R.t3, R.t4, R.t5, R.tn, R.ta, R.l0, R.l1, R.l2, R.l3, R.l7, R.ln, R.lv, R.r5, R.r6, R.r8, R.r13, R.r4, R.r10, R.r11, R.r12, R.r9, R.mt, R.ml, R.lg, R.lp, R.lr, R.lo W, R.ls W, R.1.1, R.1.2.1, R.1.2.2.1, R.1.2.2.2.1, R.1.2.2.2.2.1, R.1.2.2.2.2.2.1, R.1.2.2.2.2.2.2, R.born, R.good, R.unw, R.hp, R.hf, R.ht]
      rw [if_pos (by omega)]
    | succ m ih =>
      intro n hm hn hno
      obtain ⟨n, rfl⟩ : ∃ q, n = q + 1 := ⟨n - 1, by omega⟩
      have nt := W.te m (by omega) (by omega)
      have nd := W.de _ nt.1 nt.2.1
      have e1 : ((m + 1 : Nat) : Int) - 1 = m := by omega
      have e2 : (m : Int) + -1 = m - 1 := by omega
      rw [m1_lastPassed_p7, e1]
      by_cases c : tmP sg p k m
      · have e : sLP sg p k = sg 8 (7 * (m : Int) + 5) := by
          have hl : (sTime sg p k).length ≠ 0 := fun q => sa q m (by omega) (by omega) c
          obtain ⟨b1, b2, b3, b4, b5⟩ := sb hl
          have e2 : tmN (sTime sg p k) = m := b5.trans (lst_is _ (by omega) (by omega) (fun _ => c) (fun j j0 j1 j2 => hno j (by omega) (by omega)))
          unfold sLP
          rw [if_neg hl, e2]
        rw [e]
        have est : b2 (sStands sg m k) = 1 := b2_t c.2
        simp (config := { maxSteps := 1000000 }) (disch := first | assumption | exact W.i _ _ | exact sLine_i W _ _ _ | exact W1.i _ _ | exact hg _ _ | exact W3.i _ _ | (refine ⟨?_, ?_⟩ <;> omega) | omega | (simp only [sW_1, sW_2, sW_3, sW_4, sW_5, sW_8] <;> first | assumption | omega | (refine ⟨?_, ?_⟩ <;> omega)) | (simp only [sT_1, sT_2, sT_3, sT_4, sT_5, sT_8] <;> first | assumption | omega | (refine ⟨?_, ?_⟩ <;> omega))) only [Int.reduceEq, Int.reduceLT, Int.reduceLE, Int.reduceNeg, Int.reduceAdd, Int.reduceSub, Int.reduceMul, if_true, if_false, not_true, not_false_eq_true, false_or, or_false, true_or, or_true, true_and, and_true, false_and, and_false, iI_on, iI_mul, iI_add, iI_sub, iI_neg, ap_if, mp_eq, mz_0, mz_1, mz_b, b2_0, b2_1, iI_lt, iI_le, iI_inj, mb_div, mb_rem, hC.m0, hC.m1, hC.m13, hC.m15, hC.m27, hC.m29, hC.m38, hC.m40, hC.g0_0, hC.g0_1, hC.g0_3, hC.g0_4, hC.g0_5, hC.g0_6, hC.g0_7, hC.g0_8, hC.g0_9, hC.g0_10, hC.g0_11, hC.g0_12, hC.g0_13, hC.g0_14, hC.g1_2, hC.g1_3, hC.g1_5, hC.g1_7, hC.g1_9, hC.g1_11, hC.g1_12, hC.g1_14, hC.g1_15, hC.g1_16, hC.g1_17, hC.g1_18, hC.g13_0, hC.g15_2, hC.g15_3, hC.g15_5, hC.g15_7, hC.g15_9, hC.g15_11, hC.g15_12, hC.g15_14, hC.g15_15, hC.g15_16, hC.g15_17, hC.g15_18, hC.g27_0, hC.g29_3, hC.g29_4, hC.g29_5, hC.g29_6, hC.g29_7, hC.g29_8, hC.g29_9, hC.g29_10, hC.g38_0, hC.g40_0, hC.s0_2, hC.s1_0, hC.s1_1, hC.s1_4, hC.s1_6, hC.s1_8, hC.s1_10, hC.s1_13, hC.s13_1, hC.s15_0, hC.s15_1, hC.s15_4, hC.s15_6, hC.s15_8, hC.s15_10, hC.s15_13, hC.s27_1, hC.s29_0, hC.s29_1, hC.s29_2, hC.s29_11, hC.s29_12, hC.s38_1, hC.s40_1, hC.s40_2, hC.l2, hC.l3, hC.l8, hC.l9, hC.l10, hC.l11, hC.l12, hC.l14, hC.l16, hC.l17, hC.l22, hC.l23, hC.l24, hC.l25, hC.l26, hC.l28, hC.l30, hC.l31, hC.l32, hC.l33, hC.l34, hC.l36, hC.l37, hC.l39, hC.l41, hC.l43, hC.l44, hC.l45, hC.l46, hC.l47, hC.l48, hC.l49, hC.l50, hC.l51, hC.l52, hC.l53, hC.l54, hC.l35, hC.n33, hC.n36, hC.dl R W, hC.fl R W, hC.ll R W, hC.tl R W, R.d1, R.d2, R.d3, R.d4, R.dn, R.da, R.f1, R.f2, R.f3, R.f4, R.fn, R.fa, R.t1, R.t2, R.t3, R.t4, R.t5, R.tn, R.ta, R.l0, R.l1, R.l2, R.l3, R.l7, R.ln, R.lv, R.r5, R.r6, R.r8, R.r13, R.r4, R.r10, R.r11, R.r12, R.r9, R.mt, R.ml, R.lg, R.lp, R.lr, R.lo W, R.ls W, R.1.1, R.1.2.1, R.1.2.2.1, R.1.2.2.2.1, R.1.2.2.2.2.1, R.1.2.2.2.2.2.1, R.1.2.2.2.2.2.2, R.born, R.good, R.unw, R.hp, R.hf, R.ht, show ¬ (m : Int) < 0 by omega, c.1, mb_eq (C_stands hC R W _ _ _), est]
      · have nx := ih n (by omega) (by omega) (fun j h2 h3 => by
          by_cases ej : j = m
          · rw [ej]; exact c
          · exact hno j (by omega) h3)
        by_cases c1 : sg 3 (3 * sg 8 (7 * (m : Int))) = p
        · have est : b2 (sStands sg m k) = 0 := b2_f (fun q => c ⟨c1, q⟩)
          simp (config := { maxSteps := 1000000 }) (disch := first | assumption | exact W.i _ _ | exact sLine_i W _ _ _ | exact W1.i _ _ | exact hg _ _ | exact W3.i _ _ | (refine ⟨?_, ?_⟩ <;> omega) | omega | (simp only [sW_1, sW_2, sW_3, sW_4, sW_5, sW_8] <;> first | assumption | omega | (refine ⟨?_, ?_⟩ <;> omega)) | (simp only [sT_1, sT_2, sT_3, sT_4, sT_5, sT_8] <;> first | assumption | omega | (refine ⟨?_, ?_⟩ <;> omega))) only [Int.reduceEq, Int.reduceLT, Int.reduceLE, Int.reduceNeg, Int.reduceAdd, Int.reduceSub, Int.reduceMul, if_true, if_false, not_true, not_false_eq_true, false_or, or_false, true_or, or_true, true_and, and_true, false_and, and_false, iI_on, iI_mul, iI_add, iI_sub, iI_neg, ap_if, mp_eq, mz_0, mz_1, mz_b, b2_0, b2_1, iI_lt, iI_le, iI_inj, mb_div, mb_rem, hC.m0, hC.m1, hC.m13, hC.m15, hC.m27, hC.m29, hC.m38, hC.m40, hC.g0_0, hC.g0_1, hC.g0_3, hC.g0_4, hC.g0_5, hC.g0_6, hC.g0_7, hC.g0_8, hC.g0_9, hC.g0_10, hC.g0_11, hC.g0_12, hC.g0_13, hC.g0_14, hC.g1_2, hC.g1_3, hC.g1_5, hC.g1_7, hC.g1_9, hC.g1_11, hC.g1_12, hC.g1_14, hC.g1_15, hC.g1_16, hC.g1_17, hC.g1_18, hC.g13_0, hC.g15_2, hC.g15_3, hC.g15_5, hC.g15_7, hC.g15_9, hC.g15_11, hC.g15_12, hC.g15_14, hC.g15_15, hC.g15_16, hC.g15_17, hC.g15_18, hC.g27_0, hC.g29_3, hC.g29_4, hC.g29_5, hC.g29_6, hC.g29_7, hC.g29_8, hC.g29_9, hC.g29_10, hC.g38_0, hC.g40_0, hC.s0_2, hC.s1_0, hC.s1_1, hC.s1_4, hC.s1_6, hC.s1_8, hC.s1_10, hC.s1_13, hC.s13_1, hC.s15_0, hC.s15_1, hC.s15_4, hC.s15_6, hC.s15_8, hC.s15_10, hC.s15_13, hC.s27_1, hC.s29_0, hC.s29_1, hC.s29_2, hC.s29_11, hC.s29_12, hC.s38_1, hC.s40_1, hC.s40_2, hC.l2, hC.l3, hC.l8, hC.l9, hC.l10, hC.l11, hC.l12, hC.l14, hC.l16, hC.l17, hC.l22, hC.l23, hC.l24, hC.l25, hC.l26, hC.l28, hC.l30, hC.l31, hC.l32, hC.l33, hC.l34, hC.l36, hC.l37, hC.l39, hC.l41, hC.l43, hC.l44, hC.l45, hC.l46, hC.l47, hC.l48, hC.l49, hC.l50, hC.l51, hC.l52, hC.l53, hC.l54, hC.l35, hC.n33, hC.n36, hC.dl R W, hC.fl R W, hC.ll R W, hC.tl R W, R.d1, R.d2, R.d3, R.d4, R.dn, R.da, R.f1, R.f2, R.f3, R.f4, R.fn, R.fa, R.t1, R.t2, R.t3, R.t4, R.t5, R.tn, R.ta, R.l0, R.l1, R.l2, R.l3, R.l7, R.ln, R.lv, R.r5, R.r6, R.r8, R.r13, R.r4, R.r10, R.r11, R.r12, R.r9, R.mt, R.ml, R.lg, R.lp, R.lr, R.lo W, R.ls W, R.1.1, R.1.2.1, R.1.2.2.1, R.1.2.2.2.1, R.1.2.2.2.2.1, R.1.2.2.2.2.2.1, R.1.2.2.2.2.2.2, R.born, R.good, R.unw, R.hp, R.hf, R.ht, show ¬ (m : Int) < 0 by omega, c1, mb_eq (C_stands hC R W _ _ _), est, m1_lastPassed_p46, e2, nx]
        · simp (config := { maxSteps := 1000000 }) (disch := first | assumption | exact W.i _ _ | exact sLine_i W _ _ _ | exact W1.i _ _ | exact hg _ _ | exact W3.i _ _ | (refine ⟨?_, ?_⟩ <;> omega) | omega | (simp only [sW_1, sW_2, sW_3, sW_4, sW_5, sW_8] <;> first | assumption | omega | (refine ⟨?_, ?_⟩ <;> omega)) | (simp only [sT_1, sT_2, sT_3, sT_4, sT_5, sT_8] <;> first | assumption | omega | (refine ⟨?_, ?_⟩ <;> omega))) only [Int.reduceEq, Int.reduceLT, Int.reduceLE, Int.reduceNeg, Int.reduceAdd, Int.reduceSub, Int.reduceMul, if_true, if_false, not_true, not_false_eq_true, false_or, or_false, true_or, or_true, true_and, and_true, false_and, and_false, iI_on, iI_mul, iI_add, iI_sub, iI_neg, ap_if, mp_eq, mz_0, mz_1, mz_b, b2_0, b2_1, iI_lt, iI_le, iI_inj, mb_div, mb_rem, hC.m0, hC.m1, hC.m13, hC.m15, hC.m27, hC.m29, hC.m38, hC.m40, hC.g0_0, hC.g0_1, hC.g0_3, hC.g0_4, hC.g0_5, hC.g0_6, hC.g0_7, hC.g0_8, hC.g0_9, hC.g0_10, hC.g0_11, hC.g0_12, hC.g0_13, hC.g0_14, hC.g1_2, hC.g1_3, hC.g1_5, hC.g1_7, hC.g1_9, hC.g1_11, hC.g1_12, hC.g1_14, hC.g1_15, hC.g1_16, hC.g1_17, hC.g1_18, hC.g13_0, hC.g15_2, hC.g15_3, hC.g15_5, hC.g15_7, hC.g15_9, hC.g15_11, hC.g15_12, hC.g15_14, hC.g15_15, hC.g15_16, hC.g15_17, hC.g15_18, hC.g27_0, hC.g29_3, hC.g29_4, hC.g29_5, hC.g29_6, hC.g29_7, hC.g29_8, hC.g29_9, hC.g29_10, hC.g38_0, hC.g40_0, hC.s0_2, hC.s1_0, hC.s1_1, hC.s1_4, hC.s1_6, hC.s1_8, hC.s1_10, hC.s1_13, hC.s13_1, hC.s15_0, hC.s15_1, hC.s15_4, hC.s15_6, hC.s15_8, hC.s15_10, hC.s15_13, hC.s27_1, hC.s29_0, hC.s29_1, hC.s29_2, hC.s29_11, hC.s29_12, hC.s38_1, hC.s40_1, hC.s40_2, hC.l2, hC.l3, hC.l8, hC.l9, hC.l10, hC.l11, hC.l12, hC.l14, hC.l16, hC.l17, hC.l22, hC.l23, hC.l24, hC.l25, hC.l26, hC.l28, hC.l30, hC.l31, hC.l32, hC.l33, hC.l34, hC.l36, hC.l37, hC.l39, hC.l41, hC.l43, hC.l44, hC.l45, hC.l46, hC.l47, hC.l48, hC.l49, hC.l50, hC.l51, hC.l52, hC.l53, hC.l54, hC.l35, hC.n33, hC.n36, hC.dl R W, hC.fl R W, hC.ll R W, hC.tl R W, R.d1, R.d2, R.d3, R.d4, R.dn, R.da, R.f1, R.f2, R.f3, R.f4, R.fn, R.fa, R.t1, R.t2, R.t3, R.t4, R.t5, R.tn, R.ta, R.l0, R.l1, R.l2, R.l3, R.l7, R.ln, R.lv, R.r5, R.r6, R.r8, R.r13, R.r4, R.r10, R.r11, R.r12, R.r9, R.mt, R.ml, R.lg, R.lp, R.lr, R.lo W, R.ls W, R.1.1, R.1.2.1, R.1.2.2.1, R.1.2.2.2.1, R.1.2.2.2.2.1, R.1.2.2.2.2.2.1, R.1.2.2.2.2.2.2, R.born, R.good, R.unw, R.hp, R.hf, R.ht, show ¬ (m : Int) < 0 by omega, c1, m1_lastPassed_p46, e2, nx]
  have e : ((sg 1 5).toNat : Int) = sg 1 5 := by omega
  have := key (sg 1 5).toNat FU (by omega) (FU_lt (by omega)) (fun j h2 h3 => by omega)
  rw [e] at this
  unfold m1_lastPassed
  simp (config := { maxSteps := 1000000 }) (disch := first | assumption | exact W.i _ _ | exact sLine_i W _ _ _ | exact W1.i _ _ | exact hg _ _ | exact W3.i _ _ | (refine ⟨?_, ?_⟩ <;> omega) | omega | (simp only [sW_1, sW_2, sW_3, sW_4, sW_5, sW_8] <;> first | assumption | omega | (refine ⟨?_, ?_⟩ <;> omega)) | (simp only [sT_1, sT_2, sT_3, sT_4, sT_5, sT_8] <;> first | assumption | omega | (refine ⟨?_, ?_⟩ <;> omega))) only [Int.reduceEq, Int.reduceLT, Int.reduceLE, Int.reduceNeg, Int.reduceAdd, Int.reduceSub, Int.reduceMul, if_true, if_false, not_true, not_false_eq_true, false_or, or_false, true_or, or_true, true_and, and_true, false_and, and_false, iI_on, iI_mul, iI_add, iI_sub, iI_neg, ap_if, mp_eq, mz_0, mz_1, mz_b, b2_0, b2_1, iI_lt, iI_le, iI_inj, mb_div, mb_rem, hC.m0, hC.m1, hC.m13, hC.m15, hC.m27, hC.m29, hC.m38, hC.m40, hC.g0_0, hC.g0_1, hC.g0_3, hC.g0_4, hC.g0_5, hC.g0_6, hC.g0_7, hC.g0_8, hC.g0_9, hC.g0_10, hC.g0_11, hC.g0_12, hC.g0_13, hC.g0_14, hC.g1_2, hC.g1_3, hC.g1_5, hC.g1_7, hC.g1_9, hC.g1_11, hC.g1_12, hC.g1_14, hC.g1_15, hC.g1_16, hC.g1_17, hC.g1_18, hC.g13_0, hC.g15_2, hC.g15_3, hC.g15_5, hC.g15_7, hC.g15_9, hC.g15_11, hC.g15_12, hC.g15_14, hC.g15_15, hC.g15_16, hC.g15_17, hC.g15_18, hC.g27_0, hC.g29_3, hC.g29_4, hC.g29_5, hC.g29_6, hC.g29_7, hC.g29_8, hC.g29_9, hC.g29_10, hC.g38_0, hC.g40_0, hC.s0_2, hC.s1_0, hC.s1_1, hC.s1_4, hC.s1_6, hC.s1_8, hC.s1_10, hC.s1_13, hC.s13_1, hC.s15_0, hC.s15_1, hC.s15_4, hC.s15_6, hC.s15_8, hC.s15_10, hC.s15_13, hC.s27_1, hC.s29_0, hC.s29_1, hC.s29_2, hC.s29_11, hC.s29_12, hC.s38_1, hC.s40_1, hC.s40_2, hC.l2, hC.l3, hC.l8, hC.l9, hC.l10, hC.l11, hC.l12, hC.l14, hC.l16, hC.l17, hC.l22, hC.l23, hC.l24, hC.l25, hC.l26, hC.l28, hC.l30, hC.l31, hC.l32, hC.l33, hC.l34, hC.l36, hC.l37, hC.l39, hC.l41, hC.l43, hC.l44, hC.l45, hC.l46, hC.l47, hC.l48, hC.l49, hC.l50, hC.l51, hC.l52, hC.l53, hC.l54, hC.l35, hC.n33, hC.n36, hC.dl R W, hC.fl R W, hC.ll R W, hC.tl R W, R.d1, R.d2, R.d3, R.d4, R.dn, R.da, R.f1, R.f2, R.f3, R.f4, R.fn, R.fa, R.t1, R.t2, R.t3, R.t4, R.t5, R.tn, R.ta, R.l0, R.l1, R.l2, R.l3, R.l7, R.ln, R.lv, R.r5, R.r6, R.r8, R.r13, R.r4, R.r10, R.r11, R.r12, R.r9, R.mt, R.ml, R.lg, R.lp, R.lr, R.lo W, R.ls W, R.1.1, R.1.2.1, R.1.2.2.1, R.1.2.2.2.1, R.1.2.2.2.2.1, R.1.2.2.2.2.2.1, R.1.2.2.2.2.2.2, R.born, R.good, R.unw, R.hp, R.hf, R.ht]
  exact this
theorem C_creditOf (hC : OKC h) (R : RDs 1 sg rho h) (W : WD sg) {p k : Int} (hp : i32 p) (hk : 0 ≤ k ∧ k ≤ 9999) : m1_creditOf 1 (iI p) (iI k) (cK rho h) = some (iI (sCr sg p (sTime sg p k)), cK rho h) := by
  have hb := sTime_b W p k
  have n0 := W.n0
  unfold m1_creditOf sCr
  by_cases c : (sTime sg p k).length = 0
  · have e : sFP sg p k = -3 := by unfold sFP; rw [if_pos c]
    rw [if_pos c]
    simp (config := { maxSteps := 1000000 }) (disch := first | assumption | exact W.i _ _ | exact sLine_i W _ _ _ | exact W1.i _ _ | exact hg _ _ | exact W3.i _ _ | (refine ⟨?_, ?_⟩ <;> omega) | omega | (simp only [sW_1, sW_2, sW_3, sW_4, sW_5, sW_8] <;> first | assumption | omega | (refine ⟨?_, ?_⟩ <;> omega)) | (simp only [sT_1, sT_2, sT_3, sT_4, sT_5, sT_8] <;> first | assumption | omega | (refine ⟨?_, ?_⟩ <;> omega))) only [Int.reduceEq, Int.reduceLT, Int.reduceLE, Int.reduceNeg, Int.reduceAdd, Int.reduceSub, Int.reduceMul, if_true, if_false, not_true, not_false_eq_true, false_or, or_false, true_or, or_true, true_and, and_true, false_and, and_false, iI_on, iI_mul, iI_add, iI_sub, iI_neg, ap_if, mp_eq, mz_0, mz_1, mz_b, b2_0, b2_1, iI_lt, iI_le, iI_inj, mb_div, mb_rem, hC.m0, hC.m1, hC.m13, hC.m15, hC.m27, hC.m29, hC.m38, hC.m40, hC.g0_0, hC.g0_1, hC.g0_3, hC.g0_4, hC.g0_5, hC.g0_6, hC.g0_7, hC.g0_8, hC.g0_9, hC.g0_10, hC.g0_11, hC.g0_12, hC.g0_13, hC.g0_14, hC.g1_2, hC.g1_3, hC.g1_5, hC.g1_7, hC.g1_9, hC.g1_11, hC.g1_12, hC.g1_14, hC.g1_15, hC.g1_16, hC.g1_17, hC.g1_18, hC.g13_0, hC.g15_2, hC.g15_3, hC.g15_5, hC.g15_7, hC.g15_9, hC.g15_11, hC.g15_12, hC.g15_14, hC.g15_15, hC.g15_16, hC.g15_17, hC.g15_18, hC.g27_0, hC.g29_3, hC.g29_4, hC.g29_5, hC.g29_6, hC.g29_7, hC.g29_8, hC.g29_9, hC.g29_10, hC.g38_0, hC.g40_0, hC.s0_2, hC.s1_0, hC.s1_1, hC.s1_4, hC.s1_6, hC.s1_8, hC.s1_10, hC.s1_13, hC.s13_1, hC.s15_0, hC.s15_1, hC.s15_4, hC.s15_6, hC.s15_8, hC.s15_10, hC.s15_13, hC.s27_1, hC.s29_0, hC.s29_1, hC.s29_2, hC.s29_11, hC.s29_12, hC.s38_1, hC.s40_1, hC.s40_2, hC.l2, hC.l3, hC.l8, hC.l9, hC.l10, hC.l11, hC.l12, hC.l14, hC.l16, hC.l17, hC.l22, hC.l23, hC.l24, hC.l25, hC.l26, hC.l28, hC.l30, hC.l31, hC.l32, hC.l33, hC.l34, hC.l36, hC.l37, hC.l39, hC.l41, hC.l43, hC.l44, hC.l45, hC.l46, hC.l47, hC.l48, hC.l49, hC.l50, hC.l51, hC.l52, hC.l53, hC.l54, hC.l35, hC.n33, hC.n36, hC.dl R W, hC.fl R W, hC.ll R W, hC.tl R W, R.d1, R.d2, R.d3, R.d4, R.dn, R.da, R.f1, R.f2, R.f3, R.f4, R.fn, R.fa, R.t1, R.t2, R.t3, R.t4, R.t5, R.tn, R.ta, R.l0, R.l1, R.l2, R.l3, R.l7, R.ln, R.lv, R.r5, R.r6, R.r8, R.r13, R.r4, R.r10, R.r11, R.r12, R.r9, R.mt, R.ml, R.lg, R.lp, R.lr, R.lo W, R.ls W, R.1.1, R.1.2.1, R.1.2.2.1, R.1.2.2.2.1, R.1.2.2.2.2.1, R.1.2.2.2.2.2.1, R.1.2.2.2.2.2.2, R.born, R.good, R.unw, R.hp, R.hf, R.ht, mb_eq (C_firstPassed hC R W _ _), e, m1_creditOf_p23]
  · have e : sFP sg p k = sg 8 (7 * tmO (sTime sg p k) + 5) := by unfold sFP; rw [if_neg c]
    obtain ⟨x, h1, h2⟩ := tmO_in c
    have hx := (hb x h1).1
    rw [h2] at hx
    have nt := W.te _ hx.1 hx.2
    rw [if_neg c]
    simp (config := { maxSteps := 1000000 }) (disch := first | assumption | exact W.i _ _ | exact sLine_i W _ _ _ | exact W1.i _ _ | exact hg _ _ | exact W3.i _ _ | (refine ⟨?_, ?_⟩ <;> omega) | omega | (simp only [sW_1, sW_2, sW_3, sW_4, sW_5, sW_8] <;> first | assumption | omega | (refine ⟨?_, ?_⟩ <;> omega)) | (simp only [sT_1, sT_2, sT_3, sT_4, sT_5, sT_8] <;> first | assumption | omega | (refine ⟨?_, ?_⟩ <;> omega))) only [Int.reduceEq, Int.reduceLT, Int.reduceLE, Int.reduceNeg, Int.reduceAdd, Int.reduceSub, Int.reduceMul, if_true, if_false, not_true, not_false_eq_true, false_or, or_false, true_or, or_true, true_and, and_true, false_and, and_false, iI_on, iI_mul, iI_add, iI_sub, iI_neg, ap_if, mp_eq, mz_0, mz_1, mz_b, b2_0, b2_1, iI_lt, iI_le, iI_inj, mb_div, mb_rem, hC.m0, hC.m1, hC.m13, hC.m15, hC.m27, hC.m29, hC.m38, hC.m40, hC.g0_0, hC.g0_1, hC.g0_3, hC.g0_4, hC.g0_5, hC.g0_6, hC.g0_7, hC.g0_8, hC.g0_9, hC.g0_10, hC.g0_11, hC.g0_12, hC.g0_13, hC.g0_14, hC.g1_2, hC.g1_3, hC.g1_5, hC.g1_7, hC.g1_9, hC.g1_11, hC.g1_12, hC.g1_14, hC.g1_15, hC.g1_16, hC.g1_17, hC.g1_18, hC.g13_0, hC.g15_2, hC.g15_3, hC.g15_5, hC.g15_7, hC.g15_9, hC.g15_11, hC.g15_12, hC.g15_14, hC.g15_15, hC.g15_16, hC.g15_17, hC.g15_18, hC.g27_0, hC.g29_3, hC.g29_4, hC.g29_5, hC.g29_6, hC.g29_7, hC.g29_8, hC.g29_9, hC.g29_10, hC.g38_0, hC.g40_0, hC.s0_2, hC.s1_0, hC.s1_1, hC.s1_4, hC.s1_6, hC.s1_8, hC.s1_10, hC.s1_13, hC.s13_1, hC.s15_0, hC.s15_1, hC.s15_4, hC.s15_6, hC.s15_8, hC.s15_10, hC.s15_13, hC.s27_1, hC.s29_0, hC.s29_1, hC.s29_2, hC.s29_11, hC.s29_12, hC.s38_1, hC.s40_1, hC.s40_2, hC.l2, hC.l3, hC.l8, hC.l9, hC.l10, hC.l11, hC.l12, hC.l14, hC.l16, hC.l17, hC.l22, hC.l23, hC.l24, hC.l25, hC.l26, hC.l28, hC.l30, hC.l31, hC.l32, hC.l33, hC.l34, hC.l36, hC.l37, hC.l39, hC.l41, hC.l43, hC.l44, hC.l45, hC.l46, hC.l47, hC.l48, hC.l49, hC.l50, hC.l51, hC.l52, hC.l53, hC.l54, hC.l35, hC.n33, hC.n36, hC.dl R W, hC.fl R W, hC.ll R W, hC.tl R W, R.d1, R.d2, R.d3, R.d4, R.dn, R.da, R.f1, R.f2, R.f3, R.f4, R.fn, R.fa, R.t1, R.t2, R.t3, R.t4, R.t5, R.tn, R.ta, R.l0, R.l1, R.l2, R.l3, R.l7, R.ln, R.lv, R.r5, R.r6, R.r8, R.r13, R.r4, R.r10, R.r11, R.r12, R.r9, R.mt, R.ml, R.lg, R.lp, R.lr, R.lo W, R.ls W, R.1.1, R.1.2.1, R.1.2.2.1, R.1.2.2.2.1, R.1.2.2.2.2.1, R.1.2.2.2.2.2.1, R.1.2.2.2.2.2.2, R.born, R.good, R.unw, R.hp, R.hf, R.ht, mb_eq (C_firstPassed hC R W _ _), e, show ¬ sg 8 (7 * tmO (sTime sg p k) + 5) = -3 by omega, mb_eq (C_heldAhead hC R W _ _), m1_creditOf_p23]
/-! rows of times: at 13 or 38 -/
abbrev YZ (Y Z : Nat) : Prop := (Y = 13 ∧ Z = 14) ∨ (Y = 38 ∧ Z = 39)
theorem OKC.yR {α : Type} (hC : OKC h) {Y Z : Nat} (hY : YZ Y Z) (f : Nat → gM α) : mb (gGetR [6] Y 0) f (cK rho h) = f Z (cK rho h) := by
  rcases hY with ⟨rfl, rfl⟩ | ⟨rfl, rfl⟩
  · exact hC.g13_0 f
  · exact hC.g38_0 f
theorem OKC.yI {α : Type} (hC : OKC h) {Y Z : Nat} (hY : YZ Y Z) (f : Int32 → gM α) : mb (gGetI [6] Y 1) f (cK rho h) = f (iI (rho Y 1)) (cK rho h) := by
  rcases hY with ⟨rfl, rfl⟩ | ⟨rfl, rfl⟩
  · exact hC.s13_1 f
  · exact hC.s38_1 f
theorem OKC.yP {α : Type} (hC : OKC h) {Y Z : Nat} (hY : YZ Y Z) {v : Int} (f : Unit → gM α) : mb (gPutI [6] Y 1 (iI v)) f (cK rho h) = f () (cK (s3 rho Y 1 v) h) := by
  rcases hY with ⟨rfl, rfl⟩ | ⟨rfl, rfl⟩
  · exact hC.p13_1 f
  · exact hC.p38_1 f
theorem OKC.yL {α : Type} (hC : OKC h) {Y Z : Nat} (hY : YZ Y Z) {j : Int} (h0 : 0 ≤ j) (h1 : j < 48) (f : Int32 → gM α) : mb (gLdI 100 Z (iI j)) f (cK rho h) = f (iI (rho Z j)) (cK rho h) := by
  rcases hY with ⟨rfl, rfl⟩ | ⟨rfl, rfl⟩
  · exact hC.l14 h0 h1 f
  · exact hC.l39 h0 h1 f
theorem OKC.yW {α : Type} (hC : OKC h) {Y Z : Nat} (hY : YZ Y Z) {j v : Int} (h0 : 0 ≤ j) (h1 : j < 48) (f : Unit → gM α) : mb (gStI 100 Z (iI j) (iI v)) f (cK rho h) = f () (cK (s3 rho Z j v) h) := by
  rcases hY with ⟨rfl, rfl⟩ | ⟨rfl, rfl⟩
  · exact hC.w14 h0 h1 f
  · exact hC.w39 h0 h1 f
theorem OKC.yM {α β : Type} (hC : OKC h) {Y Z : Nat} (hY : YZ Y Z) (g : gM α) (f : α → gM β) : mb (mv [6] Y g) f (cK rho h) = mb g f (cK rho h) := by
  rcases hY with ⟨rfl, rfl⟩ | ⟨rfl, rfl⟩
  · exact hC.m13 g f
  · exact hC.m38 g f
theorem C_get (hC : OKC h) {Y Z : Nat} (hY : YZ Y Z) {i w : Int} (h0 : 0 ≤ i * 3 + w) (h1 : i * 3 + w < 48) : m7_get Y (iI i) (iI w) (cK rho h) = some (iI (rho Z (i * 3 + w)), cK rho h) := by
  unfold m7_get
  simp (config := { maxSteps := 1000000 }) (disch := first | assumption | exact W.i _ _ | exact sLine_i W _ _ _ | exact W1.i _ _ | exact hg _ _ | exact W3.i _ _ | (refine ⟨?_, ?_⟩ <;> omega) | omega | (simp only [sW_1, sW_2, sW_3, sW_4, sW_5, sW_8] <;> first | assumption | omega | (refine ⟨?_, ?_⟩ <;> omega)) | (simp only [sT_1, sT_2, sT_3, sT_4, sT_5, sT_8] <;> first | assumption | omega | (refine ⟨?_, ?_⟩ <;> omega))) only [Int.reduceEq, Int.reduceLT, Int.reduceLE, Int.reduceNeg, Int.reduceAdd, Int.reduceSub, Int.reduceMul, if_true, if_false, not_true, not_false_eq_true, false_or, or_false, true_or, or_true, true_and, and_true, false_and, and_false, iI_on, iI_mul, iI_add, iI_sub, iI_neg, ap_if, mp_eq, mz_0, mz_1, mz_b, b2_0, b2_1, iI_lt, iI_le, iI_inj, mb_div, mb_rem, hC.yR hY, hC.yL hY]
theorem C_set (hC : OKC h) {Y Z : Nat} (hY : YZ Y Z) {i w v : Int} (h0 : 0 ≤ i * 3 + w) (h1 : i * 3 + w < 48) : m7_set Y (iI i) (iI w) (iI v) (cK rho h) = some ((), cK (s3 rho Z (i * 3 + w) v) h) := by
  unfold m7_set
  simp (config := { maxSteps := 1000000 }) (disch := first | assumption | exact W.i _ _ | exact sLine_i W _ _ _ | exact W1.i _ _ | exact hg _ _ | exact W3.i _ _ | (refine ⟨?_, ?_⟩ <;> omega) | omega | (simp only [sW_1, sW_2, sW_3, sW_4, sW_5, sW_8] <;> first | assumption | omega | (refine ⟨?_, ?_⟩ <;> omega)) | (simp only [sT_1, sT_2, sT_3, sT_4, sT_5, sT_8] <;> first | assumption | omega | (refine ⟨?_, ?_⟩ <;> omega))) only [Int.reduceEq, Int.reduceLT, Int.reduceLE, Int.reduceNeg, Int.reduceAdd, Int.reduceSub, Int.reduceMul, if_true, if_false, not_true, not_false_eq_true, false_or, or_false, true_or, or_true, true_and, and_true, false_and, and_false, iI_on, iI_mul, iI_add, iI_sub, iI_neg, ap_if, mp_eq, mz_0, mz_1, mz_b, b2_0, b2_1, iI_lt, iI_le, iI_inj, mb_div, mb_rem, hC.yR hY, hC.yW hY]
theorem C_add (hC : OKC h) {Y Z : Nat} (hY : YZ Y Z) {t b e c : Int} (hc : rho Y 1 = c) (h0 : 0 ≤ c) (h1 : c < 16) : m7_add Y (iI t) (iI b) (iI e) (cK rho h) = some ((), cK (s3 (s3 (s3 (s3 rho Z (c * 3 + 0) t) Z (c * 3 + 1) b) Z (c * 3 + 2) e) Y 1 (c + 1)) h) := by
  have nYZ : Y ≠ Z := by omega
  have e1 : ∀ x v, s3 rho Z x v Y 1 = c := fun x v => by rw [s3_nk nYZ]; exact hc
  have e2 : ∀ x v x' v', s3 (s3 rho Z x v) Z x' v' Y 1 = c := fun x v x' v' => by rw [s3_nk nYZ]; exact e1 x v
  have e3 : ∀ x v x' v' x'' v'', s3 (s3 (s3 rho Z x v) Z x' v') Z x'' v'' Y 1 = c := fun x v x' v' x'' v'' => by rw [s3_nk nYZ]; exact e2 x v x' v'
  unfold m7_add
  simp (config := { maxSteps := 1000000 }) (disch := first | assumption | exact W.i _ _ | exact sLine_i W _ _ _ | exact W1.i _ _ | exact hg _ _ | exact W3.i _ _ | (refine ⟨?_, ?_⟩ <;> omega) | omega | (simp only [sW_1, sW_2, sW_3, sW_4, sW_5, sW_8] <;> first | assumption | omega | (refine ⟨?_, ?_⟩ <;> omega)) | (simp only [sT_1, sT_2, sT_3, sT_4, sT_5, sT_8] <;> first | assumption | omega | (refine ⟨?_, ?_⟩ <;> omega))) only [Int.reduceEq, Int.reduceLT, Int.reduceLE, Int.reduceNeg, Int.reduceAdd, Int.reduceSub, Int.reduceMul, if_true, if_false, not_true, not_false_eq_true, false_or, or_false, true_or, or_true, true_and, and_true, false_and, and_false, iI_on, iI_mul, iI_add, iI_sub, iI_neg, ap_if, mp_eq, mz_0, mz_1, mz_b, b2_0, b2_1, iI_lt, iI_le, iI_inj, mb_div, mb_rem, hC.yI hY, hc, h1, hC.yM hY, mb_eq (C_set hC hY _ _), e1, e2, e3, hC.yP hY]
def lEf (f : Int → Int) (n : Int) : Int := fo (fun e i => if e < f (i * 3 + 2) then f (i * 3 + 2) else e) n.toNat 0 0
theorem C_latestEnd (hC : OKC h) (hg : okG rho) {Y Z : Nat} (hY : YZ Y Z) {n : Int} (h0 : 0 ≤ n) (h1 : n ≤ 16) : m7_latestEnd Y (iI n) (cK rho h) = some (iI (lEf (rho Z) n), cK rho h) := by
  unfold m7_latestEnd lEf
  simp (config := { maxSteps := 1000000 }) (disch := first | assumption | exact W.i _ _ | exact sLine_i W _ _ _ | exact W1.i _ _ | exact hg _ _ | exact W3.i _ _ | (refine ⟨?_, ?_⟩ <;> omega) | omega | (simp only [sW_1, sW_2, sW_3, sW_4, sW_5, sW_8] <;> first | assumption | omega | (refine ⟨?_, ?_⟩ <;> omega)) | (simp only [sT_1, sT_2, sT_3, sT_4, sT_5, sT_8] <;> first | assumption | omega | (refine ⟨?_, ?_⟩ <;> omega))) only [Int.reduceEq, Int.reduceLT, Int.reduceLE, Int.reduceNeg, Int.reduceAdd, Int.reduceSub, Int.reduceMul, if_true, if_false, not_true, not_false_eq_true, false_or, or_false, true_or, or_true, true_and, and_true, false_and, and_false, iI_on, iI_mul, iI_add, iI_sub, iI_neg, ap_if, mp_eq, mz_0, mz_1, mz_b, b2_0, b2_1, iI_lt, iI_le, iI_inj, mb_div, mb_rem]
  refine (lop (F := fun q e i => m7_latestEnd_p4 q Y (iI n) (iI e) (iI i) (cK rho h)) (K := fun e => some (iI e, cK rho h)) (N := n) (I := fun e _ => i32 e) (fun q e hI => ?_) (fun q e i hI h2 h3 => ⟨?_, ?_⟩) n.toNat FU 0 0 ⟨by omega, by omega⟩ (by omega) (by omega) (FU_lt (by omega))).1
  · show m7_latestEnd_p4 (q + 1) Y (iI n) (iI e) (iI n) (cK rho h) = some (iI e, cK rho h)
    rw [m7_latestEnd_p4]
    simp (config := { maxSteps := 1000000 }) (disch := first | assumption | exact W.i _ _ | exact sLine_i W _ _ _ | exact W1.i _ _ | exact hg _ _ | exact W3.i _ _ | (refine ⟨?_, ?_⟩ <;> omega) | omega | (simp only [sW_1, sW_2, sW_3, sW_4, sW_5, sW_8] <;> first | assumption | omega | (refine ⟨?_, ?_⟩ <;> omega)) | (simp only [sT_1, sT_2, sT_3, sT_4, sT_5, sT_8] <;> first | assumption | omega | (refine ⟨?_, ?_⟩ <;> omega))) only [Int.reduceEq, Int.reduceLT, Int.reduceLE, Int.reduceNeg, Int.reduceAdd, Int.reduceSub, Int.reduceMul, if_true, if_false, not_true, not_false_eq_true, false_or, or_false, true_or, or_true, true_and, and_true, false_and, and_false, iI_on, iI_mul, iI_add, iI_sub, iI_neg, ap_if, mp_eq, mz_0, mz_1, mz_b, b2_0, b2_1, iI_lt, iI_le, iI_inj, mb_div, mb_rem]
    rw [if_pos (by omega)]
  · show m7_latestEnd_p4 (q + 1) Y (iI n) (iI e) (iI i) (cK rho h) = m7_latestEnd_p4 q Y (iI n) (iI (if e < rho Z (i * 3 + 2) then rho Z (i * 3 + 2) else e)) (iI (i + 1)) (cK rho h)
    rw [m7_latestEnd_p4]
    simp (config := { maxSteps := 1000000 }) (disch := first | assumption | exact W.i _ _ | exact sLine_i W _ _ _ | exact W1.i _ _ | exact hg _ _ | exact W3.i _ _ | (refine ⟨?_, ?_⟩ <;> omega) | omega | (simp only [sW_1, sW_2, sW_3, sW_4, sW_5, sW_8] <;> first | assumption | omega | (refine ⟨?_, ?_⟩ <;> omega)) | (simp only [sT_1, sT_2, sT_3, sT_4, sT_5, sT_8] <;> first | assumption | omega | (refine ⟨?_, ?_⟩ <;> omega))) only [Int.reduceEq, Int.reduceLT, Int.reduceLE, Int.reduceNeg, Int.reduceAdd, Int.reduceSub, Int.reduceMul, if_true, if_false, not_true, not_false_eq_true, false_or, or_false, true_or, or_true, true_and, and_true, false_and, and_false, iI_on, iI_mul, iI_add, iI_sub, iI_neg, ap_if, mp_eq, mz_0, mz_1, mz_b, b2_0, b2_1, iI_lt, iI_le, iI_inj, mb_div, mb_rem, hC.yM hY, mb_eq (C_get hC hY _ _), show ¬ n ≤ i by omega, imax_i hI (hg Z (i * 3 + 2))]
  · show i32 (if e < rho Z (i * 3 + 2) then rho Z (i * 3 + 2) else e)
    split
    · exact hg _ _
    · exact hI
/-- rows at Z hold the times a -/
def tcR (f : Int → Int) (a : Tm) : Prop := tmR (fun j => f (j * 3 + 0)) (fun j => f (j * 3 + 1)) (fun j => f (j * 3 + 2)) a
theorem lEf_a {f : Int → Int} {a : Tm} (h : tcR f a) : lEf f a.length = lE a := by
  unfold lEf
  rw [Int.toNat_natCast]
  exact fo_lE h
def TC (sg rho : Nat → Int → Int) (h : gH) (Y Z : Nat) (a : Tm) (s : gH) : Prop := ∃ r h', (∀ q, q ≠ 12 → q ≠ Y → q ≠ Z → r q = rho q) ∧ hS h h' ∧ okG r ∧ r Y 1 = a.length ∧ tcR (r Z) a ∧ tmB sg a ∧ a.length ≤ 16 ∧ s = cK r h'
theorem C_fillTime (hC : OKC h) (R : RDs 1 sg rho h) (hL : LB h) (hg : okG rho) (W : WD sg) {Y Z : Nat} (hY : YZ Y Z) {p k : Int} (hp : i32 p) (hk : 0 ≤ k ∧ k ≤ 9999) :
    ∃ s', TC sg rho h Y Z (sTime sg p k) s' ∧ m1_fillTime 1 (iI p) (iI k) Y (cK rho h) = some ((), s') := by
  have n5 := W.n5
  have n1 := W.n1
  have hk32 : i32 k := ⟨by omega, by omega⟩
  have nYZ : Y ≠ Z ∧ 12 ≤ Y ∧ 12 < Z ∧ Y ≠ 12 := by omega
  have key := lopQ (F := fun n (_ : Tm) i s => m1_fillTime_p8 n 1 (iI p) (iI k) Y (iI i) s) (K := fun _ s => some ((), s)) (N := sg 1 5) (st := sTmS sg p k) (R := fun a i s => TC sg rho h Y Z a s ∧ (a.length : Int) ≤ i) (fun n a s hR => ?_) (fun n a i s hR h0 h1 => ?_) (sg 1 5).toNat FU [] 0 (cK (s3 rho Y 1 0) h) ⟨⟨s3 rho Y 1 0, h, fun q _ q2 _ => by funext j; exact s3_nk q2, hS.rf h, hg.s ⟨by omega, by omega⟩, s3_at _ _ _ _, trivial, fun x hx => (by cases hx), by simp, rfl⟩, by simp⟩ (by omega) (by omega) (FU_lt (by omega))
  · obtain ⟨s', ⟨h1, _⟩, h3⟩ := key
    refine ⟨s', h1, ?_⟩
    unfold m1_fillTime
    simp (config := { maxSteps := 1000000 }) (disch := first | assumption | exact W.i _ _ | exact sLine_i W _ _ _ | exact W1.i _ _ | exact hg _ _ | exact W3.i _ _ | (refine ⟨?_, ?_⟩ <;> omega) | omega | (simp only [sW_1, sW_2, sW_3, sW_4, sW_5, sW_8] <;> first | assumption | omega | (refine ⟨?_, ?_⟩ <;> omega)) | (simp only [sT_1, sT_2, sT_3, sT_4, sT_5, sT_8] <;> first | assumption | omega | (refine ⟨?_, ?_⟩ <;> omega))) only [Int.reduceEq, Int.reduceLT, Int.reduceLE, Int.reduceNeg, Int.reduceAdd, Int.reduceSub, Int.reduceMul, if_true, if_false, not_true, not_false_eq_true, false_or, or_false, true_or, or_true, true_and, and_true, false_and, and_false, iI_on, iI_mul, iI_add, iI_sub, iI_neg, ap_if, mp_eq, mz_0, mz_1, mz_b, b2_0, b2_1, iI_lt, iI_le, iI_inj, mb_div, mb_rem, hC.yP hY]
    exact h3
  · obtain ⟨⟨r, h', k0, k', g0, rc, rr, rb, rl, rfl⟩, _⟩ := hR
    have R' := k'.R (R.co (rho' := r) (fun q q0 q1 => k0 q (by omega) (by omega) (by omega))) hL
    have C' := hC.hs k'
    show m1_fillTime_p8 (n + 1) 1 (iI p) (iI k) Y (iI (sg 1 5)) (cK r h') = some ((), cK r h')
    rw [m1_fillTime_p8]
    simp (config := { maxSteps := 1000000 }) (disch := first | assumption | exact W.i _ _ | exact sLine_i W _ _ _ | exact W1.i _ _ | exact hg _ _ | exact W3.i _ _ | (refine ⟨?_, ?_⟩ <;> omega) | omega | (simp only [sW_1, sW_2, sW_3, sW_4, sW_5, sW_8] <;> first | assumption | omega | (refine ⟨?_, ?_⟩ <;> omega)) | (simp only [sT_1, sT_2, sT_3, sT_4, sT_5, sT_8] <;> first | assumption | omega | (refine ⟨?_, ?_⟩ <;> omega))) only [Int.reduceEq, Int.reduceLT, Int.reduceLE, Int.reduceNeg, Int.reduceAdd, Int.reduceSub, Int.reduceMul, if_true, if_false, not_true, not_false_eq_true, false_or, or_false, true_or, or_true, true_and, and_true, false_and, and_false, iI_on, iI_mul, iI_add, iI_sub, iI_neg, ap_if, mp_eq, mz_0, mz_1, mz_b, b2_0, b2_1, iI_lt, iI_le, iI_inj, mb_div, mb_rem, C'.s1_10, R'.1.2.2.2.2.2.1]
    rw [if_pos (by omega)]
  · obtain ⟨⟨r, h', k0, k', g0, rc, rr, rb, rl, rfl⟩, hlen⟩ := hR
    have R' := k'.R (R.co (rho' := r) (fun q q0 q1 => k0 q (by omega) (by omega) (by omega))) hL
    have C' := hC.hs k'
    have L' := hL.hs k'
    have nt := W.te i h0 h1
    have nd := W.de _ nt.1 nt.2.1
    have i5 : ¬ sg 1 5 ≤ i := by omega
    have e5 := fun f : Int32 → gM Unit => C'.s1_10 (rho := r) f
    rw [R'.1.2.2.2.2.2.1] at e5
    show ∃ s', (TC sg rho h Y Z (sTmS sg p k a i) s' ∧ _) ∧ m1_fillTime_p8 (n + 1) 1 (iI p) (iI k) Y (iI i) (cK r h') = m1_fillTime_p8 n 1 (iI p) (iI k) Y (iI (i + 1)) s'
    rw [m1_fillTime_p8]
    by_cases c : tmP sg p k i
    · have hlb := lE_b (B := 9999 + 7200 * a.length) (by omega) (fun x hx => (rb x hx).2.2)
      have hbb := sBegin_b (B := 9999 + 7200 * a.length) W (e := lE a) (k := k) h0 h1 hlb (by omega)
      have hl15 : (a.length : Int) < 16 := by omega
      obtain ⟨s1, hs1, hB⟩ := C_beginOf C' R' L' g0 W h0 h1 hk (e := lE a) ⟨by omega, by omega⟩
      obtain ⟨r1, h2, j0, j', j2, rfl⟩ := hs1
      have k2 := k'.tr j'
      have R2 := j'.R (R'.co (rho' := r1) (fun q q0 q1 => j0 q (by omega))) L'
      have C2 := C'.hs j'
      have est : b2 (sStands sg i k) = 1 := b2_t c.2
      have hst : sTmS sg p k a i = (i, sBegin sg i (lE a) k, sBegin sg i (lE a) k + 30 * sg 8 (7 * i + 2)) :: a := if_pos c
      have el4 : ((i, sBegin sg i (lE a) k, sBegin sg i (lE a) k + 30 * sg 8 (7 * i + 2)) :: a).length = a.length + 1 := rfl
      have hle := C_latestEnd C' g0 hY (n := (a.length : Int)) (by omega) (by omega)
      rw [lEf_a rr] at hle
      have rc1 : r1 Y 1 = a.length := by rw [j0 Y (by omega)]; exact rc
      have rr1 : tcR (r1 Z) a := by rw [j0 Z (by omega)]; exact rr
      have eT := fun f : Nat → gM Unit => C2.tl R2 W (r := r1) h0 h1 f
      have e1 := fun f : Int32 → gM Unit => R2.t1 (r := r1) h0 h1 f
      rw [j'.t i] at eT e1
      refine ⟨cK (s3 (s3 (s3 (s3 r1 Z ((a.length : Int) * 3 + 0) i) Z ((a.length : Int) * 3 + 1) (sBegin sg i (lE a) k)) Z ((a.length : Int) * 3 + 2) (sBegin sg i (lE a) k + 30 * sg 8 (7 * i + 2))) Y 1 ((a.length : Int) + 1)) h2, ⟨⟨_, h2, fun q q0 q1 q2 => ?_, k2, (((j2.s ⟨by omega, by omega⟩).s ⟨by omega, by omega⟩).s ⟨by omega, by omega⟩).s ⟨by omega, by omega⟩, ?_, ?_, tmB_s W h0 h1 rb, ?_, rfl⟩, ?_⟩, ?_⟩
      · funext j
        rw [s3_nk q1, s3_nk q2, s3_nk q2, s3_nk q2, j0 q q0, k0 q q0 q1 q2]
      · rw [hst, el4, s3_at]; omega
      · rw [hst]
        refine ⟨?_, ?_, ?_, tmR_c (fun j q0 q1 => ⟨?_, ?_, ?_⟩) rr1⟩
        · show s3 _ Y 1 _ Z ((a.length : Int) * 3 + 0) = i
          rw [s3_nk (by omega), s3_nj (by omega), s3_nj (by omega), s3_at]
        · show s3 _ Y 1 _ Z ((a.length : Int) * 3 + 1) = _
          rw [s3_nk (by omega), s3_nj (by omega), s3_at]
        · show s3 _ Y 1 _ Z ((a.length : Int) * 3 + 2) = _
          rw [s3_nk (by omega), s3_at]
        · show r1 Z (j * 3 + 0) = s3 _ Y 1 _ Z (j * 3 + 0)
          rw [s3_nk (by omega), s3_nj (by omega), s3_nj (by omega), s3_nj (by omega)]
        · show r1 Z (j * 3 + 1) = s3 _ Y 1 _ Z (j * 3 + 1)
          rw [s3_nk (by omega), s3_nj (by omega), s3_nj (by omega), s3_nj (by omega)]
        · show r1 Z (j * 3 + 2) = s3 _ Y 1 _ Z (j * 3 + 2)
          rw [s3_nk (by omega), s3_nj (by omega), s3_nj (by omega), s3_nj (by omega)]
      · rw [hst, el4]; omega
      · rw [hst, el4]; omega
      · have ead := C_add C2 hY (t := i) (b := sBegin sg i (lE a) k) (e := sBegin sg i (lE a) k + 30 * sg 8 (7 * i + 2)) rc1 (by omega) hl15
        have tl' := fun f : Nat → gM Unit => C'.tl R' W (r := r) h0 h1 f
        have t2' := fun f : Nat → gM Unit => R'.t2 (r := r) h0 h1 f
        have d2' := fun f : Int32 → gM Unit => R'.d2 (r := r) nt.1 nt.2.1 f
        simp (config := { maxSteps := 1000000 }) (disch := first | assumption | exact W.i _ _ | exact sLine_i W _ _ _ | exact W1.i _ _ | exact hg _ _ | exact W3.i _ _ | (refine ⟨?_, ?_⟩ <;> omega) | omega | (simp only [sW_1, sW_2, sW_3, sW_4, sW_5, sW_8] <;> first | assumption | omega | (refine ⟨?_, ?_⟩ <;> omega)) | (simp only [sT_1, sT_2, sT_3, sT_4, sT_5, sT_8] <;> first | assumption | omega | (refine ⟨?_, ?_⟩ <;> omega))) only [Int.reduceEq, Int.reduceLT, Int.reduceLE, Int.reduceNeg, Int.reduceAdd, Int.reduceSub, Int.reduceMul, if_true, if_false, not_true, not_false_eq_true, false_or, or_false, true_or, or_true, true_and, and_true, false_and, and_false, iI_on, iI_mul, iI_add, iI_sub, iI_neg, ap_if, mp_eq, mz_0, mz_1, mz_b, b2_0, b2_1, iI_lt, iI_le, iI_inj, mb_div, mb_rem, e5, i5, C'.g1_11, tl', t2', d2', c.1, C'.m1, mb_eq (C_stands C' R' W h0 h1 hk), est, C'.yI hY, rc, C'.yM hY, mb_eq hle, mb_eq hB, C2.g1_11, eT, e1, C2.yM hY, mb_eq ead, m1_fillTime_p93]
    · refine ⟨cK r h', ⟨⟨r, h', k0, k', g0, ?_⟩, ?_⟩, ?_⟩
      · unfold sTmS
        rw [if_neg c]
        exact ⟨rc, rr, rb, rl, rfl⟩
      · unfold sTmS
        rw [if_neg c]
        omega
      · have tl' := fun f : Nat → gM Unit => C'.tl R' W (r := r) h0 h1 f
        have t2' := fun f : Nat → gM Unit => R'.t2 (r := r) h0 h1 f
        have d2' := fun f : Int32 → gM Unit => R'.d2 (r := r) nt.1 nt.2.1 f
        by_cases c1 : sg 3 (3 * sg 8 (7 * i)) = p
        · have est : b2 (sStands sg i k) = 0 := b2_f (fun q => c ⟨c1, q⟩)
          simp (config := { maxSteps := 1000000 }) (disch := first | assumption | exact W.i _ _ | exact sLine_i W _ _ _ | exact W1.i _ _ | exact hg _ _ | exact W3.i _ _ | (refine ⟨?_, ?_⟩ <;> omega) | omega | (simp only [sW_1, sW_2, sW_3, sW_4, sW_5, sW_8] <;> first | assumption | omega | (refine ⟨?_, ?_⟩ <;> omega)) | (simp only [sT_1, sT_2, sT_3, sT_4, sT_5, sT_8] <;> first | assumption | omega | (refine ⟨?_, ?_⟩ <;> omega))) only [Int.reduceEq, Int.reduceLT, Int.reduceLE, Int.reduceNeg, Int.reduceAdd, Int.reduceSub, Int.reduceMul, if_true, if_false, not_true, not_false_eq_true, false_or, or_false, true_or, or_true, true_and, and_true, false_and, and_false, iI_on, iI_mul, iI_add, iI_sub, iI_neg, ap_if, mp_eq, mz_0, mz_1, mz_b, b2_0, b2_1, iI_lt, iI_le, iI_inj, mb_div, mb_rem, e5, i5, C'.g1_11, tl', t2', d2', c1, C'.m1, mb_eq (C_stands C' R' W h0 h1 hk), est, m1_fillTime_p93]
        · simp (config := { maxSteps := 1000000 }) (disch := first | assumption | exact W.i _ _ | exact sLine_i W _ _ _ | exact W1.i _ _ | exact hg _ _ | exact W3.i _ _ | (refine ⟨?_, ?_⟩ <;> omega) | omega | (simp only [sW_1, sW_2, sW_3, sW_4, sW_5, sW_8] <;> first | assumption | omega | (refine ⟨?_, ?_⟩ <;> omega)) | (simp only [sT_1, sT_2, sT_3, sT_4, sT_5, sT_8] <;> first | assumption | omega | (refine ⟨?_, ?_⟩ <;> omega))) only [Int.reduceEq, Int.reduceLT, Int.reduceLE, Int.reduceNeg, Int.reduceAdd, Int.reduceSub, Int.reduceMul, if_true, if_false, not_true, not_false_eq_true, false_or, or_false, true_or, or_true, true_and, and_true, false_and, and_false, iI_on, iI_mul, iI_add, iI_sub, iI_neg, ap_if, mp_eq, mz_0, mz_1, mz_b, b2_0, b2_1, iI_lt, iI_le, iI_inj, mb_div, mb_rem, e5, i5, C'.g1_11, tl', t2', d2', c1, m1_fillTime_p93]
theorem C_releaseOf (hC : OKC h) (R : RDs 1 sg rho h) (hL : LB h) (hg : okG rho) (W : WD sg) {p k : Int} (h0 : 0 ≤ p) (h1 : p < sg 1 1) (hk : 0 ≤ k ∧ k ≤ 9999) :
    ∃ s', CS rho h s' ∧ m1_releaseOf 1 (iI p) (iI k) (cK rho h) = some (iI (orN (sRel sg p k)), s') := by
  have n1 := W.n1
  have n0 := W.n0
  have np := W.pe p h0 h1
  have hp : i32 p := ⟨by omega, by omega⟩
  have hY : YZ 13 14 := Or.inl ⟨rfl, rfl⟩
  obtain ⟨s', ⟨r, h', k0, k', g0, rc, rr, rb, rl, rfl⟩, e⟩ := C_fillTime hC R hL hg W hY hp hk
  have R' := k'.R (R.co (rho' := r) (fun q q0 q1 => k0 q (by omega) (by omega) (by omega))) hL
  have C' := hC.hs k'
  refine ⟨_, ⟨r, h', fun q j q1 q2 q3 _ _ => by rw [k0 q q1 q2 q3], k', g0, rfl⟩, ?_⟩
  unfold m1_releaseOf sRel sRl
  have ec := C_creditOf C' R' W hp hk
  have el := C_lastPassed C' R' W hp hk
  have hle := C_latestEnd C' g0 hY (n := ((sTime sg p k).length : Int)) (by omega) (by omega)
  rw [lEf_a rr] at hle
  have eg := R'.good h0 h1
  by_cases c : (sTime sg p k).length = 0
  · have c' : ((sTime sg p k).length : Int) = 0 := by omega
    rw [if_pos c]
    simp (config := { maxSteps := 1000000 }) (disch := first | assumption | exact W.i _ _ | exact sLine_i W _ _ _ | exact W1.i _ _ | exact hg _ _ | exact W3.i _ _ | (refine ⟨?_, ?_⟩ <;> omega) | omega | (simp only [sW_1, sW_2, sW_3, sW_4, sW_5, sW_8] <;> first | assumption | omega | (refine ⟨?_, ?_⟩ <;> omega)) | (simp only [sT_1, sT_2, sT_3, sT_4, sT_5, sT_8] <;> first | assumption | omega | (refine ⟨?_, ?_⟩ <;> omega))) only [Int.reduceEq, Int.reduceLT, Int.reduceLE, Int.reduceNeg, Int.reduceAdd, Int.reduceSub, Int.reduceMul, if_true, if_false, not_true, not_false_eq_true, false_or, or_false, true_or, or_true, true_and, and_true, false_and, and_false, iI_on, iI_mul, iI_add, iI_sub, iI_neg, ap_if, mp_eq, mz_0, mz_1, mz_b, b2_0, b2_1, iI_lt, iI_le, iI_inj, mb_div, mb_rem, hC.g1_18, hC.m1, mb_eq e, C'.g1_18, C'.s13_1, rc, c']
    rfl
  · have hcr := sCr_b W (p := p) rb
    have hlb := lE_b (B := 9999 + 7200 * (sTime sg p k).length) (by omega) (fun x hx => (rb x hx).2.2)
    obtain ⟨x, q2, q3⟩ := tmN_in c
    have hx := (rb x q2).1
    rw [q3] at hx
    have nt := W.te _ hx.1 hx.2
    have elp : sLP sg p k = sg 8 (7 * tmN (sTime sg p k) + 5) := by unfold sLP; rw [if_neg c]
    rw [if_neg c]
    rw [elp] at el
    simp (config := { maxSteps := 1000000 }) (disch := first | assumption | exact W.i _ _ | exact sLine_i W _ _ _ | exact W1.i _ _ | exact hg _ _ | exact W3.i _ _ | (refine ⟨?_, ?_⟩ <;> omega) | omega | (simp only [sW_1, sW_2, sW_3, sW_4, sW_5, sW_8] <;> first | assumption | omega | (refine ⟨?_, ?_⟩ <;> omega)) | (simp only [sT_1, sT_2, sT_3, sT_4, sT_5, sT_8] <;> first | assumption | omega | (refine ⟨?_, ?_⟩ <;> omega))) only [Int.reduceEq, Int.reduceLT, Int.reduceLE, Int.reduceNeg, Int.reduceAdd, Int.reduceSub, Int.reduceMul, if_true, if_false, not_true, not_false_eq_true, false_or, or_false, true_or, or_true, true_and, and_true, false_and, and_false, iI_on, iI_mul, iI_add, iI_sub, iI_neg, ap_if, mp_eq, mz_0, mz_1, mz_b, b2_0, b2_1, iI_lt, iI_le, iI_inj, mb_div, mb_rem, hC.g1_18, hC.m1, mb_eq e, C'.g1_18, C'.s13_1, rc, show ¬ ((sTime sg p k).length : Int) = 0 by omega, C'.m1, C'.yM hY, mb_eq hle, mb_eq ec, C'.g1_3, C'.l3, eg, mb_eq el, imax_i (show i32 (sg 8 (7 * tmN (sTime sg p k) + 5)) by omega) (show i32 (lE (sTime sg p k) - sCr sg p (sTime sg p k) - sg 2 (2 * p + 1)) by omega)]
    have e9 : (if sg 8 (7 * tmN (sTime sg p k) + 5) < lE (sTime sg p k) - sCr sg p (sTime sg p k) - sg 2 (2 * p + 1) then lE (sTime sg p k) - sCr sg p (sTime sg p k) - sg 2 (2 * p + 1) else sg 8 (7 * tmN (sTime sg p k) + 5)) = orN (if lE (sTime sg p k) - sCr sg p (sTime sg p k) - sg 2 (2 * p + 1) < sg 8 (7 * tmN (sTime sg p k) + 5) then sg 8 (7 * tmN (sTime sg p k) + 5) else lE (sTime sg p k) - sCr sg p (sTime sg p k) - sg 2 (2 * p + 1)) := by
      unfold orN
      repeat' split
      all_goals omega
    rw [e9]
end CT

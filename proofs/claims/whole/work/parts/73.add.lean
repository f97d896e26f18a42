/-! ===== a call on both: deed, finding, term ===== -/
theorem isLawO.ext {sg : Nat → Int → Int} {h h' : gH} {p : Nat} {v : Int} (k1 : ∀ (q : Nat) (x : Nat × Nat), h.1[q]? = some x → h'.1[q]? = some x) (k2 : ∀ q, 84 ≤ q → q < h.1.length → h'.2.1 q = h.2.1 q ∧ h'.2.2 q = h.2.2 q) (h3 : isLawO sg h p v) : isLawO sg h' p v := by
  have lt : ∀ (q : Nat) (x : Nat × Nat), h.1[q]? = some x → q < h.1.length := fun q x hx => (List.getElem?_eq_some_iff.mp hx).1
  obtain ⟨⟨a1, a2, a3⟩, b, ⟨c1, c2, c3, c4⟩, d, e, nc, f1, f2, f3, f4⟩ := h3
  obtain ⟨e1, e2⟩ := k2 p a1 (lt _ _ a2)
  have r := fun i (hi : i = 1 ∨ i = 2 ∨ i = 3 ∨ i = 5 ∨ i = 6 ∨ i = 7 ∨ i = 8 ∨ i = 9) => (k2 (p + i) (by omega) (by
    rcases hi with rfl | rfl | rfl | rfl | rfl | rfl | rfl | rfl
    · exact lt _ _ c1
    · exact lt _ _ c2
    · exact lt _ _ c3
    · exact lt _ _ (f2 5 (by omega))
    · exact lt _ _ (f2 6 (by omega))
    · exact lt _ _ (f2 7 (by omega))
    · exact lt _ _ f3
    · exact lt _ _ (f2 9 (by omega)))).1
  unfold isLawO
  rw [e1, e2, r 1 (by omega), r 2 (by omega), r 3 (by omega), r 5 (by omega), r 6 (by omega), r 7 (by omega), r 8 (by omega), r 9 (by omega)]
  exact ⟨⟨a1, k1 _ _ a2, a3⟩, b, ⟨k1 _ _ c1, k1 _ _ c2, k1 _ _ c3, k1 _ _ c4⟩, d, e, nc, f1, fun i hi => k1 _ _ (f2 i hi), k1 _ _ f3, f4⟩
theorem isDeedO.ext {sg : Nat → Int → Int} {h h' : gH} {p : Nat} {i : Int} (k1 : ∀ (q : Nat) (x : Nat × Nat), h.1[q]? = some x → h'.1[q]? = some x) (k2 : ∀ q, 84 ≤ q → q < h.1.length → h'.2.1 q = h.2.1 q ∧ h'.2.2 q = h.2.2 q) (H : isDeedO sg h p i) : isDeedO sg h' p i := by
  have e1 := (k2 p H.1 (List.getElem?_eq_some_iff.mp H.2.1).1).1
  unfold isDeedO at H ⊢
  rw [e1]
  exact ⟨H.1, k1 _ _ H.2.1, H.2.2⟩
theorem isFindO.ext {sg : Nat → Int → Int} {h h' : gH} {X p : Nat} {i : Int} (k1 : ∀ (q : Nat) (x : Nat × Nat), h.1[q]? = some x → h'.1[q]? = some x) (k2 : ∀ q, 84 ≤ q → q < h.1.length → h'.2.1 q = h.2.1 q ∧ h'.2.2 q = h.2.2 q) (kd : dpt h'.2.2 (X + 3) (sg 4 (4 * i)) = dpt h.2.2 (X + 3) (sg 4 (4 * i))) (H : isFindO sg h X p i) : isFindO sg h' X p i := by
  have e := k2 p H.1 (List.getElem?_eq_some_iff.mp H.2.1).1
  unfold isFindO at H ⊢
  rw [e.1, e.2, kd]
  exact ⟨H.1, k1 _ _ H.2.1, H.2.2⟩
theorem isTermO.ext {sg : Nat → Int → Int} {h h' : gH} {X p : Nat} {i : Int} (k1 : ∀ (q : Nat) (x : Nat × Nat), h.1[q]? = some x → h'.1[q]? = some x) (k2 : ∀ q, 84 ≤ q → q < h.1.length → h'.2.1 q = h.2.1 q ∧ h'.2.2 q = h.2.2 q) (kd : dpt h'.2.2 (X + 3) (sg 8 (7 * i)) = dpt h.2.2 (X + 3) (sg 8 (7 * i))) (H : isTermO sg h X p i) : isTermO sg h' X p i := by
  have e := k2 p H.1 (List.getElem?_eq_some_iff.mp H.2.1).1
  unfold isTermO at H ⊢
  rw [e.1, e.2, kd]
  exact ⟨H.1, k1 _ _ H.2.1, H.2.2⟩
theorem hOne1.k2 {h h' : gH} {t n A k : Nat} (H : hOne1 h h' t n A k) (hA : A < 55) : ∀ q, 84 ≤ q → q < h.1.length → h'.2.1 q = h.2.1 q ∧ h'.2.2 q = h.2.2 q := fun q h0 h1 => ⟨H.2.1 q (by omega), H.2.2.1 q (by omega) (by omega)⟩
theorem hOne1.ok {h h' : gH} {t n A k : Nat} (H : hOne1 h h' t n A k) (hC : OKC h) (hA : A = 4 ∨ A = 5 ∨ A = 6 ∨ A = 7) (hl : 84 ≤ h.1.length) : OKC h' := hC.of H.old (fun a ha _ _ _ _ => H.2.2.1 a (by omega) (by omega))
section ADD
variable {sg rho : Nat → Int → Int} {h : gH}
theorem T_deed (I : Inv sg rho h) {p k d : Int} (hp : i32 p) (hk : i32 k) (hd : i32 d) : Both (m11_deed 0 (iI p) (iI k) (iI d)) (m12_deed 55 (iI p) (iI k) (iI d)) rho h := by
  have hC := I.1.1
  have hL := I.1.2.1
  have hg := I.1.2.2.1
  have hl := I.1.2.2.2.1
  have R := I.1.2.2.2.2.1
  have W := I.2.1
  have n2 := W.n2
  have n1 := W.n1
  have n0 := W.n0
  by_cases c : ((0 ≤ p ∧ p < sg 1 1) ∧ 0 ≤ k ∧ k ≤ 5) ∧ 0 ≤ d ∧ d ≤ sg 1 0
  · by_cases c2 : sg 1 2 = 16
    · refine both_q (r := iI (oDeed sg p k d)) I ?_ (fun H hM => ?_)
      · unfold m11_deed oDeed
        rw [if_pos c, if_pos c2]
        simp (config := { maxSteps := 1000000 }) (disch := first | assumption | exact W.i _ _ | exact sLine_i W _ _ _ | exact W1.i _ _ | exact hg _ _ | exact W3.i _ _ | (refine ⟨?_, ?_⟩ <;> omega) | omega | (simp only [sW_1, sW_2, sW_3, sW_4, sW_5, sW_8] <;> first | assumption | omega | (refine ⟨?_, ?_⟩ <;> omega)) | (simp only [sT_1, sT_2, sT_3, sT_4, sT_5, sT_8] <;> first | assumption | omega | (refine ⟨?_, ?_⟩ <;> omega))) only [Int.reduceEq, Int.reduceLT, Int.reduceLE, Int.reduceNeg, Int.reduceAdd, Int.reduceSub, Int.reduceMul, if_true, if_false, not_true, not_false_eq_true, false_or, or_false, true_or, or_true, true_and, and_true, false_and, and_false, iI_on, iI_mul, iI_add, iI_sub, iI_neg, ap_if, mp_eq, mz_0, mz_1, mz_b, b2_0, b2_1, iI_lt, iI_le, iI_inj, mb_div, mb_rem, hC.m0, hC.m1, hC.m13, hC.m15, hC.m27, hC.m29, hC.m38, hC.m40, hC.g0_0, hC.g0_1, hC.g0_3, hC.g0_4, hC.g0_5, hC.g0_6, hC.g0_7, hC.g0_8, hC.g0_9, hC.g0_10, hC.g0_11, hC.g0_12, hC.g0_13, hC.g0_14, hC.g1_2, hC.g1_3, hC.g1_5, hC.g1_7, hC.g1_9, hC.g1_11, hC.g1_12, hC.g1_14, hC.g1_15, hC.g1_16, hC.g1_17, hC.g1_18, hC.g13_0, hC.g15_2, hC.g15_3, hC.g15_5, hC.g15_7, hC.g15_9, hC.g15_11, hC.g15_12, hC.g15_14, hC.g15_15, hC.g15_16, hC.g15_17, hC.g15_18, hC.g27_0, hC.g29_3, hC.g29_4, hC.g29_5, hC.g29_6, hC.g29_7, hC.g29_8, hC.g29_9, hC.g29_10, hC.g38_0, hC.g40_0, hC.s0_2, hC.s1_0, hC.s1_1, hC.s1_4, hC.s1_6, hC.s1_8, hC.s1_10, hC.s1_13, hC.s13_1, hC.s15_0, hC.s15_1, hC.s15_4, hC.s15_6, hC.s15_8, hC.s15_10, hC.s15_13, hC.s27_1, hC.s29_0, hC.s29_1, hC.s29_2, hC.s29_11, hC.s29_12, hC.s38_1, hC.s40_1, hC.s40_2, hC.l2, hC.l3, hC.l8, hC.l9, hC.l10, hC.l11, hC.l12, hC.l14, hC.l16, hC.l17, hC.l22, hC.l23, hC.l24, hC.l25, hC.l26, hC.l28, hC.l30, hC.l31, hC.l32, hC.l33, hC.l34, hC.l36, hC.l37, hC.l39, hC.l41, hC.l43, hC.l44, hC.l45, hC.l46, hC.l47, hC.l48, hC.l49, hC.l50, hC.l51, hC.l52, hC.l53, hC.l54, hC.l35, hC.n33, hC.n36, hC.dl R W, hC.fl R W, hC.ll R W, hC.tl R W, R.d1, R.d2, R.d3, R.d4, R.dn, R.da, R.f1, R.f2, R.f3, R.f4, R.fn, R.fa, R.t1, R.t2, R.t3, R.t4, R.t5, R.tn, R.ta, R.l0, R.l1, R.l2, R.l3, R.l7, R.ln, R.lv, R.r5, R.r6, R.r8, R.r13, R.r4, R.r10, R.r11, R.r12, R.r9, R.mt, R.ml, R.lg, R.lp, R.lr, R.lo W, R.ls W, R.1.1, R.1.2.1, R.1.2.2.1, R.1.2.2.2.1, R.1.2.2.2.2.1, R.1.2.2.2.2.2.1, R.1.2.2.2.2.2.2, R.born, R.good, R.unw, R.hp, R.hf, R.ht, hC.p0_2, hC.p1_0, hC.p1_1, hC.p1_4, hC.p1_6, hC.p1_8, hC.p1_10, hC.p1_13, hC.p13_1, hC.p15_0, hC.p15_1, hC.p15_4, hC.p15_6, hC.p15_8, hC.p15_10, hC.p15_13, hC.p27_1, hC.p29_0, hC.p29_1, hC.p29_2, hC.p29_11, hC.p29_12, hC.p38_1, hC.p40_1, hC.p40_2, hC.w2, hC.w3, hC.w8, hC.w9, hC.w10, hC.w11, hC.w12, hC.w14, hC.w16, hC.w17, hC.w22, hC.w23, hC.w24, hC.w25, hC.w26, hC.w28, hC.w30, hC.w31, hC.w32, hC.w33, hC.w34, hC.w36, hC.w37, hC.w39, hC.w41, hC.w43, hC.w44, hC.w45, hC.w46, hC.w47, hC.w48, hC.w49, hC.w50, hC.w51, hC.w52, hC.w53, hC.w54, s3_at, s3_nk, s3_nj, mb_eq (C_isPerson hC R W _), c.1.1.1, c.1.1.2, show ¬ k < 0 by omega, show ¬ 6 ≤ k by omega, show ¬ d < 0 by omega, c.2.2, show ¬ sg 1 2 < 16 by omega]
      · have := B_deed (h := H) hM W hp hk hd
        unfold uDeed at this
        rw [if_pos c, if_pos c2] at this
        exact this
    · obtain ⟨h', H1, ⟨f0, f1, f2, f3, f4⟩, e⟩ := C_addDeed hC R W hl c.1.1 c.1.2 c.2 c2
      have hC' := H1.ok hC (Or.inl rfl) hl
      have ay : 0 ≤ sAgeOn sg p d ∧ sAgeOn sg p d ≤ 118 := by
        have := W.pe p c.1.1.1 c.1.1.2
        unfold sAgeOn; omega
      have hL' : LB h' := hL.of H1.1 (by split <;> omega)
      refine both_of (r := iI (oDeed sg p k d)) (rho' := s3 rho 1 4 (sg 1 2 + 1)) (sg' := uDeed sg p k d) I ?_ ?_ (H1.hg hl (by omega) (by omega)) (fun H hM => B_deed hM W hp hk hd) ?_ ?_ ?_
      · unfold m11_deed oDeed
        rw [if_pos c, if_neg c2]
        simp (config := { maxSteps := 1000000 }) (disch := first | assumption | exact W.i _ _ | exact sLine_i W _ _ _ | exact W1.i _ _ | exact hg _ _ | exact W3.i _ _ | (refine ⟨?_, ?_⟩ <;> omega) | omega | (simp only [sW_1, sW_2, sW_3, sW_4, sW_5, sW_8] <;> first | assumption | omega | (refine ⟨?_, ?_⟩ <;> omega)) | (simp only [sT_1, sT_2, sT_3, sT_4, sT_5, sT_8] <;> first | assumption | omega | (refine ⟨?_, ?_⟩ <;> omega))) only [Int.reduceEq, Int.reduceLT, Int.reduceLE, Int.reduceNeg, Int.reduceAdd, Int.reduceSub, Int.reduceMul, if_true, if_false, not_true, not_false_eq_true, false_or, or_false, true_or, or_true, true_and, and_true, false_and, and_false, iI_on, iI_mul, iI_add, iI_sub, iI_neg, ap_if, mp_eq, mz_0, mz_1, mz_b, b2_0, b2_1, iI_lt, iI_le, iI_inj, mb_div, mb_rem, hC.m0, hC.m1, hC.m13, hC.m15, hC.m27, hC.m29, hC.m38, hC.m40, hC.g0_0, hC.g0_1, hC.g0_3, hC.g0_4, hC.g0_5, hC.g0_6, hC.g0_7, hC.g0_8, hC.g0_9, hC.g0_10, hC.g0_11, hC.g0_12, hC.g0_13, hC.g0_14, hC.g1_2, hC.g1_3, hC.g1_5, hC.g1_7, hC.g1_9, hC.g1_11, hC.g1_12, hC.g1_14, hC.g1_15, hC.g1_16, hC.g1_17, hC.g1_18, hC.g13_0, hC.g15_2, hC.g15_3, hC.g15_5, hC.g15_7, hC.g15_9, hC.g15_11, hC.g15_12, hC.g15_14, hC.g15_15, hC.g15_16, hC.g15_17, hC.g15_18, hC.g27_0, hC.g29_3, hC.g29_4, hC.g29_5, hC.g29_6, hC.g29_7, hC.g29_8, hC.g29_9, hC.g29_10, hC.g38_0, hC.g40_0, hC.s0_2, hC.s1_0, hC.s1_1, hC.s1_4, hC.s1_6, hC.s1_8, hC.s1_10, hC.s1_13, hC.s13_1, hC.s15_0, hC.s15_1, hC.s15_4, hC.s15_6, hC.s15_8, hC.s15_10, hC.s15_13, hC.s27_1, hC.s29_0, hC.s29_1, hC.s29_2, hC.s29_11, hC.s29_12, hC.s38_1, hC.s40_1, hC.s40_2, hC.l2, hC.l3, hC.l8, hC.l9, hC.l10, hC.l11, hC.l12, hC.l14, hC.l16, hC.l17, hC.l22, hC.l23, hC.l24, hC.l25, hC.l26, hC.l28, hC.l30, hC.l31, hC.l32, hC.l33, hC.l34, hC.l36, hC.l37, hC.l39, hC.l41, hC.l43, hC.l44, hC.l45, hC.l46, hC.l47, hC.l48, hC.l49, hC.l50, hC.l51, hC.l52, hC.l53, hC.l54, hC.l35, hC.n33, hC.n36, hC.dl R W, hC.fl R W, hC.ll R W, hC.tl R W, R.d1, R.d2, R.d3, R.d4, R.dn, R.da, R.f1, R.f2, R.f3, R.f4, R.fn, R.fa, R.t1, R.t2, R.t3, R.t4, R.t5, R.tn, R.ta, R.l0, R.l1, R.l2, R.l3, R.l7, R.ln, R.lv, R.r5, R.r6, R.r8, R.r13, R.r4, R.r10, R.r11, R.r12, R.r9, R.mt, R.ml, R.lg, R.lp, R.lr, R.lo W, R.ls W, R.1.1, R.1.2.1, R.1.2.2.1, R.1.2.2.2.1, R.1.2.2.2.2.1, R.1.2.2.2.2.2.1, R.1.2.2.2.2.2.2, R.born, R.good, R.unw, R.hp, R.hf, R.ht, hC.p0_2, hC.p1_0, hC.p1_1, hC.p1_4, hC.p1_6, hC.p1_8, hC.p1_10, hC.p1_13, hC.p13_1, hC.p15_0, hC.p15_1, hC.p15_4, hC.p15_6, hC.p15_8, hC.p15_10, hC.p15_13, hC.p27_1, hC.p29_0, hC.p29_1, hC.p29_2, hC.p29_11, hC.p29_12, hC.p38_1, hC.p40_1, hC.p40_2, hC.w2, hC.w3, hC.w8, hC.w9, hC.w10, hC.w11, hC.w12, hC.w14, hC.w16, hC.w17, hC.w22, hC.w23, hC.w24, hC.w25, hC.w26, hC.w28, hC.w30, hC.w31, hC.w32, hC.w33, hC.w34, hC.w36, hC.w37, hC.w39, hC.w41, hC.w43, hC.w44, hC.w45, hC.w46, hC.w47, hC.w48, hC.w49, hC.w50, hC.w51, hC.w52, hC.w53, hC.w54, s3_at, s3_nk, s3_nj, mb_eq (C_isPerson hC R W _), c.1.1.1, c.1.1.2, show ¬ k < 0 by omega, show ¬ 6 ≤ k by omega, show ¬ d < 0 by omega, c.2.2, show sg 1 2 < 16 by omega, mb_eq e]
      · unfold uDeed
        rw [if_pos c, if_neg c2]
        refine I.1.up (fun q hq => by rw [s3_o (by omega), s3_o (by omega), s3_o (by omega), s3_o (by omega)]) (fun q hq => s3_o (by omega)) (hg.s ⟨by omega, by omega⟩) hC' hL' ⟨⟨R.1.1, R.1.2.1, rfl, R.1.2.2.2⟩, R.2.1, ?_, ?_, ?_, ?_, R.2.2.2.2.2.2⟩ H1.old (H1.k2 (by omega)) (fun q a b => H1.2.2.1 q (by omega) (by omega))
        · intro i h0 h1
          simp (disch := omega) only [s3_at] at h1
          by_cases ci : i = sg 1 2
          · subst ci
            refine ⟨h.1.length, by show h'.2.2 4 _ = _; rw [H1.2.2.2, if_pos rfl], ?_⟩
            have e2 : sAge (s3 (s3 (s3 (s3 sg 3 (3 * sg 1 2) p) 3 (3 * sg 1 2 + 1) k) 3 (3 * sg 1 2 + 2) d) 1 2 (sg 1 2 + 1)) (sg 1 2) = sAgeOn sg p d := by
              unfold sAge sAgeOn
              simp (disch := omega) only [s3_at, s3_nk, s3_nj]
            unfold isDeedO
            rw [e2]
            simp (disch := omega) only [s3_at, s3_nk, s3_nj]
            exact ⟨hl, H1.at, f0, f1, f2, f3, f4⟩
          · obtain ⟨q, a, b⟩ := R.2.2.1 i h0 (by omega)
            refine ⟨q, by show h'.2.2 4 _ = _; rw [H1.2.2.2, if_neg (by omega)]; exact a, ?_⟩
            have b := b.ext H1.old (H1.k2 (by omega))
            have e2 : sAge (s3 (s3 (s3 (s3 sg 3 (3 * sg 1 2) p) 3 (3 * sg 1 2 + 1) k) 3 (3 * sg 1 2 + 2) d) 1 2 (sg 1 2 + 1)) i = sAge sg i := by
              unfold sAge sAgeOn
              simp (disch := omega) only [s3_nk, s3_nj]
            unfold isDeedO at b ⊢
            rw [e2]
            simp (disch := omega) only [s3_nk, s3_nj]
            exact b
        · intro i h0 h1
          obtain ⟨q, a, b⟩ := R.2.2.2.1 i h0 h1
          have nf := W.fi i h0 h1
          have kd : dpt h'.2.2 4 (sg 4 (4 * i)) = dpt h.2.2 4 (sg 4 (4 * i)) := by unfold dpt; rw [H1.2.2.2, if_neg (by omega)]
          exact ⟨q, by show h'.2.2 5 _ = _; rw [H1.2.2.1 5 (by omega) (by omega)]; exact a, isFindO.ext H1.old (H1.k2 (by omega)) kd b⟩
        · intro i h0 h1
          obtain ⟨q, a, b⟩ := R.2.2.2.2.1 i h0 h1
          exact ⟨q, by show h'.2.2 6 _ = _; rw [H1.2.2.1 6 (by omega) (by omega)]; exact a, isLawO.ext H1.old (H1.k2 (by omega)) b⟩
        · intro i h0 h1
          obtain ⟨q, a, b⟩ := R.2.2.2.2.2.1 i h0 h1
          have nt := W.te i h0 h1
          have kd : dpt h'.2.2 4 (sg 8 (7 * i)) = dpt h.2.2 4 (sg 8 (7 * i)) := by unfold dpt; rw [H1.2.2.2, if_neg (by omega)]
          exact ⟨q, by show h'.2.2 7 _ = _; rw [H1.2.2.1 7 (by omega) (by omega)]; exact a, isTermO.ext H1.old (H1.k2 (by omega)) kd b⟩
      · unfold uDeed
        rw [if_pos c, if_neg c2]
        exact WD_deed W c.1.1 c.1.2 c.2 c2
      · unfold uDeed
        rw [if_pos c, if_neg c2]
        exact (((I.2.2.1.s (by omega) (by omega)).s (by omega) (by omega)).s (by omega) (by omega)).s (by omega) (by omega)
      · unfold uDeed
        rw [if_pos c, if_neg c2]
        exact (((I.2.2.2.1.s (by omega) (by omega) ⟨by omega, by show _ < (48 : Int); omega⟩).s (by omega) (by omega) ⟨by omega, by show _ < (48 : Int); omega⟩).s (by omega) (by omega) ⟨by omega, by show _ < (48 : Int); omega⟩).s (by omega) (by omega) ⟨by omega, by decide⟩
  · refine both_q (r := iI (oDeed sg p k d)) I ?_ (fun H hM => ?_)
    · unfold m11_deed oDeed m11_deed_p36
      rw [if_neg c]
      simp (config := { maxSteps := 1000000 }) (disch := first | assumption | exact W.i _ _ | exact sLine_i W _ _ _ | exact W1.i _ _ | exact hg _ _ | exact W3.i _ _ | (refine ⟨?_, ?_⟩ <;> omega) | omega | (simp only [sW_1, sW_2, sW_3, sW_4, sW_5, sW_8] <;> first | assumption | omega | (refine ⟨?_, ?_⟩ <;> omega)) | (simp only [sT_1, sT_2, sT_3, sT_4, sT_5, sT_8] <;> first | assumption | omega | (refine ⟨?_, ?_⟩ <;> omega))) only [Int.reduceEq, Int.reduceLT, Int.reduceLE, Int.reduceNeg, Int.reduceAdd, Int.reduceSub, Int.reduceMul, if_true, if_false, not_true, not_false_eq_true, false_or, or_false, true_or, or_true, true_and, and_true, false_and, and_false, iI_on, iI_mul, iI_add, iI_sub, iI_neg, ap_if, mp_eq, mz_0, mz_1, mz_b, b2_0, b2_1, iI_lt, iI_le, iI_inj, mb_div, mb_rem, hC.m0, hC.m1, hC.m13, hC.m15, hC.m27, hC.m29, hC.m38, hC.m40, hC.g0_0, hC.g0_1, hC.g0_3, hC.g0_4, hC.g0_5, hC.g0_6, hC.g0_7, hC.g0_8, hC.g0_9, hC.g0_10, hC.g0_11, hC.g0_12, hC.g0_13, hC.g0_14, hC.g1_2, hC.g1_3, hC.g1_5, hC.g1_7, hC.g1_9, hC.g1_11, hC.g1_12, hC.g1_14, hC.g1_15, hC.g1_16, hC.g1_17, hC.g1_18, hC.g13_0, hC.g15_2, hC.g15_3, hC.g15_5, hC.g15_7, hC.g15_9, hC.g15_11, hC.g15_12, hC.g15_14, hC.g15_15, hC.g15_16, hC.g15_17, hC.g15_18, hC.g27_0, hC.g29_3, hC.g29_4, hC.g29_5, hC.g29_6, hC.g29_7, hC.g29_8, hC.g29_9, hC.g29_10, hC.g38_0, hC.g40_0, hC.s0_2, hC.s1_0, hC.s1_1, hC.s1_4, hC.s1_6, hC.s1_8, hC.s1_10, hC.s1_13, hC.s13_1, hC.s15_0, hC.s15_1, hC.s15_4, hC.s15_6, hC.s15_8, hC.s15_10, hC.s15_13, hC.s27_1, hC.s29_0, hC.s29_1, hC.s29_2, hC.s29_11, hC.s29_12, hC.s38_1, hC.s40_1, hC.s40_2, hC.l2, hC.l3, hC.l8, hC.l9, hC.l10, hC.l11, hC.l12, hC.l14, hC.l16, hC.l17, hC.l22, hC.l23, hC.l24, hC.l25, hC.l26, hC.l28, hC.l30, hC.l31, hC.l32, hC.l33, hC.l34, hC.l36, hC.l37, hC.l39, hC.l41, hC.l43, hC.l44, hC.l45, hC.l46, hC.l47, hC.l48, hC.l49, hC.l50, hC.l51, hC.l52, hC.l53, hC.l54, hC.l35, hC.n33, hC.n36, hC.dl R W, hC.fl R W, hC.ll R W, hC.tl R W, R.d1, R.d2, R.d3, R.d4, R.dn, R.da, R.f1, R.f2, R.f3, R.f4, R.fn, R.fa, R.t1, R.t2, R.t3, R.t4, R.t5, R.tn, R.ta, R.l0, R.l1, R.l2, R.l3, R.l7, R.ln, R.lv, R.r5, R.r6, R.r8, R.r13, R.r4, R.r10, R.r11, R.r12, R.r9, R.mt, R.ml, R.lg, R.lp, R.lr, R.lo W, R.ls W, R.1.1, R.1.2.1, R.1.2.2.1, R.1.2.2.2.1, R.1.2.2.2.2.1, R.1.2.2.2.2.2.1, R.1.2.2.2.2.2.2, R.born, R.good, R.unw, R.hp, R.hf, R.ht, mb_eq (C_isPerson hC R W _)]
      (repeat' split) <;> first | with_reducible rfl | omega
    · have := B_deed (h := H) hM W hp hk hd
      unfold uDeed at this
      rw [if_neg c] at this
      exact this
theorem gPutZ_b {α : Type} {ts : List Nat} {a k : Nat} {q : Int} (hq : q = 0 ∨ q = 1) (f : Unit → gM α) : mb (gPutZ ts a k (iI q)) f = mb (gPutI ts a k (iI q)) f := by
  have e : gPutZ ts a k (iI q) = gPutI ts a k (iI q) := by
    funext s
    unfold gPutZ
    rw [if_pos]
    rcases hq with rfl | rfl
    · exact Or.inl rfl
    · exact Or.inr rfl
  rw [e]
theorem C_addFinding (hC : OKC h) (R : RDs 1 sg rho h) (W : WD sg) (hl : 84 ≤ h.1.length) {d f q : Int} (hd : 0 ≤ d ∧ d < sg 1 2) (hf : 0 ≤ f ∧ f ≤ 15) (hq : q = 0 ∨ q = 1) (h8 : sg 1 3 ≠ 24) :
    ∃ h', hOne1 h h' 3 5 5 (sg 1 3).toNat ∧ (h'.2.1 h.1.length 0 = iI (sg 1 3) ∧ h'.2.1 h.1.length 1 = iI f ∧ h'.2.2 h.1.length 2 = some (dP h d) ∧ h'.2.1 h.1.length 3 = iI q ∧ h'.2.1 h.1.length 4 = iI (sg 1 0)) ∧ m1_addFinding 1 (iI d) (iI f) (iI q) (cK rho h) = some (iI (sg 1 3), cK (s3 rho 1 6 (sg 1 3 + 1)) h') := by
  have n3 := W.n3
  have n2 := W.n2
  have n0 := W.n0
  have hl55 : 55 ≤ h.1.length := by omega
  have C1 : OKC (hNew h 3 5) := hC.of (fun q x hq => hNew_old hq) (fun a ha _ _ _ _ => by
    unfold hNew
    funext j
    dsimp only
    rw [if_neg (by omega)])
  have hat := hNew_at (h := h) (t := 3) (n := 5)
  have h5 : (hNew h 3 5).1[5]? = some (103, 24) := C1.1 5 (by omega)
  have h4 : (hNew h 3 5).1[4]? = some (102, 16) := C1.1 4 (by omega)
  have hdp : (hNew h 3 5).2.2 4 d.toNat = some (dP h d) := by
    unfold hNew
    dsimp only
    rw [if_neg (by omega)]
    exact (R.de hd.1 hd.2).1
  have C2 : OKC (hPr (hPt (hPt (hPr (hPt (hPt (hNew h 3 5) h.1.length 0 (sg 1 3)) h.1.length 1 f) h.1.length 2 (dP h d)) h.1.length 3 q) h.1.length 4 (sg 1 0)) 5 (sg 1 3).toNat h.1.length) := C1.of (fun q x hq => hq) (fun a ha a4 a5 _ _ => by
    unfold hPr hPt u2
    funext j
    dsimp only
    rw [if_neg (fun q => a5 q.1), if_neg (fun q => by have := q.1; omega)])
  have main : m1_addFinding 1 (iI d) (iI f) (iI q) (cK rho h) = some (iI (sg 1 3), cK (s3 rho 1 6 (sg 1 3 + 1)) (hPr (hPt (hPt (hPr (hPt (hPt (hNew h 3 5) h.1.length 0 (sg 1 3)) h.1.length 1 f) h.1.length 2 (dP h d)) h.1.length 3 q) h.1.length 4 (sg 1 0)) 5 (sg 1 3).toNat h.1.length)) := by
    unfold m1_addFinding m3_init m6_init
    simp only [mb_as, mb_mp, gPutZ_b hq]
    rw [hC.g1_7, hC.s1_6, R.1.2.2.2.1, cK_new hl55, C1.s1_6, R.1.2.2.2.1, C1.g1_5, ldR_ok (x := dP h d) _ (cK rho (hNew h 3 5)) h4 hd.1 (by omega) (by omega) hdp, C1.s1_0, R.1.1]
    rw [cK_put (t := 3) (n := 5) hl55 ?_ rfl, cK_put (t := 3) (n := 5) hl55 ?_ rfl, cK_putR (t := 3) (n := 5) ?_ rfl, cK_put (t := 3) (n := 5) hl55 ?_ rfl, cK_put (t := 3) (n := 5) hl55 ?_ rfl, cK_stR (t := 103) (n := 24) (tx := 3) (nx := 5) ?_ n3.1 (by omega) (by omega) ?_ rfl]
    · rw [C2.s1_6, R.1.2.2.2.1]
      simp (config := { maxSteps := 1000000 }) (disch := first | assumption | exact W.i _ _ | exact sLine_i W _ _ _ | exact W1.i _ _ | exact hg _ _ | exact W3.i _ _ | (refine ⟨?_, ?_⟩ <;> omega) | omega | (simp only [sW_1, sW_2, sW_3, sW_4, sW_5, sW_8] <;> first | assumption | omega | (refine ⟨?_, ?_⟩ <;> omega)) | (simp only [sT_1, sT_2, sT_3, sT_4, sT_5, sT_8] <;> first | assumption | omega | (refine ⟨?_, ?_⟩ <;> omega))) only [Int.reduceEq, Int.reduceLT, Int.reduceLE, Int.reduceNeg, Int.reduceAdd, Int.reduceSub, Int.reduceMul, if_true, if_false, not_true, not_false_eq_true, false_or, or_false, true_or, or_true, true_and, and_true, false_and, and_false, iI_on, iI_mul, iI_add, iI_sub, iI_neg, ap_if, mp_eq, mz_0, mz_1, mz_b, b2_0, b2_1, iI_lt, iI_le, iI_inj, mb_div, mb_rem, C2.p1_6]
    · exact h5
    all_goals exact hat
  refine ⟨_, ⟨rfl, fun q hq => ?_, fun q hq hA => ?_, fun j => ?_⟩, ⟨?_, ?_, ?_, ?_, ?_⟩, main⟩
  · unfold hPr hPt hNew u2
    funext j
    simp [hq]
  · unfold hPr hPt hNew u2
    funext j
    simp [hq, hA]
  · unfold hPr hPt hNew u2
    dsimp only
    have : ¬ 5 = h.1.length := by omega
    by_cases c : j = (sg 1 3).toNat
    · simp [c]
    · simp [c, this]
  · unfold hPr hPt hNew u2; simp
  · unfold hPr hPt hNew u2; simp
  · unfold hPr hPt hNew u2
    have : ¬ h.1.length = 5 := by omega
    simp [this]
  · unfold hPr hPt hNew u2; simp
  · unfold hPr hPt hNew u2; simp
theorem RDs_find (hC : OKC h) (R : RDs 1 sg rho h) (W : WD sg) (hl : 84 ≤ h.1.length) {h' : gH} {d f q : Int} (hd : 0 ≤ d ∧ d < sg 1 2) (H1 : hOne1 h h' 3 5 5 (sg 1 3).toNat) (hv : h'.2.1 h.1.length 0 = iI (sg 1 3) ∧ h'.2.1 h.1.length 1 = iI f ∧ h'.2.2 h.1.length 2 = some (dP h d) ∧ h'.2.1 h.1.length 3 = iI q ∧ h'.2.1 h.1.length 4 = iI (sg 1 0)) :
    RDs 1 (s3 (s3 (s3 (s3 (s3 sg 4 (4 * sg 1 3) d) 4 (4 * sg 1 3 + 1) f) 4 (4 * sg 1 3 + 2) q) 4 (4 * sg 1 3 + 3) (sg 1 0)) 1 3 (sg 1 3 + 1)) (s3 rho 1 6 (sg 1 3 + 1)) h' := by
  have n3 := W.n3
  obtain ⟨f0, f1, f2, f3, f4⟩ := hv
  have e4 : h'.2.2 4 = h.2.2 4 := H1.2.2.1 4 (by omega) (by omega)
  refine ⟨⟨R.1.1, R.1.2.1, R.1.2.2.1, rfl, R.1.2.2.2.2⟩, R.2.1, ?_, ?_, ?_, ?_, R.2.2.2.2.2.2⟩
  · intro i h0 h1
    obtain ⟨q, a, b⟩ := R.2.2.1 i h0 h1
    exact ⟨q, by show h'.2.2 4 _ = _; rw [e4]; exact a, isDeedO.ext H1.old (H1.k2 (by omega)) b⟩
  · intro i h0 h1
    simp (disch := omega) only [s3_at] at h1
    by_cases ci : i = sg 1 3
    · subst ci
      refine ⟨h.1.length, by show h'.2.2 5 _ = _; rw [H1.2.2.2, if_pos rfl], ?_⟩
      unfold isFindO
      simp (disch := omega) only [s3_at, s3_nk, s3_nj]
      refine ⟨hl, H1.at, f0, f1, ?_, f3, f4⟩
      rw [f2]
      show _ = some (dpt h'.2.2 4 d)
      unfold dP dpt
      rw [e4]
    · obtain ⟨q, a, b⟩ := R.2.2.2.1 i h0 (by omega)
      refine ⟨q, by show h'.2.2 5 _ = _; rw [H1.2.2.2, if_neg (by omega)]; exact a, ?_⟩
      have b := isFindO.ext H1.old (H1.k2 (by omega)) (by show dpt h'.2.2 4 _ = _; unfold dpt; rw [e4]) b
      unfold isFindO at b ⊢
      simp (disch := omega) only [s3_nk, s3_nj]
      exact b
  · intro i h0 h1
    obtain ⟨q, a, b⟩ := R.2.2.2.2.1 i h0 h1
    exact ⟨q, by show h'.2.2 6 _ = _; rw [H1.2.2.1 6 (by omega) (by omega)]; exact a, isLawO.ext H1.old (H1.k2 (by omega)) b⟩
  · intro i h0 h1
    obtain ⟨q, a, b⟩ := R.2.2.2.2.2.1 i h0 h1
    exact ⟨q, by show h'.2.2 7 _ = _; rw [H1.2.2.1 7 (by omega) (by omega)]; exact a, isTermO.ext H1.old (H1.k2 (by omega)) (by show dpt h'.2.2 4 _ = _; unfold dpt; rw [e4]) b⟩
theorem WX_find {d f q : Int} (X : WX sg) : WX (s3 (s3 (s3 (s3 (s3 sg 4 (4 * sg 1 3) d) 4 (4 * sg 1 3 + 1) f) 4 (4 * sg 1 3 + 2) q) 4 (4 * sg 1 3 + 3) (sg 1 0)) 1 3 (sg 1 3 + 1)) := ((((X.s (by omega) (by omega)).s (by omega) (by omega)).s (by omega) (by omega)).s (by omega) (by omega)).s (by omega) (by omega)
theorem WY_find {d f q : Int} (W : WD sg) (h8 : sg 1 3 ≠ 24) (Y : WY sg) : WY (s3 (s3 (s3 (s3 (s3 sg 4 (4 * sg 1 3) d) 4 (4 * sg 1 3 + 1) f) 4 (4 * sg 1 3 + 2) q) 4 (4 * sg 1 3 + 3) (sg 1 0)) 1 3 (sg 1 3 + 1)) := by
  have n3 := W.n3
  exact ((((Y.s (by omega) (by omega) ⟨by omega, by show _ < (96 : Int); omega⟩).s (by omega) (by omega) ⟨by omega, by show _ < (96 : Int); omega⟩).s (by omega) (by omega) ⟨by omega, by show _ < (96 : Int); omega⟩).s (by omega) (by omega) ⟨by omega, by show _ < (96 : Int); omega⟩).s (by omega) (by omega) ⟨by omega, by decide⟩
theorem C_areFacts {f : Int} (hf : i32 f) (s : gH) : m11_areFacts (iI f) s = some (iI (b2 (0 ≤ f ∧ f ≤ 15)), s) := by
  unfold m11_areFacts m11_areFacts_p14
  (repeat' (first | simp (config := { maxSteps := 1000000 }) (disch := first | assumption | exact W.i _ _ | exact sLine_i W _ _ _ | exact W1.i _ _ | exact hg _ _ | exact W3.i _ _ | (refine ⟨?_, ?_⟩ <;> omega) | omega | (simp only [sW_1, sW_2, sW_3, sW_4, sW_5, sW_8] <;> first | assumption | omega | (refine ⟨?_, ?_⟩ <;> omega)) | (simp only [sT_1, sT_2, sT_3, sT_4, sT_5, sT_8] <;> first | assumption | omega | (refine ⟨?_, ?_⟩ <;> omega))) only [Int.reduceEq, Int.reduceLT, Int.reduceLE, Int.reduceNeg, Int.reduceAdd, Int.reduceSub, Int.reduceMul, if_true, if_false, not_true, not_false_eq_true, false_or, or_false, true_or, or_true, true_and, and_true, false_and, and_false, iI_on, iI_mul, iI_add, iI_sub, iI_neg, ap_if, mp_eq, mz_0, mz_1, mz_b, b2_0, b2_1, iI_lt, iI_le, iI_inj, mb_div, mb_rem, m11_areFacts_p15] | split)) <;> (first | with_reducible rfl | omega | rfl | (subst_vars; rfl) | (simp only [*, Int.add_zero]; done) | (rw [b2_t (by omega)]; done) | (rw [b2_f (by omega)]; done) | (rw [b2_f (by omega), Int.add_zero]))
theorem T_finding (I : Inv sg rho h) {d f q : Int} (hd : i32 d) (hf : i32 f) (hq : q = 0 ∨ q = 1) : Both (m11_finding 0 (iI d) (iI f) (iI q)) (m12_finding 55 (iI d) (iI f) (iI q)) rho h := by
  have hC := I.1.1
  have hL := I.1.2.1
  have hg := I.1.2.2.1
  have hl := I.1.2.2.2.1
  have R := I.1.2.2.2.2.1
  have W := I.2.1
  have n3 := W.n3
  by_cases c : (0 ≤ d ∧ d < sg 1 2) ∧ 0 ≤ f ∧ f ≤ 15
  · by_cases c2 : sg 1 3 = 24
    · refine both_q (r := iI (oFind sg d f)) I ?_ (fun H hM => ?_)
      · unfold m11_finding oFind
        rw [if_pos c, if_pos c2]
        simp (config := { maxSteps := 1000000 }) (disch := first | assumption | exact W.i _ _ | exact sLine_i W _ _ _ | exact W1.i _ _ | exact hg _ _ | exact W3.i _ _ | (refine ⟨?_, ?_⟩ <;> omega) | omega | (simp only [sW_1, sW_2, sW_3, sW_4, sW_5, sW_8] <;> first | assumption | omega | (refine ⟨?_, ?_⟩ <;> omega)) | (simp only [sT_1, sT_2, sT_3, sT_4, sT_5, sT_8] <;> first | assumption | omega | (refine ⟨?_, ?_⟩ <;> omega))) only [Int.reduceEq, Int.reduceLT, Int.reduceLE, Int.reduceNeg, Int.reduceAdd, Int.reduceSub, Int.reduceMul, if_true, if_false, not_true, not_false_eq_true, false_or, or_false, true_or, or_true, true_and, and_true, false_and, and_false, iI_on, iI_mul, iI_add, iI_sub, iI_neg, ap_if, mp_eq, mz_0, mz_1, mz_b, b2_0, b2_1, iI_lt, iI_le, iI_inj, mb_div, mb_rem, hC.m0, hC.m1, hC.m13, hC.m15, hC.m27, hC.m29, hC.m38, hC.m40, hC.g0_0, hC.g0_1, hC.g0_3, hC.g0_4, hC.g0_5, hC.g0_6, hC.g0_7, hC.g0_8, hC.g0_9, hC.g0_10, hC.g0_11, hC.g0_12, hC.g0_13, hC.g0_14, hC.g1_2, hC.g1_3, hC.g1_5, hC.g1_7, hC.g1_9, hC.g1_11, hC.g1_12, hC.g1_14, hC.g1_15, hC.g1_16, hC.g1_17, hC.g1_18, hC.g13_0, hC.g15_2, hC.g15_3, hC.g15_5, hC.g15_7, hC.g15_9, hC.g15_11, hC.g15_12, hC.g15_14, hC.g15_15, hC.g15_16, hC.g15_17, hC.g15_18, hC.g27_0, hC.g29_3, hC.g29_4, hC.g29_5, hC.g29_6, hC.g29_7, hC.g29_8, hC.g29_9, hC.g29_10, hC.g38_0, hC.g40_0, hC.s0_2, hC.s1_0, hC.s1_1, hC.s1_4, hC.s1_6, hC.s1_8, hC.s1_10, hC.s1_13, hC.s13_1, hC.s15_0, hC.s15_1, hC.s15_4, hC.s15_6, hC.s15_8, hC.s15_10, hC.s15_13, hC.s27_1, hC.s29_0, hC.s29_1, hC.s29_2, hC.s29_11, hC.s29_12, hC.s38_1, hC.s40_1, hC.s40_2, hC.l2, hC.l3, hC.l8, hC.l9, hC.l10, hC.l11, hC.l12, hC.l14, hC.l16, hC.l17, hC.l22, hC.l23, hC.l24, hC.l25, hC.l26, hC.l28, hC.l30, hC.l31, hC.l32, hC.l33, hC.l34, hC.l36, hC.l37, hC.l39, hC.l41, hC.l43, hC.l44, hC.l45, hC.l46, hC.l47, hC.l48, hC.l49, hC.l50, hC.l51, hC.l52, hC.l53, hC.l54, hC.l35, hC.n33, hC.n36, hC.dl R W, hC.fl R W, hC.ll R W, hC.tl R W, R.d1, R.d2, R.d3, R.d4, R.dn, R.da, R.f1, R.f2, R.f3, R.f4, R.fn, R.fa, R.t1, R.t2, R.t3, R.t4, R.t5, R.tn, R.ta, R.l0, R.l1, R.l2, R.l3, R.l7, R.ln, R.lv, R.r5, R.r6, R.r8, R.r13, R.r4, R.r10, R.r11, R.r12, R.r9, R.mt, R.ml, R.lg, R.lp, R.lr, R.lo W, R.ls W, R.1.1, R.1.2.1, R.1.2.2.1, R.1.2.2.2.1, R.1.2.2.2.2.1, R.1.2.2.2.2.2.1, R.1.2.2.2.2.2.2, R.born, R.good, R.unw, R.hp, R.hf, R.ht, hC.p0_2, hC.p1_0, hC.p1_1, hC.p1_4, hC.p1_6, hC.p1_8, hC.p1_10, hC.p1_13, hC.p13_1, hC.p15_0, hC.p15_1, hC.p15_4, hC.p15_6, hC.p15_8, hC.p15_10, hC.p15_13, hC.p27_1, hC.p29_0, hC.p29_1, hC.p29_2, hC.p29_11, hC.p29_12, hC.p38_1, hC.p40_1, hC.p40_2, hC.w2, hC.w3, hC.w8, hC.w9, hC.w10, hC.w11, hC.w12, hC.w14, hC.w16, hC.w17, hC.w22, hC.w23, hC.w24, hC.w25, hC.w26, hC.w28, hC.w30, hC.w31, hC.w32, hC.w33, hC.w34, hC.w36, hC.w37, hC.w39, hC.w41, hC.w43, hC.w44, hC.w45, hC.w46, hC.w47, hC.w48, hC.w49, hC.w50, hC.w51, hC.w52, hC.w53, hC.w54, s3_at, s3_nk, s3_nj, mb_eq (C_isDeed hC R W _), c.1.1, c.1.2, mb_eq (C_areFacts _ _), c.2.1, c.2.2, show ¬ sg 1 3 < 24 by omega]
      · have := B_finding (h := H) hM W hd hf hq
        unfold uFind at this
        rw [if_pos c, if_pos c2] at this
        exact this
    · obtain ⟨h', H1, hv, e⟩ := C_addFinding hC R W hl c.1 c.2 hq c2
      refine both_of (r := iI (oFind sg d f)) (rho' := s3 rho 1 6 (sg 1 3 + 1)) (sg' := uFind sg d f q) I ?_ ?_ (H1.hg hl (by omega) (by omega)) (fun H hM => B_finding hM W hd hf hq) ?_ ?_ ?_
      · unfold m11_finding oFind
        rw [if_pos c, if_neg c2]
        simp (config := { maxSteps := 1000000 }) (disch := first | assumption | exact W.i _ _ | exact sLine_i W _ _ _ | exact W1.i _ _ | exact hg _ _ | exact W3.i _ _ | (refine ⟨?_, ?_⟩ <;> omega) | omega | (simp only [sW_1, sW_2, sW_3, sW_4, sW_5, sW_8] <;> first | assumption | omega | (refine ⟨?_, ?_⟩ <;> omega)) | (simp only [sT_1, sT_2, sT_3, sT_4, sT_5, sT_8] <;> first | assumption | omega | (refine ⟨?_, ?_⟩ <;> omega))) only [Int.reduceEq, Int.reduceLT, Int.reduceLE, Int.reduceNeg, Int.reduceAdd, Int.reduceSub, Int.reduceMul, if_true, if_false, not_true, not_false_eq_true, false_or, or_false, true_or, or_true, true_and, and_true, false_and, and_false, iI_on, iI_mul, iI_add, iI_sub, iI_neg, ap_if, mp_eq, mz_0, mz_1, mz_b, b2_0, b2_1, iI_lt, iI_le, iI_inj, mb_div, mb_rem, hC.m0, hC.m1, hC.m13, hC.m15, hC.m27, hC.m29, hC.m38, hC.m40, hC.g0_0, hC.g0_1, hC.g0_3, hC.g0_4, hC.g0_5, hC.g0_6, hC.g0_7, hC.g0_8, hC.g0_9, hC.g0_10, hC.g0_11, hC.g0_12, hC.g0_13, hC.g0_14, hC.g1_2, hC.g1_3, hC.g1_5, hC.g1_7, hC.g1_9, hC.g1_11, hC.g1_12, hC.g1_14, hC.g1_15, hC.g1_16, hC.g1_17, hC.g1_18, hC.g13_0, hC.g15_2, hC.g15_3, hC.g15_5, hC.g15_7, hC.g15_9, hC.g15_11, hC.g15_12, hC.g15_14, hC.g15_15, hC.g15_16, hC.g15_17, hC.g15_18, hC.g27_0, hC.g29_3, hC.g29_4, hC.g29_5, hC.g29_6, hC.g29_7, hC.g29_8, hC.g29_9, hC.g29_10, hC.g38_0, hC.g40_0, hC.s0_2, hC.s1_0, hC.s1_1, hC.s1_4, hC.s1_6, hC.s1_8, hC.s1_10, hC.s1_13, hC.s13_1, hC.s15_0, hC.s15_1, hC.s15_4, hC.s15_6, hC.s15_8, hC.s15_10, hC.s15_13, hC.s27_1, hC.s29_0, hC.s29_1, hC.s29_2, hC.s29_11, hC.s29_12, hC.s38_1, hC.s40_1, hC.s40_2, hC.l2, hC.l3, hC.l8, hC.l9, hC.l10, hC.l11, hC.l12, hC.l14, hC.l16, hC.l17, hC.l22, hC.l23, hC.l24, hC.l25, hC.l26, hC.l28, hC.l30, hC.l31, hC.l32, hC.l33, hC.l34, hC.l36, hC.l37, hC.l39, hC.l41, hC.l43, hC.l44, hC.l45, hC.l46, hC.l47, hC.l48, hC.l49, hC.l50, hC.l51, hC.l52, hC.l53, hC.l54, hC.l35, hC.n33, hC.n36, hC.dl R W, hC.fl R W, hC.ll R W, hC.tl R W, R.d1, R.d2, R.d3, R.d4, R.dn, R.da, R.f1, R.f2, R.f3, R.f4, R.fn, R.fa, R.t1, R.t2, R.t3, R.t4, R.t5, R.tn, R.ta, R.l0, R.l1, R.l2, R.l3, R.l7, R.ln, R.lv, R.r5, R.r6, R.r8, R.r13, R.r4, R.r10, R.r11, R.r12, R.r9, R.mt, R.ml, R.lg, R.lp, R.lr, R.lo W, R.ls W, R.1.1, R.1.2.1, R.1.2.2.1, R.1.2.2.2.1, R.1.2.2.2.2.1, R.1.2.2.2.2.2.1, R.1.2.2.2.2.2.2, R.born, R.good, R.unw, R.hp, R.hf, R.ht, hC.p0_2, hC.p1_0, hC.p1_1, hC.p1_4, hC.p1_6, hC.p1_8, hC.p1_10, hC.p1_13, hC.p13_1, hC.p15_0, hC.p15_1, hC.p15_4, hC.p15_6, hC.p15_8, hC.p15_10, hC.p15_13, hC.p27_1, hC.p29_0, hC.p29_1, hC.p29_2, hC.p29_11, hC.p29_12, hC.p38_1, hC.p40_1, hC.p40_2, hC.w2, hC.w3, hC.w8, hC.w9, hC.w10, hC.w11, hC.w12, hC.w14, hC.w16, hC.w17, hC.w22, hC.w23, hC.w24, hC.w25, hC.w26, hC.w28, hC.w30, hC.w31, hC.w32, hC.w33, hC.w34, hC.w36, hC.w37, hC.w39, hC.w41, hC.w43, hC.w44, hC.w45, hC.w46, hC.w47, hC.w48, hC.w49, hC.w50, hC.w51, hC.w52, hC.w53, hC.w54, s3_at, s3_nk, s3_nj, mb_eq (C_isDeed hC R W _), c.1.1, c.1.2, mb_eq (C_areFacts _ _), c.2.1, c.2.2, show sg 1 3 < 24 by omega, mb_eq e]
      · unfold uFind
        rw [if_pos c, if_neg c2]
        exact I.1.up (fun q hq => by rw [s3_o (by omega), s3_o (by omega), s3_o (by omega), s3_o (by omega), s3_o (by omega)]) (fun q hq => s3_o (by omega)) (hg.s ⟨by omega, by omega⟩) (H1.ok hC (by omega) hl) (hL.of H1.1 (by omega)) (RDs_find hC R W hl c.1 H1 hv) H1.old (H1.k2 (by omega)) (fun q a b => H1.2.2.1 q (by omega) (by omega))
      · unfold uFind
        rw [if_pos c, if_neg c2]
        exact WD_find W c.1 c.2 hq c2
      · unfold uFind
        rw [if_pos c, if_neg c2]
        exact WX_find I.2.2.1
      · unfold uFind
        rw [if_pos c, if_neg c2]
        exact WY_find W c2 I.2.2.2.1
  · refine both_q (r := iI (oFind sg d f)) I ?_ (fun H hM => ?_)
    · unfold m11_finding oFind m11_finding_p18
      rw [if_neg c]
      simp (config := { maxSteps := 1000000 }) (disch := first | assumption | exact W.i _ _ | exact sLine_i W _ _ _ | exact W1.i _ _ | exact hg _ _ | exact W3.i _ _ | (refine ⟨?_, ?_⟩ <;> omega) | omega | (simp only [sW_1, sW_2, sW_3, sW_4, sW_5, sW_8] <;> first | assumption | omega | (refine ⟨?_, ?_⟩ <;> omega)) | (simp only [sT_1, sT_2, sT_3, sT_4, sT_5, sT_8] <;> first | assumption | omega | (refine ⟨?_, ?_⟩ <;> omega))) only [Int.reduceEq, Int.reduceLT, Int.reduceLE, Int.reduceNeg, Int.reduceAdd, Int.reduceSub, Int.reduceMul, if_true, if_false, not_true, not_false_eq_true, false_or, or_false, true_or, or_true, true_and, and_true, false_and, and_false, iI_on, iI_mul, iI_add, iI_sub, iI_neg, ap_if, mp_eq, mz_0, mz_1, mz_b, b2_0, b2_1, iI_lt, iI_le, iI_inj, mb_div, mb_rem, hC.m0, hC.m1, hC.m13, hC.m15, hC.m27, hC.m29, hC.m38, hC.m40, hC.g0_0, hC.g0_1, hC.g0_3, hC.g0_4, hC.g0_5, hC.g0_6, hC.g0_7, hC.g0_8, hC.g0_9, hC.g0_10, hC.g0_11, hC.g0_12, hC.g0_13, hC.g0_14, hC.g1_2, hC.g1_3, hC.g1_5, hC.g1_7, hC.g1_9, hC.g1_11, hC.g1_12, hC.g1_14, hC.g1_15, hC.g1_16, hC.g1_17, hC.g1_18, hC.g13_0, hC.g15_2, hC.g15_3, hC.g15_5, hC.g15_7, hC.g15_9, hC.g15_11, hC.g15_12, hC.g15_14, hC.g15_15, hC.g15_16, hC.g15_17, hC.g15_18, hC.g27_0, hC.g29_3, hC.g29_4, hC.g29_5, hC.g29_6, hC.g29_7, hC.g29_8, hC.g29_9, hC.g29_10, hC.g38_0, hC.g40_0, hC.s0_2, hC.s1_0, hC.s1_1, hC.s1_4, hC.s1_6, hC.s1_8, hC.s1_10, hC.s1_13, hC.s13_1, hC.s15_0, hC.s15_1, hC.s15_4, hC.s15_6, hC.s15_8, hC.s15_10, hC.s15_13, hC.s27_1, hC.s29_0, hC.s29_1, hC.s29_2, hC.s29_11, hC.s29_12, hC.s38_1, hC.s40_1, hC.s40_2, hC.l2, hC.l3, hC.l8, hC.l9, hC.l10, hC.l11, hC.l12, hC.l14, hC.l16, hC.l17, hC.l22, hC.l23, hC.l24, hC.l25, hC.l26, hC.l28, hC.l30, hC.l31, hC.l32, hC.l33, hC.l34, hC.l36, hC.l37, hC.l39, hC.l41, hC.l43, hC.l44, hC.l45, hC.l46, hC.l47, hC.l48, hC.l49, hC.l50, hC.l51, hC.l52, hC.l53, hC.l54, hC.l35, hC.n33, hC.n36, hC.dl R W, hC.fl R W, hC.ll R W, hC.tl R W, R.d1, R.d2, R.d3, R.d4, R.dn, R.da, R.f1, R.f2, R.f3, R.f4, R.fn, R.fa, R.t1, R.t2, R.t3, R.t4, R.t5, R.tn, R.ta, R.l0, R.l1, R.l2, R.l3, R.l7, R.ln, R.lv, R.r5, R.r6, R.r8, R.r13, R.r4, R.r10, R.r11, R.r12, R.r9, R.mt, R.ml, R.lg, R.lp, R.lr, R.lo W, R.ls W, R.1.1, R.1.2.1, R.1.2.2.1, R.1.2.2.2.1, R.1.2.2.2.2.1, R.1.2.2.2.2.2.1, R.1.2.2.2.2.2.2, R.born, R.good, R.unw, R.hp, R.hf, R.ht, mb_eq (C_isDeed hC R W _), mb_eq (C_areFacts _ _)]
      (repeat' split) <;> first | with_reducible rfl | omega
    · have := B_finding (h := H) hM W hd hf hq
      unfold uFind at this
      rw [if_neg c] at this
      exact this
theorem C_addTerm (hC : OKC h) (R : RDs 1 sg rho h) (W : WD sg) (hl : 84 ≤ h.1.length) {d co m w : Int} (hd : 0 ≤ d ∧ d < sg 1 2) (hw : 0 ≤ w ∧ w / 10 ≤ 3 ∧ w % 10 ≤ 1) (h8 : sg 1 5 ≠ 16) :
    ∃ h', hOne1 h h' (if w % 10 = 1 then 2 else 7) 6 7 (sg 1 5).toNat ∧ (h'.2.1 h.1.length 0 = iI (sg 1 5) ∧ h'.2.1 h.1.length 1 = iI m ∧ h'.2.2 h.1.length 2 = some (dP h d) ∧ h'.2.1 h.1.length 3 = iI co ∧ h'.2.1 h.1.length 4 = iI (w / 10) ∧ h'.2.1 h.1.length 5 = iI (sg 1 0)) ∧ m1_addTerm 1 (iI d) (iI co) (iI m) (iI w) (cK rho h) = some (iI (sg 1 5), cK (s3 (s3 rho 8 (sg 1 5) 10000) 1 10 (sg 1 5 + 1)) h') := by
  have n5 := W.n5
  have n2 := W.n2
  have n0 := W.n0
  have hl55 : 55 ≤ h.1.length := by omega
  have e1 : w.tdiv 10 = w / 10 := Int.tdiv_eq_ediv_of_nonneg hw.1
  have e2 : w.tmod 10 = w % 10 := Int.tmod_eq_emod_of_nonneg hw.1
  have key : ∀ t : Nat, (t = 2 ∨ t = 7) → ∃ h', hOne1 h h' t 6 7 (sg 1 5).toNat ∧ (h'.2.1 h.1.length 0 = iI (sg 1 5) ∧ h'.2.1 h.1.length 1 = iI m ∧ h'.2.2 h.1.length 2 = some (dP h d) ∧ h'.2.1 h.1.length 3 = iI co ∧ h'.2.1 h.1.length 4 = iI (w / 10) ∧ h'.2.1 h.1.length 5 = iI (sg 1 0)) ∧ (mb (gNew t 6) fun r13 => (mb (gGetI [1] 1 10) fun x14 => (mb (gGetR [1] 1 5) fun r15 => (mb (gLdR 102 r15 (iI d)) fun r16 => (mb (gDiv (iI w) (iI 10)) fun x17 => (mb (gGetI [1] 1 0) fun x18 => (mb (m8_init r13 x14 (iI m) r16 (iI co) x17 x18) fun _ => (m1_addTerm_p76 1 7 (iI (sg 1 5)) r13)))))))) (cK rho h) = some (iI (sg 1 5), cK (s3 (s3 rho 8 (sg 1 5) 10000) 1 10 (sg 1 5 + 1)) h') := by
    intro t ht
    have C1 : OKC (hNew h t 6) := hC.of (fun q x hq => hNew_old hq) (fun a ha _ _ _ _ => by
      unfold hNew
      funext j
      dsimp only
      rw [if_neg (by omega)])
    have t1 : ([7, 2] : List Nat).contains t = true := by rcases ht with rfl | rfl <;> rfl
    have t2 : ([0, 2, 3, 4, 7, 9] : List Nat).contains t = true := by rcases ht with rfl | rfl <;> rfl
    have hat := hNew_at (h := h) (t := t) (n := 6)
    have h7 : (hNew h t 6).1[7]? = some (105, 16) := C1.1 7 (by omega)
    have h4 : (hNew h t 6).1[4]? = some (102, 16) := C1.1 4 (by omega)
    have hdp : (hNew h t 6).2.2 4 d.toNat = some (dP h d) := by
      unfold hNew
      dsimp only
      rw [if_neg (by omega)]
      exact (R.de hd.1 hd.2).1
    have C2 : OKC (hPr (hPt (hPt (hPt (hPr (hPt (hPt (hNew h t 6) h.1.length 0 (sg 1 5)) h.1.length 1 m) h.1.length 2 (dP h d)) h.1.length 3 co) h.1.length 4 (w / 10)) h.1.length 5 (sg 1 0)) 7 (sg 1 5).toNat h.1.length) := C1.of (fun q x hq => hq) (fun a ha a4 a5 _ a7 => by
      unfold hPr hPt u2
      funext j
      dsimp only
      rw [if_neg (fun q => a7 q.1), if_neg (fun q => by have := q.1; omega)])
    have main : (mb (gNew t 6) fun r13 => (mb (gGetI [1] 1 10) fun x14 => (mb (gGetR [1] 1 5) fun r15 => (mb (gLdR 102 r15 (iI d)) fun r16 => (mb (gDiv (iI w) (iI 10)) fun x17 => (mb (gGetI [1] 1 0) fun x18 => (mb (m8_init r13 x14 (iI m) r16 (iI co) x17 x18) fun _ => (m1_addTerm_p76 1 7 (iI (sg 1 5)) r13)))))))) (cK rho h) = some (iI (sg 1 5), cK (s3 (s3 rho 8 (sg 1 5) 10000) 1 10 (sg 1 5 + 1)) (hPr (hPt (hPt (hPt (hPr (hPt (hPt (hNew h t 6) h.1.length 0 (sg 1 5)) h.1.length 1 m) h.1.length 2 (dP h d)) h.1.length 3 co) h.1.length 4 (w / 10)) h.1.length 5 (sg 1 0)) 7 (sg 1 5).toNat h.1.length)) := by
      unfold m8_init m6_init m1_addTerm_p76
      simp only [mb_as, mb_mp]
      rw [cK_new hl55, C1.s1_10, R.1.2.2.2.2.2.1, C1.g1_5, ldR_ok (x := dP h d) _ (cK rho (hNew h t 6)) h4 hd.1 (by omega) (by omega) hdp, mb_div _ _ (by omega) (by omega) (by omega), e1, C1.s1_0, R.1.1]
      rw [cK_put (t := t) (n := 6) hl55 ?_ t2, cK_put (t := t) (n := 6) hl55 ?_ t2, cK_putR (t := t) (n := 6) ?_ t1, cK_put (t := t) (n := 6) hl55 ?_ t1, cK_put (t := t) (n := 6) hl55 ?_ t1, cK_put (t := t) (n := 6) hl55 ?_ t1, cK_stR (t := 105) (n := 16) (tx := t) (nx := 6) ?_ n5.1 (by omega) (by omega) ?_ t1]
      · have er := R.1.2.2.2.2.2.1
        have er2 : s3 rho 8 (sg 1 5) 10000 1 10 = sg 1 5 := er
        simp (config := { maxSteps := 1000000 }) (disch := first | assumption | exact W.i _ _ | exact sLine_i W _ _ _ | exact W1.i _ _ | exact hg _ _ | exact W3.i _ _ | (refine ⟨?_, ?_⟩ <;> omega) | omega | (simp only [sW_1, sW_2, sW_3, sW_4, sW_5, sW_8] <;> first | assumption | omega | (refine ⟨?_, ?_⟩ <;> omega)) | (simp only [sT_1, sT_2, sT_3, sT_4, sT_5, sT_8] <;> first | assumption | omega | (refine ⟨?_, ?_⟩ <;> omega))) only [Int.reduceEq, Int.reduceLT, Int.reduceLE, Int.reduceNeg, Int.reduceAdd, Int.reduceSub, Int.reduceMul, if_true, if_false, not_true, not_false_eq_true, false_or, or_false, true_or, or_true, true_and, and_true, false_and, and_false, iI_on, iI_mul, iI_add, iI_sub, iI_neg, ap_if, mp_eq, mz_0, mz_1, mz_b, b2_0, b2_1, iI_lt, iI_le, iI_inj, mb_div, mb_rem, C2.g1_12, C2.s1_10, er, er2, C2.w8, C2.p1_10]
      · exact h7
      all_goals exact hat
    refine ⟨_, ⟨rfl, fun q hq => ?_, fun q hq hA => ?_, fun j => ?_⟩, ⟨?_, ?_, ?_, ?_, ?_, ?_⟩, main⟩
    · unfold hPr hPt hNew u2
      funext j
      simp [hq]
    · unfold hPr hPt hNew u2
      funext j
      simp [hq, hA]
    · unfold hPr hPt hNew u2
      dsimp only
      have : ¬ 7 = h.1.length := by omega
      by_cases c : j = (sg 1 5).toNat
      · simp [c]
      · simp [c, this]
    · unfold hPr hPt hNew u2; simp
    · unfold hPr hPt hNew u2; simp
    · unfold hPr hPt hNew u2
      have : ¬ h.1.length = 7 := by omega
      simp [this]
    · unfold hPr hPt hNew u2; simp
    · unfold hPr hPt hNew u2; simp
    · unfold hPr hPt hNew u2; simp
  by_cases c : w % 10 = 1
  · obtain ⟨h', a, b, e⟩ := key 2 (Or.inl rfl)
    refine ⟨h', by rw [if_pos c]; exact a, b, ?_⟩
    unfold m1_addTerm m2_init
    simp only [mb_as, mb_mp]
    simp (config := { maxSteps := 1000000 }) (disch := first | assumption | exact W.i _ _ | exact sLine_i W _ _ _ | exact W1.i _ _ | exact hg _ _ | exact W3.i _ _ | (refine ⟨?_, ?_⟩ <;> omega) | omega | (simp only [sW_1, sW_2, sW_3, sW_4, sW_5, sW_8] <;> first | assumption | omega | (refine ⟨?_, ?_⟩ <;> omega)) | (simp only [sT_1, sT_2, sT_3, sT_4, sT_5, sT_8] <;> first | assumption | omega | (refine ⟨?_, ?_⟩ <;> omega))) only [Int.reduceEq, Int.reduceLT, Int.reduceLE, Int.reduceNeg, Int.reduceAdd, Int.reduceSub, Int.reduceMul, if_true, if_false, not_true, not_false_eq_true, false_or, or_false, true_or, or_true, true_and, and_true, false_and, and_false, iI_on, iI_mul, iI_add, iI_sub, iI_neg, ap_if, mp_eq, mz_0, mz_1, mz_b, b2_0, b2_1, iI_lt, iI_le, iI_inj, mb_div, mb_rem, hC.m0, hC.m1, hC.m13, hC.m15, hC.m27, hC.m29, hC.m38, hC.m40, hC.g0_0, hC.g0_1, hC.g0_3, hC.g0_4, hC.g0_5, hC.g0_6, hC.g0_7, hC.g0_8, hC.g0_9, hC.g0_10, hC.g0_11, hC.g0_12, hC.g0_13, hC.g0_14, hC.g1_2, hC.g1_3, hC.g1_5, hC.g1_7, hC.g1_9, hC.g1_11, hC.g1_12, hC.g1_14, hC.g1_15, hC.g1_16, hC.g1_17, hC.g1_18, hC.g13_0, hC.g15_2, hC.g15_3, hC.g15_5, hC.g15_7, hC.g15_9, hC.g15_11, hC.g15_12, hC.g15_14, hC.g15_15, hC.g15_16, hC.g15_17, hC.g15_18, hC.g27_0, hC.g29_3, hC.g29_4, hC.g29_5, hC.g29_6, hC.g29_7, hC.g29_8, hC.g29_9, hC.g29_10, hC.g38_0, hC.g40_0, hC.s0_2, hC.s1_0, hC.s1_1, hC.s1_4, hC.s1_6, hC.s1_8, hC.s1_10, hC.s1_13, hC.s13_1, hC.s15_0, hC.s15_1, hC.s15_4, hC.s15_6, hC.s15_8, hC.s15_10, hC.s15_13, hC.s27_1, hC.s29_0, hC.s29_1, hC.s29_2, hC.s29_11, hC.s29_12, hC.s38_1, hC.s40_1, hC.s40_2, hC.l2, hC.l3, hC.l8, hC.l9, hC.l10, hC.l11, hC.l12, hC.l14, hC.l16, hC.l17, hC.l22, hC.l23, hC.l24, hC.l25, hC.l26, hC.l28, hC.l30, hC.l31, hC.l32, hC.l33, hC.l34, hC.l36, hC.l37, hC.l39, hC.l41, hC.l43, hC.l44, hC.l45, hC.l46, hC.l47, hC.l48, hC.l49, hC.l50, hC.l51, hC.l52, hC.l53, hC.l54, hC.l35, hC.n33, hC.n36, hC.dl R W, hC.fl R W, hC.ll R W, hC.tl R W, R.d1, R.d2, R.d3, R.d4, R.dn, R.da, R.f1, R.f2, R.f3, R.f4, R.fn, R.fa, R.t1, R.t2, R.t3, R.t4, R.t5, R.tn, R.ta, R.l0, R.l1, R.l2, R.l3, R.l7, R.ln, R.lv, R.r5, R.r6, R.r8, R.r13, R.r4, R.r10, R.r11, R.r12, R.r9, R.mt, R.ml, R.lg, R.lp, R.lr, R.lo W, R.ls W, R.1.1, R.1.2.1, R.1.2.2.1, R.1.2.2.2.1, R.1.2.2.2.2.1, R.1.2.2.2.2.2.1, R.1.2.2.2.2.2.2, R.born, R.good, R.unw, R.hp, R.hf, R.ht, e2, c]
    exact e
  · obtain ⟨h', a, b, e⟩ := key 7 (Or.inr rfl)
    refine ⟨h', by rw [if_neg c]; exact a, b, ?_⟩
    unfold m1_addTerm
    simp (config := { maxSteps := 1000000 }) (disch := first | assumption | exact W.i _ _ | exact sLine_i W _ _ _ | exact W1.i _ _ | exact hg _ _ | exact W3.i _ _ | (refine ⟨?_, ?_⟩ <;> omega) | omega | (simp only [sW_1, sW_2, sW_3, sW_4, sW_5, sW_8] <;> first | assumption | omega | (refine ⟨?_, ?_⟩ <;> omega)) | (simp only [sT_1, sT_2, sT_3, sT_4, sT_5, sT_8] <;> first | assumption | omega | (refine ⟨?_, ?_⟩ <;> omega))) only [Int.reduceEq, Int.reduceLT, Int.reduceLE, Int.reduceNeg, Int.reduceAdd, Int.reduceSub, Int.reduceMul, if_true, if_false, not_true, not_false_eq_true, false_or, or_false, true_or, or_true, true_and, and_true, false_and, and_false, iI_on, iI_mul, iI_add, iI_sub, iI_neg, ap_if, mp_eq, mz_0, mz_1, mz_b, b2_0, b2_1, iI_lt, iI_le, iI_inj, mb_div, mb_rem, hC.m0, hC.m1, hC.m13, hC.m15, hC.m27, hC.m29, hC.m38, hC.m40, hC.g0_0, hC.g0_1, hC.g0_3, hC.g0_4, hC.g0_5, hC.g0_6, hC.g0_7, hC.g0_8, hC.g0_9, hC.g0_10, hC.g0_11, hC.g0_12, hC.g0_13, hC.g0_14, hC.g1_2, hC.g1_3, hC.g1_5, hC.g1_7, hC.g1_9, hC.g1_11, hC.g1_12, hC.g1_14, hC.g1_15, hC.g1_16, hC.g1_17, hC.g1_18, hC.g13_0, hC.g15_2, hC.g15_3, hC.g15_5, hC.g15_7, hC.g15_9, hC.g15_11, hC.g15_12, hC.g15_14, hC.g15_15, hC.g15_16, hC.g15_17, hC.g15_18, hC.g27_0, hC.g29_3, hC.g29_4, hC.g29_5, hC.g29_6, hC.g29_7, hC.g29_8, hC.g29_9, hC.g29_10, hC.g38_0, hC.g40_0, hC.s0_2, hC.s1_0, hC.s1_1, hC.s1_4, hC.s1_6, hC.s1_8, hC.s1_10, hC.s1_13, hC.s13_1, hC.s15_0, hC.s15_1, hC.s15_4, hC.s15_6, hC.s15_8, hC.s15_10, hC.s15_13, hC.s27_1, hC.s29_0, hC.s29_1, hC.s29_2, hC.s29_11, hC.s29_12, hC.s38_1, hC.s40_1, hC.s40_2, hC.l2, hC.l3, hC.l8, hC.l9, hC.l10, hC.l11, hC.l12, hC.l14, hC.l16, hC.l17, hC.l22, hC.l23, hC.l24, hC.l25, hC.l26, hC.l28, hC.l30, hC.l31, hC.l32, hC.l33, hC.l34, hC.l36, hC.l37, hC.l39, hC.l41, hC.l43, hC.l44, hC.l45, hC.l46, hC.l47, hC.l48, hC.l49, hC.l50, hC.l51, hC.l52, hC.l53, hC.l54, hC.l35, hC.n33, hC.n36, hC.dl R W, hC.fl R W, hC.ll R W, hC.tl R W, R.d1, R.d2, R.d3, R.d4, R.dn, R.da, R.f1, R.f2, R.f3, R.f4, R.fn, R.fa, R.t1, R.t2, R.t3, R.t4, R.t5, R.tn, R.ta, R.l0, R.l1, R.l2, R.l3, R.l7, R.ln, R.lv, R.r5, R.r6, R.r8, R.r13, R.r4, R.r10, R.r11, R.r12, R.r9, R.mt, R.ml, R.lg, R.lp, R.lr, R.lo W, R.ls W, R.1.1, R.1.2.1, R.1.2.2.1, R.1.2.2.2.1, R.1.2.2.2.2.1, R.1.2.2.2.2.2.1, R.1.2.2.2.2.2.2, R.born, R.good, R.unw, R.hp, R.hf, R.ht, e2, c]
    exact e
theorem C_isCourt {a : Int} (ha : i32 a) (s : gH) : m11_isCourt (iI a) s = some (iI (b2 (0 ≤ a ∧ a ≤ 4)), s) := by
  unfold m11_isCourt m11_isCourt_p13
  (repeat' (first | simp (config := { maxSteps := 1000000 }) (disch := first | assumption | exact W.i _ _ | exact sLine_i W _ _ _ | exact W1.i _ _ | exact hg _ _ | exact W3.i _ _ | (refine ⟨?_, ?_⟩ <;> omega) | omega | (simp only [sW_1, sW_2, sW_3, sW_4, sW_5, sW_8] <;> first | assumption | omega | (refine ⟨?_, ?_⟩ <;> omega)) | (simp only [sT_1, sT_2, sT_3, sT_4, sT_5, sT_8] <;> first | assumption | omega | (refine ⟨?_, ?_⟩ <;> omega))) only [Int.reduceEq, Int.reduceLT, Int.reduceLE, Int.reduceNeg, Int.reduceAdd, Int.reduceSub, Int.reduceMul, if_true, if_false, not_true, not_false_eq_true, false_or, or_false, true_or, or_true, true_and, and_true, false_and, and_false, iI_on, iI_mul, iI_add, iI_sub, iI_neg, ap_if, mp_eq, mz_0, mz_1, mz_b, b2_0, b2_1, iI_lt, iI_le, iI_inj, mb_div, mb_rem, m11_isCourt_p14] | split)) <;> (first | with_reducible rfl | omega | rfl | (subst_vars; rfl) | (simp only [*, Int.add_zero]; done) | (rw [b2_t (by omega)]; done) | (rw [b2_f (by omega)]; done) | (rw [b2_f (by omega), Int.add_zero]))
theorem T_term (I : Inv sg rho h) {d co m w : Int} (hd : i32 d) (hc : i32 co) (hm : i32 m) (hw : i32 w) : Both (m11_term 0 (iI d) (iI co) (iI m) (iI w)) (m12_term 55 (iI d) (iI co) (iI m) (iI w)) rho h := by
  have hC := I.1.1
  have hL := I.1.2.1
  have hg := I.1.2.2.1
  have hl := I.1.2.2.2.1
  have R := I.1.2.2.2.2.1
  have W := I.2.1
  have n5 := W.n5
  have n2 := W.n2
  have n0 := W.n0
  have e1 : 0 ≤ w → w.tdiv 10 = w / 10 := fun q => Int.tdiv_eq_ediv_of_nonneg q
  have e2 : 0 ≤ w → w.tmod 10 = w % 10 := fun q => Int.tmod_eq_emod_of_nonneg q
  have ht := sTerm_b W d (sg 1 0)
  have io : i32 (orN (sTerm sg d (sg 1 0))) := by unfold orN; split <;> exact ⟨by omega, by omega⟩
  by_cases c : termOK sg d co m w
  · have ew := e1 c.2.1
    have ew2 := e2 c.2.1
    by_cases c2 : 0 ≤ sTerm sg d (sg 1 0)
    · have e3 : ¬ orN (sTerm sg d (sg 1 0)) = -3 := by unfold orN; split <;> omega
      refine both_q (r := iI (oTerm sg d co m w)) I ?_ (fun H hM => ?_)
      · unfold m11_term oTerm
        rw [if_pos c, if_pos c2]
        simp (config := { maxSteps := 1000000 }) (disch := first | assumption | exact W.i _ _ | exact sLine_i W _ _ _ | exact W1.i _ _ | exact hg _ _ | exact W3.i _ _ | (refine ⟨?_, ?_⟩ <;> omega) | omega | (simp only [sW_1, sW_2, sW_3, sW_4, sW_5, sW_8] <;> first | assumption | omega | (refine ⟨?_, ?_⟩ <;> omega)) | (simp only [sT_1, sT_2, sT_3, sT_4, sT_5, sT_8] <;> first | assumption | omega | (refine ⟨?_, ?_⟩ <;> omega))) only [Int.reduceEq, Int.reduceLT, Int.reduceLE, Int.reduceNeg, Int.reduceAdd, Int.reduceSub, Int.reduceMul, if_true, if_false, not_true, not_false_eq_true, false_or, or_false, true_or, or_true, true_and, and_true, false_and, and_false, iI_on, iI_mul, iI_add, iI_sub, iI_neg, ap_if, mp_eq, mz_0, mz_1, mz_b, b2_0, b2_1, iI_lt, iI_le, iI_inj, mb_div, mb_rem, hC.m0, hC.m1, hC.m13, hC.m15, hC.m27, hC.m29, hC.m38, hC.m40, hC.g0_0, hC.g0_1, hC.g0_3, hC.g0_4, hC.g0_5, hC.g0_6, hC.g0_7, hC.g0_8, hC.g0_9, hC.g0_10, hC.g0_11, hC.g0_12, hC.g0_13, hC.g0_14, hC.g1_2, hC.g1_3, hC.g1_5, hC.g1_7, hC.g1_9, hC.g1_11, hC.g1_12, hC.g1_14, hC.g1_15, hC.g1_16, hC.g1_17, hC.g1_18, hC.g13_0, hC.g15_2, hC.g15_3, hC.g15_5, hC.g15_7, hC.g15_9, hC.g15_11, hC.g15_12, hC.g15_14, hC.g15_15, hC.g15_16, hC.g15_17, hC.g15_18, hC.g27_0, hC.g29_3, hC.g29_4, hC.g29_5, hC.g29_6, hC.g29_7, hC.g29_8, hC.g29_9, hC.g29_10, hC.g38_0, hC.g40_0, hC.s0_2, hC.s1_0, hC.s1_1, hC.s1_4, hC.s1_6, hC.s1_8, hC.s1_10, hC.s1_13, hC.s13_1, hC.s15_0, hC.s15_1, hC.s15_4, hC.s15_6, hC.s15_8, hC.s15_10, hC.s15_13, hC.s27_1, hC.s29_0, hC.s29_1, hC.s29_2, hC.s29_11, hC.s29_12, hC.s38_1, hC.s40_1, hC.s40_2, hC.l2, hC.l3, hC.l8, hC.l9, hC.l10, hC.l11, hC.l12, hC.l14, hC.l16, hC.l17, hC.l22, hC.l23, hC.l24, hC.l25, hC.l26, hC.l28, hC.l30, hC.l31, hC.l32, hC.l33, hC.l34, hC.l36, hC.l37, hC.l39, hC.l41, hC.l43, hC.l44, hC.l45, hC.l46, hC.l47, hC.l48, hC.l49, hC.l50, hC.l51, hC.l52, hC.l53, hC.l54, hC.l35, hC.n33, hC.n36, hC.dl R W, hC.fl R W, hC.ll R W, hC.tl R W, R.d1, R.d2, R.d3, R.d4, R.dn, R.da, R.f1, R.f2, R.f3, R.f4, R.fn, R.fa, R.t1, R.t2, R.t3, R.t4, R.t5, R.tn, R.ta, R.l0, R.l1, R.l2, R.l3, R.l7, R.ln, R.lv, R.r5, R.r6, R.r8, R.r13, R.r4, R.r10, R.r11, R.r12, R.r9, R.mt, R.ml, R.lg, R.lp, R.lr, R.lo W, R.ls W, R.1.1, R.1.2.1, R.1.2.2.1, R.1.2.2.2.1, R.1.2.2.2.2.1, R.1.2.2.2.2.2.1, R.1.2.2.2.2.2.2, R.born, R.good, R.unw, R.hp, R.hf, R.ht, mb_eq (C_isDeed hC R W _), c.1.1.1.1, c.1.1.1.2, mb_eq (C_isCourt _ _), c.1.1.2.1, c.1.1.2.2, show ¬ m < 0 by omega, c.1.2.2, show ¬ w < 0 by omega, ew, ew2, show ¬ 4 ≤ w / 10 by omega, c.2.2.2, mb_eq (C_termOf hC R W _ _ _), e3]
      · have := B_term (h := H) hM W hd hc hm hw
        unfold uTerm at this
        rw [if_pos c, if_pos c2] at this
        exact this
    · have e3 : orN (sTerm sg d (sg 1 0)) = -3 := if_pos (by omega)
      by_cases c3 : sg 1 5 = 16
      · refine both_q (r := iI (oTerm sg d co m w)) I ?_ (fun H hM => ?_)
        · unfold m11_term oTerm
          rw [if_pos c, if_neg c2, if_pos c3]
          simp (config := { maxSteps := 1000000 }) (disch := first | assumption | exact W.i _ _ | exact sLine_i W _ _ _ | exact W1.i _ _ | exact hg _ _ | exact W3.i _ _ | (refine ⟨?_, ?_⟩ <;> omega) | omega | (simp only [sW_1, sW_2, sW_3, sW_4, sW_5, sW_8] <;> first | assumption | omega | (refine ⟨?_, ?_⟩ <;> omega)) | (simp only [sT_1, sT_2, sT_3, sT_4, sT_5, sT_8] <;> first | assumption | omega | (refine ⟨?_, ?_⟩ <;> omega))) only [Int.reduceEq, Int.reduceLT, Int.reduceLE, Int.reduceNeg, Int.reduceAdd, Int.reduceSub, Int.reduceMul, if_true, if_false, not_true, not_false_eq_true, false_or, or_false, true_or, or_true, true_and, and_true, false_and, and_false, iI_on, iI_mul, iI_add, iI_sub, iI_neg, ap_if, mp_eq, mz_0, mz_1, mz_b, b2_0, b2_1, iI_lt, iI_le, iI_inj, mb_div, mb_rem, hC.m0, hC.m1, hC.m13, hC.m15, hC.m27, hC.m29, hC.m38, hC.m40, hC.g0_0, hC.g0_1, hC.g0_3, hC.g0_4, hC.g0_5, hC.g0_6, hC.g0_7, hC.g0_8, hC.g0_9, hC.g0_10, hC.g0_11, hC.g0_12, hC.g0_13, hC.g0_14, hC.g1_2, hC.g1_3, hC.g1_5, hC.g1_7, hC.g1_9, hC.g1_11, hC.g1_12, hC.g1_14, hC.g1_15, hC.g1_16, hC.g1_17, hC.g1_18, hC.g13_0, hC.g15_2, hC.g15_3, hC.g15_5, hC.g15_7, hC.g15_9, hC.g15_11, hC.g15_12, hC.g15_14, hC.g15_15, hC.g15_16, hC.g15_17, hC.g15_18, hC.g27_0, hC.g29_3, hC.g29_4, hC.g29_5, hC.g29_6, hC.g29_7, hC.g29_8, hC.g29_9, hC.g29_10, hC.g38_0, hC.g40_0, hC.s0_2, hC.s1_0, hC.s1_1, hC.s1_4, hC.s1_6, hC.s1_8, hC.s1_10, hC.s1_13, hC.s13_1, hC.s15_0, hC.s15_1, hC.s15_4, hC.s15_6, hC.s15_8, hC.s15_10, hC.s15_13, hC.s27_1, hC.s29_0, hC.s29_1, hC.s29_2, hC.s29_11, hC.s29_12, hC.s38_1, hC.s40_1, hC.s40_2, hC.l2, hC.l3, hC.l8, hC.l9, hC.l10, hC.l11, hC.l12, hC.l14, hC.l16, hC.l17, hC.l22, hC.l23, hC.l24, hC.l25, hC.l26, hC.l28, hC.l30, hC.l31, hC.l32, hC.l33, hC.l34, hC.l36, hC.l37, hC.l39, hC.l41, hC.l43, hC.l44, hC.l45, hC.l46, hC.l47, hC.l48, hC.l49, hC.l50, hC.l51, hC.l52, hC.l53, hC.l54, hC.l35, hC.n33, hC.n36, hC.dl R W, hC.fl R W, hC.ll R W, hC.tl R W, R.d1, R.d2, R.d3, R.d4, R.dn, R.da, R.f1, R.f2, R.f3, R.f4, R.fn, R.fa, R.t1, R.t2, R.t3, R.t4, R.t5, R.tn, R.ta, R.l0, R.l1, R.l2, R.l3, R.l7, R.ln, R.lv, R.r5, R.r6, R.r8, R.r13, R.r4, R.r10, R.r11, R.r12, R.r9, R.mt, R.ml, R.lg, R.lp, R.lr, R.lo W, R.ls W, R.1.1, R.1.2.1, R.1.2.2.1, R.1.2.2.2.1, R.1.2.2.2.2.1, R.1.2.2.2.2.2.1, R.1.2.2.2.2.2.2, R.born, R.good, R.unw, R.hp, R.hf, R.ht, mb_eq (C_isDeed hC R W _), c.1.1.1.1, c.1.1.1.2, mb_eq (C_isCourt _ _), c.1.1.2.1, c.1.1.2.2, show ¬ m < 0 by omega, c.1.2.2, show ¬ w < 0 by omega, ew, ew2, show ¬ 4 ≤ w / 10 by omega, c.2.2.2, mb_eq (C_termOf hC R W _ _ _), e3, show ¬ sg 1 5 < 16 by omega]
        · have := B_term (h := H) hM W hd hc hm hw
          unfold uTerm at this
          rw [if_pos c, if_neg c2, if_pos c3] at this
          exact this
      · obtain ⟨h', H1, ⟨f0, f1, f2, f3, f4, f5⟩, e⟩ := C_addTerm hC R W hl c.1.1.1 (co := co) (m := m) c.2 c3
        have e4 : h'.2.2 4 = h.2.2 4 := H1.2.2.1 4 (by omega) (by omega)
        refine both_of (r := iI (oTerm sg d co m w)) (rho' := s3 (s3 rho 8 (sg 1 5) 10000) 1 10 (sg 1 5 + 1)) (sg' := uTerm sg d co m w) I ?_ ?_ (H1.hg hl (by omega) (by omega)) (fun H hM => B_term hM W hd hc hm hw) ?_ ?_ ?_
        · unfold m11_term oTerm
          rw [if_pos c, if_neg c2, if_neg c3]
          simp (config := { maxSteps := 1000000 }) (disch := first | assumption | exact W.i _ _ | exact sLine_i W _ _ _ | exact W1.i _ _ | exact hg _ _ | exact W3.i _ _ | (refine ⟨?_, ?_⟩ <;> omega) | omega | (simp only [sW_1, sW_2, sW_3, sW_4, sW_5, sW_8] <;> first | assumption | omega | (refine ⟨?_, ?_⟩ <;> omega)) | (simp only [sT_1, sT_2, sT_3, sT_4, sT_5, sT_8] <;> first | assumption | omega | (refine ⟨?_, ?_⟩ <;> omega))) only [Int.reduceEq, Int.reduceLT, Int.reduceLE, Int.reduceNeg, Int.reduceAdd, Int.reduceSub, Int.reduceMul, if_true, if_false, not_true, not_false_eq_true, false_or, or_false, true_or, or_true, true_and, and_true, false_and, and_false, iI_on, iI_mul, iI_add, iI_sub, iI_neg, ap_if, mp_eq, mz_0, mz_1, mz_b, b2_0, b2_1, iI_lt, iI_le, iI_inj, mb_div, mb_rem, hC.m0, hC.m1, hC.m13, hC.m15, hC.m27, hC.m29, hC.m38, hC.m40, hC.g0_0, hC.g0_1, hC.g0_3, hC.g0_4, hC.g0_5, hC.g0_6, hC.g0_7, hC.g0_8, hC.g0_9, hC.g0_10, hC.g0_11, hC.g0_12, hC.g0_13, hC.g0_14, hC.g1_2, hC.g1_3, hC.g1_5, hC.g1_7, hC.g1_9, hC.g1_11, hC.g1_12, hC.g1_14, hC.g1_15, hC.g1_16, hC.g1_17, hC.g1_18, hC.g13_0, hC.g15_2, hC.g15_3, hC.g15_5, hC.g15_7, hC.g15_9, hC.g15_11, hC.g15_12, hC.g15_14, hC.g15_15, hC.g15_16, hC.g15_17, hC.g15_18, hC.g27_0, hC.g29_3, hC.g29_4, hC.g29_5, hC.g29_6, hC.g29_7, hC.g29_8, hC.g29_9, hC.g29_10, hC.g38_0, hC.g40_0, hC.s0_2, hC.s1_0, hC.s1_1, hC.s1_4, hC.s1_6, hC.s1_8, hC.s1_10, hC.s1_13, hC.s13_1, hC.s15_0, hC.s15_1, hC.s15_4, hC.s15_6, hC.s15_8, hC.s15_10, hC.s15_13, hC.s27_1, hC.s29_0, hC.s29_1, hC.s29_2, hC.s29_11, hC.s29_12, hC.s38_1, hC.s40_1, hC.s40_2, hC.l2, hC.l3, hC.l8, hC.l9, hC.l10, hC.l11, hC.l12, hC.l14, hC.l16, hC.l17, hC.l22, hC.l23, hC.l24, hC.l25, hC.l26, hC.l28, hC.l30, hC.l31, hC.l32, hC.l33, hC.l34, hC.l36, hC.l37, hC.l39, hC.l41, hC.l43, hC.l44, hC.l45, hC.l46, hC.l47, hC.l48, hC.l49, hC.l50, hC.l51, hC.l52, hC.l53, hC.l54, hC.l35, hC.n33, hC.n36, hC.dl R W, hC.fl R W, hC.ll R W, hC.tl R W, R.d1, R.d2, R.d3, R.d4, R.dn, R.da, R.f1, R.f2, R.f3, R.f4, R.fn, R.fa, R.t1, R.t2, R.t3, R.t4, R.t5, R.tn, R.ta, R.l0, R.l1, R.l2, R.l3, R.l7, R.ln, R.lv, R.r5, R.r6, R.r8, R.r13, R.r4, R.r10, R.r11, R.r12, R.r9, R.mt, R.ml, R.lg, R.lp, R.lr, R.lo W, R.ls W, R.1.1, R.1.2.1, R.1.2.2.1, R.1.2.2.2.1, R.1.2.2.2.2.1, R.1.2.2.2.2.2.1, R.1.2.2.2.2.2.2, R.born, R.good, R.unw, R.hp, R.hf, R.ht, mb_eq (C_isDeed hC R W _), c.1.1.1.1, c.1.1.1.2, mb_eq (C_isCourt _ _), c.1.1.2.1, c.1.1.2.2, show ¬ m < 0 by omega, c.1.2.2, show ¬ w < 0 by omega, ew, ew2, show ¬ 4 ≤ w / 10 by omega, c.2.2.2, mb_eq (C_termOf hC R W _ _ _), e3, show sg 1 5 < 16 by omega, mb_eq e]
        · unfold uTerm
          rw [if_pos c, if_neg c2, if_neg c3]
          refine I.1.up (fun q hq => by rw [s3_o (by omega), s3_o (by omega), s3_o (by omega), s3_o (by omega), s3_o (by omega), s3_o (by omega), s3_o (by omega), s3_o (by omega)]) (fun q hq => by rw [s3_o (by omega), s3_o (by omega)]) ((hg.s ⟨by omega, by omega⟩).s ⟨by omega, by omega⟩) (H1.ok hC (by omega) hl) (hL.of H1.1 (by split <;> omega)) ⟨⟨R.1.1, R.1.2.1, R.1.2.2.1, R.1.2.2.2.1, R.1.2.2.2.2.1, rfl, R.1.2.2.2.2.2.2⟩, R.2.1, ?_, ?_, ?_, ?_, ?_, R.2.2.2.2.2.2.2⟩ H1.old (H1.k2 (by omega)) (fun q a b => H1.2.2.1 q (by omega) (by omega))
          · intro i h0 h1
            obtain ⟨q, a, b⟩ := R.2.2.1 i h0 h1
            exact ⟨q, by show h'.2.2 4 _ = _; rw [e4]; exact a, isDeedO.ext H1.old (H1.k2 (by omega)) b⟩
          · intro i h0 h1
            obtain ⟨q, a, b⟩ := R.2.2.2.1 i h0 h1
            exact ⟨q, by show h'.2.2 5 _ = _; rw [H1.2.2.1 5 (by omega) (by omega)]; exact a, isFindO.ext H1.old (H1.k2 (by omega)) (by show dpt h'.2.2 4 _ = _; unfold dpt; rw [e4]) b⟩
          · intro i h0 h1
            obtain ⟨q, a, b⟩ := R.2.2.2.2.1 i h0 h1
            exact ⟨q, by show h'.2.2 6 _ = _; rw [H1.2.2.1 6 (by omega) (by omega)]; exact a, isLawO.ext H1.old (H1.k2 (by omega)) b⟩
          · intro i h0 h1
            simp (disch := omega) only [s3_at] at h1
            by_cases ci : i = sg 1 5
            · subst ci
              refine ⟨h.1.length, by show h'.2.2 7 _ = _; rw [H1.2.2.2, if_pos rfl], ?_⟩
              unfold isTermO
              simp (disch := omega) only [s3_at, s3_nk, s3_nj]
              refine ⟨hl, H1.at, f0, f1, ?_, f3, f4, f5⟩
              rw [f2]
              show _ = some (dpt h'.2.2 4 d)
              unfold dP dpt
              rw [e4]
            · obtain ⟨q, a, b⟩ := R.2.2.2.2.2.1 i h0 (by omega)
              refine ⟨q, by show h'.2.2 7 _ = _; rw [H1.2.2.2, if_neg (by omega)]; exact a, ?_⟩
              have b := isTermO.ext H1.old (H1.k2 (by omega)) (by show dpt h'.2.2 4 _ = _; unfold dpt; rw [e4]) b
              unfold isTermO at b ⊢
              simp (disch := omega) only [s3_nk, s3_nj]
              exact b
          · intro i h0 h1
            simp (disch := omega) only [s3_at] at h1
            show s3 (s3 rho 8 (sg 1 5) 10000) 1 10 (sg 1 5 + 1) 8 i = _
            by_cases ci : i = sg 1 5
            · subst ci
              simp (disch := omega) only [s3_at, s3_nk, s3_nj, if_true]
            · have := R.2.2.2.2.2.2.1 i h0 (by omega)
              simp (disch := omega) only [s3_nk, s3_nj]
              exact this
        · unfold uTerm
          rw [if_pos c, if_neg c2, if_neg c3]
          exact WD_term W c.1.1.1 c.1.1.2 c.1.2 c.2 c2 c3
        · unfold uTerm
          rw [if_pos c, if_neg c2, if_neg c3]
          exact (((((((I.2.2.1.s (by omega) (by omega)).s (by omega) (by omega)).s (by omega) (by omega)).s (by omega) (by omega)).s (by omega) (by omega)).s (by omega) (by omega)).s (by omega) (by omega)).s (by omega) (by omega)
        · unfold uTerm
          rw [if_pos c, if_neg c2, if_neg c3]
          exact (((((((I.2.2.2.1.s (by omega) (by omega) ⟨by omega, by show _ < (112 : Int); omega⟩).s (by omega) (by omega) ⟨by omega, by show _ < (112 : Int); omega⟩).s (by omega) (by omega) ⟨by omega, by show _ < (112 : Int); omega⟩).s (by omega) (by omega) ⟨by omega, by show _ < (112 : Int); omega⟩).s (by omega) (by omega) ⟨by omega, by show _ < (112 : Int); omega⟩).s (by omega) (by omega) ⟨by omega, by show _ < (112 : Int); omega⟩).s (by omega) (by omega) ⟨by omega, by show _ < (112 : Int); omega⟩).s (by omega) (by omega) ⟨by omega, by decide⟩
  · refine both_q (r := iI (oTerm sg d co m w)) I ?_ (fun H hM => ?_)
    · unfold m11_term oTerm m11_term_p29 m11_term_p54
      rw [if_neg c]
      by_cases cw : 0 ≤ w
      · simp (config := { maxSteps := 1000000 }) (disch := first | assumption | exact W.i _ _ | exact sLine_i W _ _ _ | exact W1.i _ _ | exact hg _ _ | exact W3.i _ _ | (refine ⟨?_, ?_⟩ <;> omega) | omega | (simp only [sW_1, sW_2, sW_3, sW_4, sW_5, sW_8] <;> first | assumption | omega | (refine ⟨?_, ?_⟩ <;> omega)) | (simp only [sT_1, sT_2, sT_3, sT_4, sT_5, sT_8] <;> first | assumption | omega | (refine ⟨?_, ?_⟩ <;> omega))) only [Int.reduceEq, Int.reduceLT, Int.reduceLE, Int.reduceNeg, Int.reduceAdd, Int.reduceSub, Int.reduceMul, if_true, if_false, not_true, not_false_eq_true, false_or, or_false, true_or, or_true, true_and, and_true, false_and, and_false, iI_on, iI_mul, iI_add, iI_sub, iI_neg, ap_if, mp_eq, mz_0, mz_1, mz_b, b2_0, b2_1, iI_lt, iI_le, iI_inj, mb_div, mb_rem, hC.m0, hC.m1, hC.m13, hC.m15, hC.m27, hC.m29, hC.m38, hC.m40, hC.g0_0, hC.g0_1, hC.g0_3, hC.g0_4, hC.g0_5, hC.g0_6, hC.g0_7, hC.g0_8, hC.g0_9, hC.g0_10, hC.g0_11, hC.g0_12, hC.g0_13, hC.g0_14, hC.g1_2, hC.g1_3, hC.g1_5, hC.g1_7, hC.g1_9, hC.g1_11, hC.g1_12, hC.g1_14, hC.g1_15, hC.g1_16, hC.g1_17, hC.g1_18, hC.g13_0, hC.g15_2, hC.g15_3, hC.g15_5, hC.g15_7, hC.g15_9, hC.g15_11, hC.g15_12, hC.g15_14, hC.g15_15, hC.g15_16, hC.g15_17, hC.g15_18, hC.g27_0, hC.g29_3, hC.g29_4, hC.g29_5, hC.g29_6, hC.g29_7, hC.g29_8, hC.g29_9, hC.g29_10, hC.g38_0, hC.g40_0, hC.s0_2, hC.s1_0, hC.s1_1, hC.s1_4, hC.s1_6, hC.s1_8, hC.s1_10, hC.s1_13, hC.s13_1, hC.s15_0, hC.s15_1, hC.s15_4, hC.s15_6, hC.s15_8, hC.s15_10, hC.s15_13, hC.s27_1, hC.s29_0, hC.s29_1, hC.s29_2, hC.s29_11, hC.s29_12, hC.s38_1, hC.s40_1, hC.s40_2, hC.l2, hC.l3, hC.l8, hC.l9, hC.l10, hC.l11, hC.l12, hC.l14, hC.l16, hC.l17, hC.l22, hC.l23, hC.l24, hC.l25, hC.l26, hC.l28, hC.l30, hC.l31, hC.l32, hC.l33, hC.l34, hC.l36, hC.l37, hC.l39, hC.l41, hC.l43, hC.l44, hC.l45, hC.l46, hC.l47, hC.l48, hC.l49, hC.l50, hC.l51, hC.l52, hC.l53, hC.l54, hC.l35, hC.n33, hC.n36, hC.dl R W, hC.fl R W, hC.ll R W, hC.tl R W, R.d1, R.d2, R.d3, R.d4, R.dn, R.da, R.f1, R.f2, R.f3, R.f4, R.fn, R.fa, R.t1, R.t2, R.t3, R.t4, R.t5, R.tn, R.ta, R.l0, R.l1, R.l2, R.l3, R.l7, R.ln, R.lv, R.r5, R.r6, R.r8, R.r13, R.r4, R.r10, R.r11, R.r12, R.r9, R.mt, R.ml, R.lg, R.lp, R.lr, R.lo W, R.ls W, R.1.1, R.1.2.1, R.1.2.2.1, R.1.2.2.2.1, R.1.2.2.2.2.1, R.1.2.2.2.2.2.1, R.1.2.2.2.2.2.2, R.born, R.good, R.unw, R.hp, R.hf, R.ht, mb_eq (C_isDeed hC R W _), mb_eq (C_isCourt _ _), e1 cw, e2 cw]
        (repeat' split) <;> first | with_reducible rfl | omega
      · simp (config := { maxSteps := 1000000 }) (disch := first | assumption | exact W.i _ _ | exact sLine_i W _ _ _ | exact W1.i _ _ | exact hg _ _ | exact W3.i _ _ | (refine ⟨?_, ?_⟩ <;> omega) | omega | (simp only [sW_1, sW_2, sW_3, sW_4, sW_5, sW_8] <;> first | assumption | omega | (refine ⟨?_, ?_⟩ <;> omega)) | (simp only [sT_1, sT_2, sT_3, sT_4, sT_5, sT_8] <;> first | assumption | omega | (refine ⟨?_, ?_⟩ <;> omega))) only [Int.reduceEq, Int.reduceLT, Int.reduceLE, Int.reduceNeg, Int.reduceAdd, Int.reduceSub, Int.reduceMul, if_true, if_false, not_true, not_false_eq_true, false_or, or_false, true_or, or_true, true_and, and_true, false_and, and_false, iI_on, iI_mul, iI_add, iI_sub, iI_neg, ap_if, mp_eq, mz_0, mz_1, mz_b, b2_0, b2_1, iI_lt, iI_le, iI_inj, mb_div, mb_rem, hC.m0, hC.m1, hC.m13, hC.m15, hC.m27, hC.m29, hC.m38, hC.m40, hC.g0_0, hC.g0_1, hC.g0_3, hC.g0_4, hC.g0_5, hC.g0_6, hC.g0_7, hC.g0_8, hC.g0_9, hC.g0_10, hC.g0_11, hC.g0_12, hC.g0_13, hC.g0_14, hC.g1_2, hC.g1_3, hC.g1_5, hC.g1_7, hC.g1_9, hC.g1_11, hC.g1_12, hC.g1_14, hC.g1_15, hC.g1_16, hC.g1_17, hC.g1_18, hC.g13_0, hC.g15_2, hC.g15_3, hC.g15_5, hC.g15_7, hC.g15_9, hC.g15_11, hC.g15_12, hC.g15_14, hC.g15_15, hC.g15_16, hC.g15_17, hC.g15_18, hC.g27_0, hC.g29_3, hC.g29_4, hC.g29_5, hC.g29_6, hC.g29_7, hC.g29_8, hC.g29_9, hC.g29_10, hC.g38_0, hC.g40_0, hC.s0_2, hC.s1_0, hC.s1_1, hC.s1_4, hC.s1_6, hC.s1_8, hC.s1_10, hC.s1_13, hC.s13_1, hC.s15_0, hC.s15_1, hC.s15_4, hC.s15_6, hC.s15_8, hC.s15_10, hC.s15_13, hC.s27_1, hC.s29_0, hC.s29_1, hC.s29_2, hC.s29_11, hC.s29_12, hC.s38_1, hC.s40_1, hC.s40_2, hC.l2, hC.l3, hC.l8, hC.l9, hC.l10, hC.l11, hC.l12, hC.l14, hC.l16, hC.l17, hC.l22, hC.l23, hC.l24, hC.l25, hC.l26, hC.l28, hC.l30, hC.l31, hC.l32, hC.l33, hC.l34, hC.l36, hC.l37, hC.l39, hC.l41, hC.l43, hC.l44, hC.l45, hC.l46, hC.l47, hC.l48, hC.l49, hC.l50, hC.l51, hC.l52, hC.l53, hC.l54, hC.l35, hC.n33, hC.n36, hC.dl R W, hC.fl R W, hC.ll R W, hC.tl R W, R.d1, R.d2, R.d3, R.d4, R.dn, R.da, R.f1, R.f2, R.f3, R.f4, R.fn, R.fa, R.t1, R.t2, R.t3, R.t4, R.t5, R.tn, R.ta, R.l0, R.l1, R.l2, R.l3, R.l7, R.ln, R.lv, R.r5, R.r6, R.r8, R.r13, R.r4, R.r10, R.r11, R.r12, R.r9, R.mt, R.ml, R.lg, R.lp, R.lr, R.lo W, R.ls W, R.1.1, R.1.2.1, R.1.2.2.1, R.1.2.2.2.1, R.1.2.2.2.2.1, R.1.2.2.2.2.2.1, R.1.2.2.2.2.2.2, R.born, R.good, R.unw, R.hp, R.hf, R.ht, mb_eq (C_isDeed hC R W _), mb_eq (C_isCourt _ _)]
        (repeat' split) <;> first | with_reducible rfl | omega
    · have := B_term (h := H) hM W hd hc hm hw
      unfold uTerm at this
      rw [if_neg c] at this
      exact this
end ADD

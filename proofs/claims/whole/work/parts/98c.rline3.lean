/-! ===== the reference reads a line: the other sorts ===== -/
section RLINE3
variable {M : Nat} {b b0 b' : Nat → Int → Int} {h s : gH} {g : Int → Int} {f k l : Int} {S w : List Int} {x : Cu} {L : List (Int × Int)}
theorem R_line2 (hM : OKM M h) (B : BR b0) (Q : QR g (-1) k S []) (hl : 0 ≤ l ∧ l < 12) (hk : k < CT b0) (c1 : CD b0 k = 1002) : ∃ s', m12_wantLine M (iI l) (mK M (rSt b0 g (-1) k S []) h) = some ((), s') ∧ LineR M b0 h k l S s' := by
  have h0 := Q.2.2.2.2.1
  have ql := Q.2.2.2.2.2
  have H0 := R_line0 (M := M) (h := h) B Q hl (by omega)
  have st := R_lineS hM B Q hl (CD b0 k - 1000) (by omega) (by omega)
  rw [if_neg (by omega), if_pos (by omega)] at st
  have x0 : okX (CT b0) (true, k + 1) := ⟨by dsimp only; omega, by dsimp only; omega⟩
  have x1 := (cN_b B.CN (l := 0) (m := 90) (by omega) x0).1
  obtain ⟨s1, y1, z1⟩ := R_stN hM B x0 hl H0 (lo := 0) (m := 90) (lo' := iI 0) (by omega) (by omega) ⟨by omega, by omega⟩ ⟨by omega, by omega⟩ (fun _ => rfl) (i := 7 * l + 1) (by omega) (fun p hp => by simp only [List.mem_cons, List.not_mem_nil, or_false] at hp; rcases hp with rfl | rfl <;> (dsimp only; omega))
  obtain ⟨s3, y3, z3⟩ := R_stE hM B x1 hl y1 (n0 := S.length) (.tail _ (.head _)) (by omega) (fun p hp => by simp only [List.mem_cons, List.not_mem_nil, or_false] at hp; rcases hp with rfl | rfl | rfl <;> (dsimp only; omega))
  refine ⟨s3, ?_, R_lineF _ y3 ?_ (fun c2 => ?_)⟩
  · rw [st, z1, z3]
  · unfold lnX bodyX
    rw [if_pos (by omega), if_neg (by omega), if_pos (by omega)]
  · have lr := lnX_t c2
    unfold LR at lr
    have ec : (condX (CD b0) k).2.2.1 = [] := by
      unfold condX
      rw [if_neg (by omega), if_neg (by omega)]
    rw [ec]
    refine ⟨by rw [List.append_nil], fun t ht => ?_⟩
    simp only [List.forall_mem_cons] at ht
    obtain ⟨t6, t1, t5, t0, -⟩ := ht
    exact ⟨t0, t5, t6.trans (Int.sub_self _), by omega, fun _ => t1, by omega, by omega⟩
theorem R_line7 (hM : OKM M h) (B : BR b0) (Q : QR g (-1) k S []) (hl : 0 ≤ l ∧ l < 12) (hk : k < CT b0) (c1 : CD b0 k = 1007) : ∃ s', m12_wantLine M (iI l) (mK M (rSt b0 g (-1) k S []) h) = some ((), s') ∧ LineR M b0 h k l S s' := by
  have h0 := Q.2.2.2.2.1
  have ql := Q.2.2.2.2.2
  have H0 := R_line0 (M := M) (h := h) B Q hl (by omega)
  have st := R_lineS hM B Q hl (CD b0 k - 1000) (by omega) (by omega)
  rw [if_neg (by omega), if_neg (by omega), if_neg (by omega), if_neg (by omega)] at st
  have x0 : okX (CT b0) (true, k + 1) := ⟨by dsimp only; omega, by dsimp only; omega⟩
  obtain ⟨s3, y3, z3⟩ := R_stE hM B x0 hl H0 (n0 := S.length) (.head _) (by omega) (fun p hp => by simp only [List.mem_cons, List.not_mem_nil, or_false] at hp; rcases hp with rfl | rfl <;> (dsimp only; omega))
  refine ⟨s3, ?_, R_lineF _ y3 ?_ (fun c2 => ?_)⟩
  · rw [st, z3]
  · unfold lnX bodyX
    rw [if_pos (by omega), if_neg (by omega), if_neg (by omega), if_neg (by omega), if_neg (by omega), if_neg (by omega)]
  · have lr := lnX_t c2
    unfold LR at lr
    have ec : (condX (CD b0) k).2.2.1 = [] := by
      unfold condX
      rw [if_neg (by omega), if_neg (by omega)]
    rw [ec]
    refine ⟨by rw [List.append_nil], fun t ht => ?_⟩
    simp only [List.forall_mem_cons] at ht
    obtain ⟨t6, t5, t0, -⟩ := ht
    exact ⟨t0, t5, t6.trans (Int.sub_self _), by omega, by omega, by omega, by omega⟩
theorem R_line6 (hM : OKM M h) (B : BR b0) (Q : QR g (-1) k S []) (hS : (S.length : Int) ≤ k) (hl : 0 ≤ l ∧ l < 12) (hk : k < CT b0) (c1 : CD b0 k = 1006) : ∃ s', m12_wantLine M (iI l) (mK M (rSt b0 g (-1) k S []) h) = some ((), s') ∧ LineR M b0 h k l S s' := by
  have h0 := Q.2.2.2.2.1
  have ql := Q.2.2.2.2.2
  have H0 := R_line0 (M := M) (h := h) B Q hl (by omega)
  have st := R_lineS hM B Q hl (CD b0 k - 1000) (by omega) (by omega)
  rw [if_neg (by omega), if_neg (by omega), if_neg (by omega), if_pos (by omega)] at st
  have x0 : okX (CT b0) (true, k + 1) := ⟨by dsimp only; omega, by dsimp only; omega⟩
  have x1 := (cW_b B.CN (v := 1016) (by omega) x0).1
  have x2 := (cC_b B.CN x1).1
  have m1 := (cW_b B.CN (v := 1016) (by omega) x0).2
  -- the 0 that stands for no book
  have y0 : ∃ X, ln0 M b0 g k l (CD b0 k) S h = mK M X h ∧ St M b0 l h (true, k + 1) S [(7 * l + 1, 0), (7 * l + 5, (S.length : Int)), (7 * l, CD b0 k - 1000)] (mK M (s3 X 11 (7 * l + 1) 0) h) := by
    obtain ⟨b', g', e, q1, q2, q3, q4⟩ := H0.1 rfl
    refine ⟨_, e, fun _ => ⟨s3 b' 11 (7 * l + 1) 0, g', by rw [rSt_11w], q1, q2.s ⟨by omega, by omega⟩, q3.st ⟨by omega, by omega⟩, fun p hp => ?_⟩, fun z => by cases z⟩
    rcases List.mem_cons.mp hp with e | e
    · rw [e]; exact s3_at _ _ _ _
    · rw [s3_nj]
      · exact q4 p e
      · simp only [List.mem_cons, List.not_mem_nil, or_false] at e
        rcases e with rfl | rfl <;> (dsimp only; omega)
  obtain ⟨X0, e0, y0⟩ := y0
  obtain ⟨s1, y1, z1⟩ := R_stW hM B x0 y0 (v := 1016) (fun b g f k S w B Q => R_w16 hM B Q)
  obtain ⟨X1, e1⟩ := y1.mk_
  obtain ⟨s2, y2, z2⟩ := R_stC hM B x1 y1 (fun _ => by omega)
  obtain ⟨X2, e2⟩ := y2.mk_
  obtain ⟨s3, y3, z3⟩ := R_stE hM B x2 hl y2 (n0 := S.length) (.tail _ (.head _)) (by omega) (fun p hp => by simp only [List.mem_cons, List.not_mem_nil, or_false] at hp; rcases hp with rfl | rfl | rfl <;> (dsimp only; omega))
  refine ⟨s3, ?_, R_lineF _ y3 ?_ (fun c2 => ?_)⟩
  · rw [st, show CD b0 k - 1000 = 6 by omega, e0]
    unfold m12_wantLine_p230 m12_wantLine_p253
    simp (config := { maxSteps := 1000000 }) (disch := first | assumption | exact W.i _ _ | exact sLine_i W _ _ _ | exact W1.i _ _ | exact hg _ _ | exact W3.i _ _ | (refine ⟨?_, ?_⟩ <;> omega) | omega | (simp only [sW_1, sW_2, sW_3, sW_4, sW_5, sW_8] <;> first | assumption | omega | (refine ⟨?_, ?_⟩ <;> omega)) | (simp only [sT_1, sT_2, sT_3, sT_4, sT_5, sT_8] <;> first | assumption | omega | (refine ⟨?_, ?_⟩ <;> omega)) | (simp only [List.length_append, List.length_cons, List.length_nil, Nat.reduceAdd] <;> omega)) only [Int.reduceEq, Int.reduceLT, Int.reduceLE, Int.reduceNeg, Int.reduceAdd, Int.reduceSub, Int.reduceMul, if_true, if_false, not_true, not_false_eq_true, false_or, or_false, true_or, or_true, true_and, and_true, false_and, and_false, iI_on, iI_mul, iI_add, iI_sub, iI_neg, ap_if, mp_eq, mz_0, mz_1, mz_b, b2_0, b2_1, iI_lt, iI_le, iI_inj, mb_div, mb_rem, hM.m, hM.a1, hM.a2, hM.a3, hM.a4, hM.a5, hM.a6, hM.a7, hM.a8, hM.a9, hM.a10, hM.a11, hM.a12, hM.a13, hM.a14, hM.a15, hM.a16, hM.a17, hM.a18, hM.a19, hM.a20, hM.a21, hM.a22, hM.a23, hM.a24, hM.a25, hM.a26, hM.a27, hM.a28, hM.l1, hM.l2, hM.l3, hM.l4, hM.l5, hM.l6, hM.l7, hM.l8, hM.l9, hM.l10, hM.l11, hM.l12, hM.l13, hM.l14, hM.l15, hM.l16, hM.l17, hM.l18, hM.l19, hM.l20, hM.l21, hM.l22, hM.l23, hM.l24, hM.l25, hM.l26, hM.l27, hM.l28, hM.c10, hM.c11, hM.c12, hM.c13, hM.c14, hM.c15, hM.c19, hM.c20, hM.c23, hM.c27, hM.c36, hM.c37, hM.c38, hM.c40, hM.c41, hM.c42, hM.c44, hM.w1, hM.w2, hM.w3, hM.w4, hM.w5, hM.w6, hM.w7, hM.w8, hM.w9, hM.w10, hM.w11, hM.w12, hM.w13, hM.w14, hM.w15, hM.w16, hM.w17, hM.w18, hM.w19, hM.w20, hM.w21, hM.w22, hM.w23, hM.w24, hM.w25, hM.w26, hM.w27, hM.w28, hM.p10, hM.p11, hM.p12, hM.p13, hM.p14, hM.p15, hM.p19, hM.p20, hM.p23, hM.p27, hM.p36, hM.p37, hM.p38, hM.p40, hM.p41, hM.p42, hM.p44, s3_at, s3_nk, s3_nj]
    rw [z1, e1, hM.m, mb_eq (e1 ▸ z2), z3]
  · unfold lnX bodyX
    rw [if_pos (by omega), if_neg (by omega), if_neg (by omega), if_neg (by omega), if_neg (by omega), if_pos (by omega)]
  · have lr := lnX_t c2
    unfold LR at lr
    have ec : (condX (CD b0) k).2.2.1 = (pC (CD b0) 6 0 (k + 2)).2.2.1 := by
      unfold condX
      rw [if_neg (by omega), if_pos (by omega)]
    have r1 := lr.2.2.2.2.2.1 (by omega)
    rw [ec]
    rw [cW_v r1]
    have e2 : k + 1 + 1 = k + 2 := by omega
    rw [e2]
    refine ⟨rfl, fun t ht => ?_⟩
    simp only [List.forall_mem_cons] at ht
    obtain ⟨t6, t1, t5, t0, -⟩ := ht
    rw [List.length_append] at t6
    exact ⟨t0, t5, t6.trans (by omega), by omega, by omega, by omega, by omega⟩
theorem R_line45 (hM : OKM M h) (B : BR b0) (Q : QR g (-1) k S []) (hS : (S.length : Int) ≤ k) (hl : 0 ≤ l ∧ l < 12) (hk : k < CT b0) (c1 : CD b0 k = 1004 ∨ CD b0 k = 1005) : ∃ s', m12_wantLine M (iI l) (mK M (rSt b0 g (-1) k S []) h) = some ((), s') ∧ LineR M b0 h k l S s' := by
  have h0 := Q.2.2.2.2.1
  have ql := Q.2.2.2.2.2
  have H0 := R_line0 (M := M) (h := h) B Q hl (by omega)
  have st := R_lineS hM B Q hl (CD b0 k - 1000) (by omega) (by omega)
  rw [if_neg (by omega), if_neg (by omega), if_neg (by omega), if_pos (by omega)] at st
  have x0 : okX (CT b0) (true, k + 1) := ⟨by dsimp only; omega, by dsimp only; omega⟩
  have xn := (cN_b B.CN (l := 0) (m := 4) (by omega) x0)
  have x1 := (cW_b B.CN (v := 1016) (by omega) xn.1)
  have x2 := (cC_b B.CN x1.1).1
  have m0 := xn.2
  have m1 := x1.2
  obtain ⟨sn, yn, zn⟩ := R_stN hM B x0 hl H0 (lo := 0) (m := 4) (lo' := iI 0) (by omega) (by omega) ⟨by omega, by omega⟩ ⟨by omega, by omega⟩ (fun _ => rfl) (i := 7 * l + 1) (by omega) (fun p hp => by simp only [List.mem_cons, List.not_mem_nil, or_false] at hp; rcases hp with rfl | rfl <;> (dsimp only; omega))
  obtain ⟨Xn, rfl⟩ := yn.mk_
  obtain ⟨s1, y1, z1⟩ := R_stW hM B xn.1 yn (v := 1016) (fun b g f k S w B Q => R_w16 hM B Q)
  obtain ⟨X1, e1⟩ := y1.mk_
  obtain ⟨s2, y2, z2⟩ := R_stC hM B x1.1 y1 (fun _ => by dsimp only at m0; omega)
  obtain ⟨X2, e2⟩ := y2.mk_
  obtain ⟨s3, y3, z3⟩ := R_stE hM B x2 hl y2 (n0 := S.length) (.tail _ (.head _)) (by omega) (fun p hp => by simp only [List.mem_cons, List.not_mem_nil, or_false] at hp; rcases hp with rfl | rfl | rfl <;> (dsimp only; omega))
  refine ⟨s3, ?_, R_lineF _ y3 ?_ (fun c2 => ?_)⟩
  · rw [st]
    unfold m12_wantLine_p230 m12_wantLine_p253
    simp (config := { maxSteps := 1000000 }) (disch := first | assumption | exact W.i _ _ | exact sLine_i W _ _ _ | exact W1.i _ _ | exact hg _ _ | exact W3.i _ _ | (refine ⟨?_, ?_⟩ <;> omega) | omega | (simp only [sW_1, sW_2, sW_3, sW_4, sW_5, sW_8] <;> first | assumption | omega | (refine ⟨?_, ?_⟩ <;> omega)) | (simp only [sT_1, sT_2, sT_3, sT_4, sT_5, sT_8] <;> first | assumption | omega | (refine ⟨?_, ?_⟩ <;> omega)) | (simp only [List.length_append, List.length_cons, List.length_nil, Nat.reduceAdd] <;> omega)) only [Int.reduceEq, Int.reduceLT, Int.reduceLE, Int.reduceNeg, Int.reduceAdd, Int.reduceSub, Int.reduceMul, if_true, if_false, not_true, not_false_eq_true, false_or, or_false, true_or, or_true, true_and, and_true, false_and, and_false, iI_on, iI_mul, iI_add, iI_sub, iI_neg, ap_if, mp_eq, mz_0, mz_1, mz_b, b2_0, b2_1, iI_lt, iI_le, iI_inj, mb_div, mb_rem, hM.m, hM.a1, hM.a2, hM.a3, hM.a4, hM.a5, hM.a6, hM.a7, hM.a8, hM.a9, hM.a10, hM.a11, hM.a12, hM.a13, hM.a14, hM.a15, hM.a16, hM.a17, hM.a18, hM.a19, hM.a20, hM.a21, hM.a22, hM.a23, hM.a24, hM.a25, hM.a26, hM.a27, hM.a28, hM.l1, hM.l2, hM.l3, hM.l4, hM.l5, hM.l6, hM.l7, hM.l8, hM.l9, hM.l10, hM.l11, hM.l12, hM.l13, hM.l14, hM.l15, hM.l16, hM.l17, hM.l18, hM.l19, hM.l20, hM.l21, hM.l22, hM.l23, hM.l24, hM.l25, hM.l26, hM.l27, hM.l28, hM.c10, hM.c11, hM.c12, hM.c13, hM.c14, hM.c15, hM.c19, hM.c20, hM.c23, hM.c27, hM.c36, hM.c37, hM.c38, hM.c40, hM.c41, hM.c42, hM.c44, ln0, show ¬ CD b0 k - 1000 = 6 by omega]
    rw [zn]
    simp (config := { maxSteps := 1000000 }) (disch := first | assumption | exact W.i _ _ | exact sLine_i W _ _ _ | exact W1.i _ _ | exact hg _ _ | exact W3.i _ _ | (refine ⟨?_, ?_⟩ <;> omega) | omega | (simp only [sW_1, sW_2, sW_3, sW_4, sW_5, sW_8] <;> first | assumption | omega | (refine ⟨?_, ?_⟩ <;> omega)) | (simp only [sT_1, sT_2, sT_3, sT_4, sT_5, sT_8] <;> first | assumption | omega | (refine ⟨?_, ?_⟩ <;> omega)) | (simp only [List.length_append, List.length_cons, List.length_nil, Nat.reduceAdd] <;> omega)) only [Int.reduceEq, Int.reduceLT, Int.reduceLE, Int.reduceNeg, Int.reduceAdd, Int.reduceSub, Int.reduceMul, if_true, if_false, not_true, not_false_eq_true, false_or, or_false, true_or, or_true, true_and, and_true, false_and, and_false, iI_on, iI_mul, iI_add, iI_sub, iI_neg, ap_if, mp_eq, mz_0, mz_1, mz_b, b2_0, b2_1, iI_lt, iI_le, iI_inj, mb_div, mb_rem, hM.m, hM.a1, hM.a2, hM.a3, hM.a4, hM.a5, hM.a6, hM.a7, hM.a8, hM.a9, hM.a10, hM.a11, hM.a12, hM.a13, hM.a14, hM.a15, hM.a16, hM.a17, hM.a18, hM.a19, hM.a20, hM.a21, hM.a22, hM.a23, hM.a24, hM.a25, hM.a26, hM.a27, hM.a28, hM.l1, hM.l2, hM.l3, hM.l4, hM.l5, hM.l6, hM.l7, hM.l8, hM.l9, hM.l10, hM.l11, hM.l12, hM.l13, hM.l14, hM.l15, hM.l16, hM.l17, hM.l18, hM.l19, hM.l20, hM.l21, hM.l22, hM.l23, hM.l24, hM.l25, hM.l26, hM.l27, hM.l28, hM.c10, hM.c11, hM.c12, hM.c13, hM.c14, hM.c15, hM.c19, hM.c20, hM.c23, hM.c27, hM.c36, hM.c37, hM.c38, hM.c40, hM.c41, hM.c42, hM.c44]
    rw [z1, e1, hM.m, mb_eq (e1 ▸ z2), z3]
  · unfold lnX bodyX
    rw [if_pos (by omega), if_neg (by omega), if_neg (by omega), if_neg (by omega), if_pos (by omega)]
  · have lr := lnX_t c2
    unfold LR at lr
    have ec : (condX (CD b0) k).2.2.1 = (pC (CD b0) 6 0 (k + 3)).2.2.1 := by
      unfold condX
      rw [if_pos (by omega)]
    have r1 := lr.2.2.2.2.1 (by omega)
    rw [ec]
    have e2 : k + 1 + 1 = k + 2 := by omega
    have e3 : k + 2 + 1 = k + 3 := by omega
    rw [cN_v r1.1, e2, cW_v r1.2, e3]
    refine ⟨rfl, fun t ht => ?_⟩
    simp only [List.forall_mem_cons] at ht
    obtain ⟨t6, t1, t5, t0, -⟩ := ht
    rw [List.length_append] at t6
    exact ⟨t0, t5, t6.trans (by omega), by omega, by omega, by omega, fun _ => t1⟩
theorem R_line3 (hM : OKM M h) (B : BR b0) (Q : QR g (-1) k S []) (hl : 0 ≤ l ∧ l < 12) (hk : k < CT b0) (c1 : CD b0 k = 1003) : ∃ s', m12_wantLine M (iI l) (mK M (rSt b0 g (-1) k S []) h) = some ((), s') ∧ LineR M b0 h k l S s' := by
  have h0 := Q.2.2.2.2.1
  have ql := Q.2.2.2.2.2
  have H0 := R_line0 (M := M) (h := h) B Q hl (by omega)
  have st := R_lineS hM B Q hl (CD b0 k - 1000) (by omega) (by omega)
  rw [if_neg (by omega), if_neg (by omega), if_pos (by omega)] at st
  have x0 : okX (CT b0) (true, k + 1) := ⟨by dsimp only; omega, by dsimp only; omega⟩
  have x1 := (cN_b B.CN (l := 0) (m := 4) (by omega) x0)
  have x2 := (cN_b B.CN (l := 0) (m := 3) (by omega) x1.1)
  have x3 := (cN_b B.CN (l := 0) (m := 240) (by omega) x2.1)
  have x4 := (cW_b B.CN (v := 1017) (by omega) x3.1)
  have cb := B.CN.2.2 (k + 3) (by omega)
  have x5 := (cN_b B.CN (l := CD b0 (k + 3)) (m := 240) (by omega) x4.1)
  obtain ⟨s1, y1, z1⟩ := R_stN hM B x0 hl H0 (lo := 0) (m := 4) (lo' := iI 0) (by omega) (by omega) ⟨by omega, by omega⟩ ⟨by omega, by omega⟩ (fun _ => rfl) (i := 7 * l + 1) (by omega) (fun p hp => by simp only [List.mem_cons, List.not_mem_nil, or_false] at hp; rcases hp with rfl | rfl <;> (dsimp only; omega))
  obtain ⟨X1, rfl⟩ := y1.mk_
  obtain ⟨s2, y2, z2⟩ := R_stN hM B x1.1 hl y1 (lo := 0) (m := 3) (lo' := iI 0) (by omega) (by omega) ⟨by omega, by omega⟩ ⟨by omega, by omega⟩ (fun _ => rfl) (i := 7 * l + 2) (by omega) (fun p hp => by simp only [List.mem_cons, List.not_mem_nil, or_false] at hp; rcases hp with rfl | rfl | rfl <;> (dsimp only; omega))
  obtain ⟨X2, rfl⟩ := y2.mk_
  obtain ⟨s3, y3, z3⟩ := R_stN hM B x2.1 hl y2 (lo := 0) (m := 240) (lo' := iI 0) (by omega) (by omega) ⟨by omega, by omega⟩ ⟨by omega, by omega⟩ (fun _ => rfl) (i := 7 * l + 3) (by omega) (fun p hp => by simp only [List.mem_cons, List.not_mem_nil, or_false] at hp; rcases hp with rfl | rfl | rfl | rfl <;> (dsimp only; omega))
  obtain ⟨X3, rfl⟩ := y3.mk_
  obtain ⟨s4, y4, z4⟩ := R_stW hM B x3.1 y3 (v := 1017) (fun b g f k S w B Q => R_w17 hM B Q)
  have lo : ∃ X4 lo', s4 = mK M X4 h ∧ i32 (X4 11 (7 * l + 3)) ∧ lo' = iI (X4 11 (7 * l + 3)) ∧ ((cW (CD b0) 1017 (cN (CD b0) 0 240 (cN (CD b0) 0 3 (cN (CD b0) 0 4 (true, k + 1))))).1 = true → lo' = iI (CD b0 (k + 3))) := by
    by_cases c : (cW (CD b0) 1017 (cN (CD b0) 0 240 (cN (CD b0) 0 3 (cN (CD b0) 0 4 (true, k + 1))))).1 = true
    · obtain ⟨b', g', r1, r2, r3, r4, r5⟩ := y4.1 c
      have e := r5 (7 * l + 3, _) (.head _)
      obtain ⟨w1, w2, w3⟩ := cW_t c
      obtain ⟨v1, v2, v3⟩ := cN_t w1
      obtain ⟨u1, u2, u3⟩ := cN_t v1
      rw [u3] at e
      obtain ⟨o1, o2, o3⟩ := cN_t u1
      rw [o3] at e
      dsimp only at e
      rw [show k + 1 + 1 + 1 = k + 3 by omega] at e
      have e' : rSt b' g' (-1) (cW (CD b0) 1017 (cN (CD b0) 0 240 (cN (CD b0) 0 3 (cN (CD b0) 0 4 (true, k + 1))))).2 S [] 11 (7 * l + 3) = CD b0 (k + 3) := by rw [rSt_o (by omega) (by omega) (by omega)]; exact e
      exact ⟨_, _, r1, by rw [e']; exact ⟨by omega, by omega⟩, rfl, fun _ => by rw [e']⟩
    · obtain ⟨b', g', k', S', w', r1, r2, r3, r4⟩ := y4.2 (ftn c)
      refine ⟨_, _, r1, ?_, rfl, fun z => absurd z c⟩
      rw [rSt_o (by omega) (by omega) (by omega)]
      exact r3 _ _
  obtain ⟨X4, lo', e4, i4, l1, l2⟩ := lo
  obtain ⟨s5, y5, z5⟩ := R_stN hM B x4.1 hl y4 (lo := CD b0 (k + 3)) (m := 240) (lo' := lo') (by omega) (by omega) ⟨by omega, by omega⟩ ⟨by omega, by omega⟩ l2 (i := 7 * l + 4) (by omega) (fun p hp => by simp only [List.mem_cons, List.not_mem_nil, or_false] at hp; rcases hp with rfl | rfl | rfl | rfl | rfl <;> (dsimp only; omega))
  obtain ⟨s6, y6, z6⟩ := R_stE hM B x5.1 hl y5 (n0 := S.length) (.tail _ (.tail _ (.tail _ (.tail _ (.head _))))) (by omega) (fun p hp => by simp only [List.mem_cons, List.not_mem_nil, or_false] at hp; rcases hp with rfl | rfl | rfl | rfl | rfl | rfl <;> (dsimp only; omega))
  refine ⟨s6, ?_, ?_⟩
  · rw [st, z1]
    simp (config := { maxSteps := 1000000 }) (disch := first | assumption | exact W.i _ _ | exact sLine_i W _ _ _ | exact W1.i _ _ | exact hg _ _ | exact W3.i _ _ | (refine ⟨?_, ?_⟩ <;> omega) | omega | (simp only [sW_1, sW_2, sW_3, sW_4, sW_5, sW_8] <;> first | assumption | omega | (refine ⟨?_, ?_⟩ <;> omega)) | (simp only [sT_1, sT_2, sT_3, sT_4, sT_5, sT_8] <;> first | assumption | omega | (refine ⟨?_, ?_⟩ <;> omega)) | (simp only [List.length_append, List.length_cons, List.length_nil, Nat.reduceAdd] <;> omega)) only [Int.reduceEq, Int.reduceLT, Int.reduceLE, Int.reduceNeg, Int.reduceAdd, Int.reduceSub, Int.reduceMul, if_true, if_false, not_true, not_false_eq_true, false_or, or_false, true_or, or_true, true_and, and_true, false_and, and_false, iI_on, iI_mul, iI_add, iI_sub, iI_neg, ap_if, mp_eq, mz_0, mz_1, mz_b, b2_0, b2_1, iI_lt, iI_le, iI_inj, mb_div, mb_rem, hM.m, hM.a1, hM.a2, hM.a3, hM.a4, hM.a5, hM.a6, hM.a7, hM.a8, hM.a9, hM.a10, hM.a11, hM.a12, hM.a13, hM.a14, hM.a15, hM.a16, hM.a17, hM.a18, hM.a19, hM.a20, hM.a21, hM.a22, hM.a23, hM.a24, hM.a25, hM.a26, hM.a27, hM.a28, hM.l1, hM.l2, hM.l3, hM.l4, hM.l5, hM.l6, hM.l7, hM.l8, hM.l9, hM.l10, hM.l11, hM.l12, hM.l13, hM.l14, hM.l15, hM.l16, hM.l17, hM.l18, hM.l19, hM.l20, hM.l21, hM.l22, hM.l23, hM.l24, hM.l25, hM.l26, hM.l27, hM.l28, hM.c10, hM.c11, hM.c12, hM.c13, hM.c14, hM.c15, hM.c19, hM.c20, hM.c23, hM.c27, hM.c36, hM.c37, hM.c38, hM.c40, hM.c41, hM.c42, hM.c44]
    rw [z2]
    simp (config := { maxSteps := 1000000 }) (disch := first | assumption | exact W.i _ _ | exact sLine_i W _ _ _ | exact W1.i _ _ | exact hg _ _ | exact W3.i _ _ | (refine ⟨?_, ?_⟩ <;> omega) | omega | (simp only [sW_1, sW_2, sW_3, sW_4, sW_5, sW_8] <;> first | assumption | omega | (refine ⟨?_, ?_⟩ <;> omega)) | (simp only [sT_1, sT_2, sT_3, sT_4, sT_5, sT_8] <;> first | assumption | omega | (refine ⟨?_, ?_⟩ <;> omega)) | (simp only [List.length_append, List.length_cons, List.length_nil, Nat.reduceAdd] <;> omega)) only [Int.reduceEq, Int.reduceLT, Int.reduceLE, Int.reduceNeg, Int.reduceAdd, Int.reduceSub, Int.reduceMul, if_true, if_false, not_true, not_false_eq_true, false_or, or_false, true_or, or_true, true_and, and_true, false_and, and_false, iI_on, iI_mul, iI_add, iI_sub, iI_neg, ap_if, mp_eq, mz_0, mz_1, mz_b, b2_0, b2_1, iI_lt, iI_le, iI_inj, mb_div, mb_rem, hM.m, hM.a1, hM.a2, hM.a3, hM.a4, hM.a5, hM.a6, hM.a7, hM.a8, hM.a9, hM.a10, hM.a11, hM.a12, hM.a13, hM.a14, hM.a15, hM.a16, hM.a17, hM.a18, hM.a19, hM.a20, hM.a21, hM.a22, hM.a23, hM.a24, hM.a25, hM.a26, hM.a27, hM.a28, hM.l1, hM.l2, hM.l3, hM.l4, hM.l5, hM.l6, hM.l7, hM.l8, hM.l9, hM.l10, hM.l11, hM.l12, hM.l13, hM.l14, hM.l15, hM.l16, hM.l17, hM.l18, hM.l19, hM.l20, hM.l21, hM.l22, hM.l23, hM.l24, hM.l25, hM.l26, hM.l27, hM.l28, hM.c10, hM.c11, hM.c12, hM.c13, hM.c14, hM.c15, hM.c19, hM.c20, hM.c23, hM.c27, hM.c36, hM.c37, hM.c38, hM.c40, hM.c41, hM.c42, hM.c44]
    rw [z3]
    simp (config := { maxSteps := 1000000 }) (disch := first | assumption | exact W.i _ _ | exact sLine_i W _ _ _ | exact W1.i _ _ | exact hg _ _ | exact W3.i _ _ | (refine ⟨?_, ?_⟩ <;> omega) | omega | (simp only [sW_1, sW_2, sW_3, sW_4, sW_5, sW_8] <;> first | assumption | omega | (refine ⟨?_, ?_⟩ <;> omega)) | (simp only [sT_1, sT_2, sT_3, sT_4, sT_5, sT_8] <;> first | assumption | omega | (refine ⟨?_, ?_⟩ <;> omega)) | (simp only [List.length_append, List.length_cons, List.length_nil, Nat.reduceAdd] <;> omega)) only [Int.reduceEq, Int.reduceLT, Int.reduceLE, Int.reduceNeg, Int.reduceAdd, Int.reduceSub, Int.reduceMul, if_true, if_false, not_true, not_false_eq_true, false_or, or_false, true_or, or_true, true_and, and_true, false_and, and_false, iI_on, iI_mul, iI_add, iI_sub, iI_neg, ap_if, mp_eq, mz_0, mz_1, mz_b, b2_0, b2_1, iI_lt, iI_le, iI_inj, mb_div, mb_rem, hM.m, hM.a1, hM.a2, hM.a3, hM.a4, hM.a5, hM.a6, hM.a7, hM.a8, hM.a9, hM.a10, hM.a11, hM.a12, hM.a13, hM.a14, hM.a15, hM.a16, hM.a17, hM.a18, hM.a19, hM.a20, hM.a21, hM.a22, hM.a23, hM.a24, hM.a25, hM.a26, hM.a27, hM.a28, hM.l1, hM.l2, hM.l3, hM.l4, hM.l5, hM.l6, hM.l7, hM.l8, hM.l9, hM.l10, hM.l11, hM.l12, hM.l13, hM.l14, hM.l15, hM.l16, hM.l17, hM.l18, hM.l19, hM.l20, hM.l21, hM.l22, hM.l23, hM.l24, hM.l25, hM.l26, hM.l27, hM.l28, hM.c10, hM.c11, hM.c12, hM.c13, hM.c14, hM.c15, hM.c19, hM.c20, hM.c23, hM.c27, hM.c36, hM.c37, hM.c38, hM.c40, hM.c41, hM.c42, hM.c44]
    rw [z4, e4]
    simp (config := { maxSteps := 1000000 }) (disch := first | assumption | exact W.i _ _ | exact sLine_i W _ _ _ | exact W1.i _ _ | exact hg _ _ | exact W3.i _ _ | (refine ⟨?_, ?_⟩ <;> omega) | omega | (simp only [sW_1, sW_2, sW_3, sW_4, sW_5, sW_8] <;> first | assumption | omega | (refine ⟨?_, ?_⟩ <;> omega)) | (simp only [sT_1, sT_2, sT_3, sT_4, sT_5, sT_8] <;> first | assumption | omega | (refine ⟨?_, ?_⟩ <;> omega)) | (simp only [List.length_append, List.length_cons, List.length_nil, Nat.reduceAdd] <;> omega)) only [Int.reduceEq, Int.reduceLT, Int.reduceLE, Int.reduceNeg, Int.reduceAdd, Int.reduceSub, Int.reduceMul, if_true, if_false, not_true, not_false_eq_true, false_or, or_false, true_or, or_true, true_and, and_true, false_and, and_false, iI_on, iI_mul, iI_add, iI_sub, iI_neg, ap_if, mp_eq, mz_0, mz_1, mz_b, b2_0, b2_1, iI_lt, iI_le, iI_inj, mb_div, mb_rem, hM.m, hM.a1, hM.a2, hM.a3, hM.a4, hM.a5, hM.a6, hM.a7, hM.a8, hM.a9, hM.a10, hM.a11, hM.a12, hM.a13, hM.a14, hM.a15, hM.a16, hM.a17, hM.a18, hM.a19, hM.a20, hM.a21, hM.a22, hM.a23, hM.a24, hM.a25, hM.a26, hM.a27, hM.a28, hM.l1, hM.l2, hM.l3, hM.l4, hM.l5, hM.l6, hM.l7, hM.l8, hM.l9, hM.l10, hM.l11, hM.l12, hM.l13, hM.l14, hM.l15, hM.l16, hM.l17, hM.l18, hM.l19, hM.l20, hM.l21, hM.l22, hM.l23, hM.l24, hM.l25, hM.l26, hM.l27, hM.l28, hM.c10, hM.c11, hM.c12, hM.c13, hM.c14, hM.c15, hM.c19, hM.c20, hM.c23, hM.c27, hM.c36, hM.c37, hM.c38, hM.c40, hM.c41, hM.c42, hM.c44, ← l1]
    rw [← e4, z5, z6]
  · have ce : (lnX (CD b0) k).1 = true → (lnX (CD b0) k) = cW (CD b0) 2059 (cN (CD b0) (CD b0 (k + 3)) 240 (cW (CD b0) 1017 (cN (CD b0) 0 240 (cN (CD b0) 0 3 (cN (CD b0) 0 4 (true, k + 1)))))) := by
      intro _
      unfold lnX bodyX
      rw [if_pos (by omega), if_neg (by omega), if_neg (by omega), if_pos (by omega)]
      rw [show k + 1 + 2 = k + 3 by omega]
    have ce' : (lnX (CD b0) k) = cW (CD b0) 2059 (cN (CD b0) (CD b0 (k + 3)) 240 (cW (CD b0) 1017 (cN (CD b0) 0 240 (cN (CD b0) 0 3 (cN (CD b0) 0 4 (true, k + 1)))))) := by
      unfold lnX bodyX
      rw [if_pos (by omega), if_neg (by omega), if_neg (by omega), if_pos (by omega)]
      rw [show k + 1 + 2 = k + 3 by omega]
    refine R_lineF _ y6 ce' (fun c2 => ?_)
    have lr := lnX_t c2
    unfold LR at lr
    have ec : (condX (CD b0) k).2.2.1 = [] := by
      unfold condX
      rw [if_neg (by omega), if_neg (by omega)]
    have r1 := lr.2.2.2.1 (by omega)
    rw [ec]
    have e2 : k + 1 + 1 = k + 2 := by omega
    have e3 : k + 2 + 1 = k + 3 := by omega
    have e4 : k + 3 + 1 = k + 4 := by omega
    have e5 : k + 4 + 1 = k + 5 := by omega
    rw [cN_v r1.1, e2, cN_v r1.2.1, e3, cN_v r1.2.2.1, e4, cW_v r1.2.2.2.1, e5]
    refine ⟨by rw [List.append_nil], fun t ht => ?_⟩
    simp only [List.forall_mem_cons] at ht
    obtain ⟨t6, t4, t3, t2, t1, t5, t0, -⟩ := ht
    exact ⟨t0, t5, t6.trans (Int.sub_self _), by omega, by omega, fun _ => ⟨t1, t2, t3, t4⟩, by omega⟩
/-- a line -/
theorem R_line (hM : OKM M h) (B : BR b0) (Q : QR g (-1) k S []) (hl : 0 ≤ l ∧ l < 12) (hS : (S.length : Int) ≤ k) : ∃ s', m12_wantLine M (iI l) (mK M (rSt b0 g (-1) k S []) h) = some ((), s') ∧ LineR M b0 h k l S s' := by
  have h0 := Q.2.2.2.2.1
  by_cases c1 : 1000 ≤ CD b0 k ∧ CD b0 k ≤ 1007
  · have kN : k < CT b0 := by
      rcases Int.lt_or_le k (CT b0) with q | q
      · exact q
      · have := B.CN.2.1 _ q; omega
    have : (CD b0 k = 1000 ∨ CD b0 k = 1001) ∨ CD b0 k = 1002 ∨ CD b0 k = 1003 ∨ (CD b0 k = 1004 ∨ CD b0 k = 1005) ∨ CD b0 k = 1006 ∨ CD b0 k = 1007 := by omega
    rcases this with q | q | q | q | q | q
    · exact R_line01 hM B Q hl kN q
    · exact R_line2 hM B Q hl kN q
    · exact R_line3 hM B Q hl kN q
    · exact R_line45 hM B Q hS hl kN q
    · exact R_line6 hM B Q hS hl kN q
    · exact R_line7 hM B Q hl kN q
  · have hsh := R_sortHere (h := h) hM B Q
    rw [if_neg c1] at hsh
    have hw := R_wrong (b := b0) (h := h) hM Q
    rw [if_pos (by omega)] at hw
    have e : lnX (CD b0) k = (false, k) := by unfold lnX; rw [if_neg c1]
    refine ⟨_, ?_, fun c2 => by (rw [e] at c2; cases c2), fun _ => ⟨b0, g, k, S, [], by rw [e], ?_, B.1, sm.rf⟩⟩
    · unfold m12_wantLine m12_wantLine_p15
      simp (config := { maxSteps := 1000000 }) (disch := first | assumption | exact W.i _ _ | exact sLine_i W _ _ _ | exact W1.i _ _ | exact hg _ _ | exact W3.i _ _ | (refine ⟨?_, ?_⟩ <;> omega) | omega | (simp only [sW_1, sW_2, sW_3, sW_4, sW_5, sW_8] <;> first | assumption | omega | (refine ⟨?_, ?_⟩ <;> omega)) | (simp only [sT_1, sT_2, sT_3, sT_4, sT_5, sT_8] <;> first | assumption | omega | (refine ⟨?_, ?_⟩ <;> omega)) | (simp only [List.length_append, List.length_cons, List.length_nil, Nat.reduceAdd] <;> omega)) only [Int.reduceEq, Int.reduceLT, Int.reduceLE, Int.reduceNeg, Int.reduceAdd, Int.reduceSub, Int.reduceMul, if_true, if_false, not_true, not_false_eq_true, false_or, or_false, true_or, or_true, true_and, and_true, false_and, and_false, iI_on, iI_mul, iI_add, iI_sub, iI_neg, ap_if, mp_eq, mz_0, mz_1, mz_b, b2_0, b2_1, iI_lt, iI_le, iI_inj, mb_div, mb_rem, hM.m, hM.a1, hM.a2, hM.a3, hM.a4, hM.a5, hM.a6, hM.a7, hM.a8, hM.a9, hM.a10, hM.a11, hM.a12, hM.a13, hM.a14, hM.a15, hM.a16, hM.a17, hM.a18, hM.a19, hM.a20, hM.a21, hM.a22, hM.a23, hM.a24, hM.a25, hM.a26, hM.a27, hM.a28, hM.l1, hM.l2, hM.l3, hM.l4, hM.l5, hM.l6, hM.l7, hM.l8, hM.l9, hM.l10, hM.l11, hM.l12, hM.l13, hM.l14, hM.l15, hM.l16, hM.l17, hM.l18, hM.l19, hM.l20, hM.l21, hM.l22, hM.l23, hM.l24, hM.l25, hM.l26, hM.l27, hM.l28, hM.c10, hM.c11, hM.c12, hM.c13, hM.c14, hM.c15, hM.c19, hM.c20, hM.c23, hM.c27, hM.c36, hM.c37, hM.c38, hM.c40, hM.c41, hM.c42, hM.c44, mb_eq hsh, mb_eq hw]
    · rw [e]; exact Q.fa (pA0_i B h0)
/-- there is no thirteenth line -/
theorem R_line13 (hM : OKM M h) (B : BR b0) (Q : QR g (-1) k S []) : m12_wantLine M (iI 12) (mK M (rSt b0 g (-1) k S []) h) = some ((), mK M (rSt b0 g (pA0 b0 k) k S []) h) := by
  have h0 := Q.2.2.2.2.1
  have hsh := R_sortHere (h := h) hM B Q
  have hw := R_wrong (b := b0) (h := h) hM Q
  rw [if_pos (by omega)] at hw
  by_cases c1 : 1000 ≤ CD b0 k ∧ CD b0 k ≤ 1007
  · rw [if_pos c1] at hsh
    have := c1.1
    have := c1.2
    unfold m12_wantLine m12_wantLine_p15
    simp (config := { maxSteps := 1000000 }) (disch := first | assumption | exact W.i _ _ | exact sLine_i W _ _ _ | exact W1.i _ _ | exact hg _ _ | exact W3.i _ _ | (refine ⟨?_, ?_⟩ <;> omega) | omega | (simp only [sW_1, sW_2, sW_3, sW_4, sW_5, sW_8] <;> first | assumption | omega | (refine ⟨?_, ?_⟩ <;> omega)) | (simp only [sT_1, sT_2, sT_3, sT_4, sT_5, sT_8] <;> first | assumption | omega | (refine ⟨?_, ?_⟩ <;> omega)) | (simp only [List.length_append, List.length_cons, List.length_nil, Nat.reduceAdd] <;> omega)) only [Int.reduceEq, Int.reduceLT, Int.reduceLE, Int.reduceNeg, Int.reduceAdd, Int.reduceSub, Int.reduceMul, if_true, if_false, not_true, not_false_eq_true, false_or, or_false, true_or, or_true, true_and, and_true, false_and, and_false, iI_on, iI_mul, iI_add, iI_sub, iI_neg, ap_if, mp_eq, mz_0, mz_1, mz_b, b2_0, b2_1, iI_lt, iI_le, iI_inj, mb_div, mb_rem, hM.m, hM.a1, hM.a2, hM.a3, hM.a4, hM.a5, hM.a6, hM.a7, hM.a8, hM.a9, hM.a10, hM.a11, hM.a12, hM.a13, hM.a14, hM.a15, hM.a16, hM.a17, hM.a18, hM.a19, hM.a20, hM.a21, hM.a22, hM.a23, hM.a24, hM.a25, hM.a26, hM.a27, hM.a28, hM.l1, hM.l2, hM.l3, hM.l4, hM.l5, hM.l6, hM.l7, hM.l8, hM.l9, hM.l10, hM.l11, hM.l12, hM.l13, hM.l14, hM.l15, hM.l16, hM.l17, hM.l18, hM.l19, hM.l20, hM.l21, hM.l22, hM.l23, hM.l24, hM.l25, hM.l26, hM.l27, hM.l28, hM.c10, hM.c11, hM.c12, hM.c13, hM.c14, hM.c15, hM.c19, hM.c20, hM.c23, hM.c27, hM.c36, hM.c37, hM.c38, hM.c40, hM.c41, hM.c42, hM.c44, mb_eq hsh, show ¬ CD b0 k - 1000 < 0 by omega, mb_eq hw]
  · rw [if_neg c1] at hsh
    unfold m12_wantLine m12_wantLine_p15
    simp (config := { maxSteps := 1000000 }) (disch := first | assumption | exact W.i _ _ | exact sLine_i W _ _ _ | exact W1.i _ _ | exact hg _ _ | exact W3.i _ _ | (refine ⟨?_, ?_⟩ <;> omega) | omega | (simp only [sW_1, sW_2, sW_3, sW_4, sW_5, sW_8] <;> first | assumption | omega | (refine ⟨?_, ?_⟩ <;> omega)) | (simp only [sT_1, sT_2, sT_3, sT_4, sT_5, sT_8] <;> first | assumption | omega | (refine ⟨?_, ?_⟩ <;> omega)) | (simp only [List.length_append, List.length_cons, List.length_nil, Nat.reduceAdd] <;> omega)) only [Int.reduceEq, Int.reduceLT, Int.reduceLE, Int.reduceNeg, Int.reduceAdd, Int.reduceSub, Int.reduceMul, if_true, if_false, not_true, not_false_eq_true, false_or, or_false, true_or, or_true, true_and, and_true, false_and, and_false, iI_on, iI_mul, iI_add, iI_sub, iI_neg, ap_if, mp_eq, mz_0, mz_1, mz_b, b2_0, b2_1, iI_lt, iI_le, iI_inj, mb_div, mb_rem, hM.m, hM.a1, hM.a2, hM.a3, hM.a4, hM.a5, hM.a6, hM.a7, hM.a8, hM.a9, hM.a10, hM.a11, hM.a12, hM.a13, hM.a14, hM.a15, hM.a16, hM.a17, hM.a18, hM.a19, hM.a20, hM.a21, hM.a22, hM.a23, hM.a24, hM.a25, hM.a26, hM.a27, hM.a28, hM.l1, hM.l2, hM.l3, hM.l4, hM.l5, hM.l6, hM.l7, hM.l8, hM.l9, hM.l10, hM.l11, hM.l12, hM.l13, hM.l14, hM.l15, hM.l16, hM.l17, hM.l18, hM.l19, hM.l20, hM.l21, hM.l22, hM.l23, hM.l24, hM.l25, hM.l26, hM.l27, hM.l28, hM.c10, hM.c11, hM.c12, hM.c13, hM.c14, hM.c15, hM.c19, hM.c20, hM.c23, hM.c27, hM.c36, hM.c37, hM.c38, hM.c40, hM.c41, hM.c42, hM.c44, mb_eq hsh, mb_eq hw]
end RLINE3

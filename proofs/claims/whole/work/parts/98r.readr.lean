/-! ===== a call on both: read, a right text, whole ===== -/
section READR
variable {sg rho : Nat → Int → Int} {h : gH}
/-- an old law is told alike by numbers that agree on it -/
theorem law_cg {sg' : Nat → Int → Int} {p : Nat} {v : Int} (n12 : 0 ≤ sg 5 (2 * v) ∧ sg 5 (2 * v) ≤ 12) (k5 : sg' 5 (2 * v) = sg 5 (2 * v) ∧ sg' 5 (2 * v + 1) = sg 5 (2 * v + 1)) (kl : ∀ l w, 0 ≤ l → l < 12 → 0 ≤ w → w < 7 → sLine sg' v l w = sLine sg v l w) (ks : ∀ l, 0 ≤ l → l < sg 5 (2 * v) → 4 ≤ sLine sg v l 0 → sLine sg v l 0 ≤ 6 → sSigns sg' v l = sSigns sg v l) (H : isLawO sg h p v) : isLawO sg' h p v := by
  have sT : ∀ s k, sTold sg' v s k = sTold sg v s k := fun s k => by
    unfold sTold
    rw [k5.1]
    refine fo_cg _ _ _ (fun a j j0 j1 => ?_)
    rw [kl j 0 (by omega) (by omega) (by omega) (by omega), kl j 1 (by omega) (by omega) (by omega) (by omega), kl j 2 (by omega) (by omega) (by omega) (by omega)]
  have sR : ∀ g o, sRange sg' v g o = sRange sg v g o := fun g o => by
    unfold sRange
    rw [k5.1]
    refine fo_cg _ _ _ (fun a j j0 j1 => ?_)
    rw [kl j 0 (by omega) (by omega) (by omega) (by omega), kl j 1 (by omega) (by omega) (by omega) (by omega), kl j 2 (by omega) (by omega) (by omega) (by omega), kl j 3 (by omega) (by omega) (by omega) (by omega), kl j 4 (by omega) (by omega) (by omega) (by omega)]
  have sO : sOld sg' v = sOld sg v := by
    unfold sOld
    rw [k5.1]
    refine fo_cg _ _ _ (fun a j j0 j1 => ?_)
    rw [kl j 0 (by omega) (by omega) (by omega) (by omega), kl j 1 (by omega) (by omega) (by omega) (by omega)]
  have sB : b2 (sBack sg' v) = b2 (sBack sg v) := by
    rw [← fo_back sg' v, ← fo_back sg v, k5.1]
    refine fo_cg _ _ _ (fun a j j0 j1 => ?_)
    rw [kl j 0 (by omega) (by omega) (by omega) (by omega)]
  have sL : ∀ l, 0 ≤ l → l < 12 → lawSt sg' v l = lawSt sg v l := fun l l0 l1 => by
    unfold lawSt
    rw [kl l 0 l0 l1 (by omega) (by omega), kl l 1 l0 l1 (by omega) (by omega)]
  obtain ⟨⟨a1, a2, a3, a4, a5, a6, a7⟩, b, c, d, e, nc, f1, f2, f3, cs, ce, cc, f4, f5⟩ := H
  refine ⟨⟨a1, a2, a3, by rw [k5.1]; exact a4, by rw [k5.2]; exact a5, by rw [sB]; exact a6, by rw [sO]; exact a7⟩, b, c, fun i h0 h1 => by rw [sT, sT]; exact d i h0 h1, fun g o g0 g1 o0 o1 => by rw [sR]; exact e g o g0 g1 o0 o1, nc, f1, by rw [k5.1]; exact f2, f3, cs, ce, cc, fun l l0 l1 => ?_, f5⟩
  rw [k5.1] at l1
  obtain ⟨q1, q2, q3, q4, q5⟩ := f4 l l0 l1
  have k0 := kl l 0 l0 (by omega) (by omega) (by omega)
  refine ⟨by rw [k0]; exact q1, q2, q3, by rw [sL l l0 (by omega)]; exact q4, fun x y => ?_⟩
  rw [k0] at x y
  rw [ks l l0 l1 x y]
  exact q5 x y
theorem WLn_cg {f f' sn sn' : Int → Int} (hf : ∀ w, 0 ≤ w → w < 7 → f' w = f w) (hr : 0 ≤ f 5 → f 5 + f 6 ≤ 260 → 0 ≤ f 6 → rowL sn' (f 6).toNat (f 5) = rowL sn (f 6).toNat (f 5)) (H : WLn f sn) : WLn f' sn' := by
  unfold WLn at H ⊢
  rw [hf 0 (by omega) (by omega), hf 1 (by omega) (by omega), hf 2 (by omega) (by omega), hf 3 (by omega) (by omega), hf 4 (by omega) (by omega), hf 5 (by omega) (by omega), hf 6 (by omega) (by omega)]
  obtain ⟨a, b, c, d, e, g, k⟩ := H
  refine ⟨a, b, c, d, e, g, fun q r => ?_⟩
  obtain ⟨k1, k2, k3, k4⟩ := k q r
  exact ⟨k1, k2, k3, by rw [hr k1 k3 k2]; exact k4⟩
theorem T_readG (I : Inv sg rho h) (c : (tX (CD sg) 12 0).1 = true) (c6 : sg 1 4 ≠ 6) : Both (m11_read 0) (m12_read 55) rho h := by
  have hC := I.1.1
  have hL := I.1.2.1
  have hg := I.1.2.2.1
  have hl := I.1.2.2.2.1
  have R := I.1.2.2.2.2.1
  have W := I.2.1
  have n4 := W.n4
  obtain ⟨y1, y2, y3, y4, y5⟩ := I.2.2.2.1
  have B : BR sg := ⟨I.2.1.i, y1, y2, y3⟩
  have nN := B.CN.1
  have tb := tX_b B.CN 12 0 (Int.le_refl 0) nN.1
  have hin := tX_in B.CN 12 0 (Int.le_refl 0) nN.1
  have pb := B.a tb.1.1
  obtain ⟨b', C', e1, g1, k1, z1, z2, e2, gg⟩ := C_readText I
  obtain ⟨q1, q2, q3⟩ := gg c
  have RT := fun (H : gH) (hM : OKM 55 H) => R_readText I hM
  rw [b2_t c] at e1
  generalize tX (CD sg) 12 0 = X at *
  have r8 : rC b' X.2.1 C' 1 8 = sg 1 4 := by rw [k1 1 (by omega), R.1.2.2.2.2.1]
  have r0 : rC b' X.2.1 C' 1 0 = sg 1 0 := by rw [k1 1 (by omega), R.1.1]
  have g2 : okG (s3 (rC b' X.2.1 C') 29 0 0) := g1.s ⟨by omega, by omega⟩
  have E1 : s3 (rC b' X.2.1 C') 29 0 0 29 1 = X.2.2.length := (s3_nj (by omega)).trans ((rC_o (by omega) (by omega)).trans q2)
  have E2 : s3 (rC b' X.2.1 C') 29 0 0 29 2 = C'.length := (s3_nj (by omega)).trans rC_2
  have E8 : s3 (rC b' X.2.1 C') 29 0 0 1 8 = sg 1 4 := (s3_nk (by omega)).trans r8
  have E0 : s3 (rC b' X.2.1 C') 29 0 0 1 0 = sg 1 0 := (s3_nk (by omega)).trans r0
  have rw_ : ∀ q, q = 30 ∨ q = 31 ∨ q = 32 ∨ q = 34 → s3 (rC b' X.2.1 C') 29 0 0 q = b' q := fun q hq => by
    rw [s3_o (by omega)]
    funext j
    exact rC_o (by omega) (by omega)
  have r33 : ∀ j : Int, 0 ≤ j → j < ((lnC (CD sg) X.2.2).length : Int) → s3 (rC b' X.2.1 C') 29 0 0 33 j = (lnC (CD sg) X.2.2).getD j.toNat 0 := fun j j0 j1 => by
    rw [s3_nk (by omega), rC_33 j0 (by rw [q1]; exact j1), q1]
  have kr : ∀ q, q < 29 ∨ 37 < q ∨ q = 35 → s3 (rC b' X.2.1 C') 29 0 0 q = rho q := fun q hq => (s3_o (by omega)).trans (k1 q hq)
  have ra : s3 (rC b' X.2.1 C') 29 0 0 29 0 = 0 := s3_at _ _ _ _
  obtain ⟨Z0, l0, _, _, _, _, _, a6⟩ := RT h I.2.2.2.2.1
  have lf0 := (a6 c).2.2.2.2.2
  have hn12 : (0 : Int) ≤ X.2.2.length ∧ (X.2.2.length : Int) ≤ 12 := ⟨by omega, by have := tb.2; omega⟩
  obtain ⟨h', m1, m2⟩ := C_addLawU (v := sg 1 4) (n := X.2.2.length) (nc := C'.length) hC hl g2 E1 E2 hn12 ⟨by omega, z2⟩ E8 ⟨by omega, by omega⟩ (DL_of lf0 q3 (rw_ 30 (by omega)) (rw_ 34 (by omega)))
  have hrun : m11_read 0 (cK rho h) = some (iI (sg 1 4), cK (s3 (s3 (rC b' X.2.1 C') 29 0 0) 1 8 (sg 1 4 + 1)) h') := by
    generalize rC b' X.2.1 C' = r at *
    unfold m11_read
    simp (config := { maxSteps := 1000000 }) (disch := first | assumption | exact W.i _ _ | exact sLine_i W _ _ _ | exact W1.i _ _ | exact hg _ _ | exact W3.i _ _ | (refine ⟨?_, ?_⟩ <;> omega) | omega | (simp only [sW_1, sW_2, sW_3, sW_4, sW_5, sW_8] <;> first | assumption | omega | (refine ⟨?_, ?_⟩ <;> omega)) | (simp only [sT_1, sT_2, sT_3, sT_4, sT_5, sT_8] <;> first | assumption | omega | (refine ⟨?_, ?_⟩ <;> omega)) | (simp only [List.length_append, List.length_cons, List.length_nil, Nat.reduceAdd] <;> omega)) only [Int.reduceEq, Int.reduceLT, Int.reduceLE, Int.reduceNeg, Int.reduceAdd, Int.reduceSub, Int.reduceMul, if_true, if_false, not_true, not_false_eq_true, false_or, or_false, true_or, or_true, true_and, and_true, false_and, and_false, iI_on, iI_mul, iI_add, iI_sub, iI_neg, ap_if, mp_eq, mz_0, mz_1, mz_b, b2_0, b2_1, iI_lt, iI_le, iI_inj, mb_div, mb_rem, hC.m0, hC.m1, hC.m13, hC.m15, hC.m27, hC.m29, hC.m38, hC.m40, hC.g0_0, hC.g0_1, hC.g0_3, hC.g0_4, hC.g0_5, hC.g0_6, hC.g0_7, hC.g0_8, hC.g0_9, hC.g0_10, hC.g0_11, hC.g0_12, hC.g0_13, hC.g0_14, hC.g1_2, hC.g1_3, hC.g1_5, hC.g1_7, hC.g1_9, hC.g1_11, hC.g1_12, hC.g1_14, hC.g1_15, hC.g1_16, hC.g1_17, hC.g1_18, hC.g13_0, hC.g15_2, hC.g15_3, hC.g15_5, hC.g15_7, hC.g15_9, hC.g15_11, hC.g15_12, hC.g15_14, hC.g15_15, hC.g15_16, hC.g15_17, hC.g15_18, hC.g27_0, hC.g29_3, hC.g29_4, hC.g29_5, hC.g29_6, hC.g29_7, hC.g29_8, hC.g29_9, hC.g29_10, hC.g38_0, hC.g40_0, hC.s0_2, hC.s1_0, hC.s1_1, hC.s1_4, hC.s1_6, hC.s1_8, hC.s1_10, hC.s1_13, hC.s13_1, hC.s15_0, hC.s15_1, hC.s15_4, hC.s15_6, hC.s15_8, hC.s15_10, hC.s15_13, hC.s27_1, hC.s29_0, hC.s29_1, hC.s29_2, hC.s29_11, hC.s29_12, hC.s38_1, hC.s40_1, hC.s40_2, hC.l2, hC.l3, hC.l8, hC.l9, hC.l10, hC.l11, hC.l12, hC.l14, hC.l16, hC.l17, hC.l22, hC.l23, hC.l24, hC.l25, hC.l26, hC.l28, hC.l30, hC.l31, hC.l32, hC.l33, hC.l34, hC.l36, hC.l37, hC.l39, hC.l41, hC.l43, hC.l44, hC.l45, hC.l46, hC.l47, hC.l48, hC.l49, hC.l50, hC.l51, hC.l52, hC.l53, hC.l54, hC.l35, hC.n33, hC.n36, hC.p0_2, hC.p1_0, hC.p1_1, hC.p1_4, hC.p1_6, hC.p1_8, hC.p1_10, hC.p1_13, hC.p13_1, hC.p15_0, hC.p15_1, hC.p15_4, hC.p15_6, hC.p15_8, hC.p15_10, hC.p15_13, hC.p27_1, hC.p29_0, hC.p29_1, hC.p29_2, hC.p29_11, hC.p29_12, hC.p38_1, hC.p40_1, hC.p40_2, hC.w2, hC.w3, hC.w8, hC.w9, hC.w10, hC.w11, hC.w12, hC.w14, hC.w16, hC.w17, hC.w22, hC.w23, hC.w24, hC.w25, hC.w26, hC.w28, hC.w30, hC.w31, hC.w32, hC.w33, hC.w34, hC.w36, hC.w37, hC.w39, hC.w41, hC.w43, hC.w44, hC.w45, hC.w46, hC.w47, hC.w48, hC.w49, hC.w50, hC.w51, hC.w52, hC.w53, hC.w54, s3_at, s3_nk, s3_nj, mb_eq e1, mb_eq e2, E8, r8, show sg 1 4 < 6 by omega, mb_eq m1]
  generalize s3 (rC b' X.2.1 C') 29 0 0 = rho1 at *
  have hgh : hG h h' := by
    obtain ⟨U, rfl, _⟩ := m2 _ (DL_of lf0 q3 (rw_ 30 (by omega)) (rw_ 34 (by omega)))
    refine ⟨⟨L10 X.2.2.length C'.length, rfl, Nat.le_refl 10, ?_⟩, fun q hq => ?_, fun q q0 q1 => ?_⟩
    · show (14 + (6 + (6 + (20 + (16 + (((X.2.2.length : Int)).toNat + (((X.2.2.length : Int)).toNat + (((X.2.2.length : Int)).toNat + (((C'.length : Int)).toNat + (((X.2.2.length : Int)).toNat + 0)))))))))) ≤ 400
      omega
    · funext j
      show (if q < h.1.length then h.2.1 q j else _) = _
      rw [if_pos (by omega)]
    · funext j
      show (if q = 6 ∧ j = (sg 1 4).toNat then _ else if q < h.1.length then h.2.2 q j else _) = _
      rw [if_neg (by omega), if_pos (by omega)]
  refine both_e (r := iI (sg 1 4)) (rho' := s3 rho1 1 8 (sg 1 4 + 1)) I hrun hgh (fun H hM => ?_)
  obtain ⟨Z, l', a1, a2, a3, a4, _, a6'⟩ := RT H hM
  obtain ⟨z15, z19, z12, zl, rfl, lfs⟩ := a6' c
  have Z14 : Z 1 4 = sg 1 4 := by rw [a3 1 (by omega) (by omega) (by omega) (by omega)]
  obtain ⟨Y, p1, p2, p3, p4, p5, p6, p7, p8⟩ := R_p46good (v := sg 1 4) hM a2 z15 Z14 ⟨by omega, by omega⟩ hn12 z19 ⟨by omega, zl⟩
  obtain ⟨Y', yy, e3⟩ := read_u hM (a1.trans p1)
  obtain ⟨U, hh, LU⟩ := m2 _ (DL_of lfs q3 (rw_ 30 (by omega)) (rw_ 34 (by omega)))
  have yo : ∀ q, q ≠ 0 → Y' q = Y q := fun q q0 => by
    rcases yy with e | e
    · rw [e]
    · rw [e, s3_o (by omega)]
  have y0 : ∀ j, j ≠ 20 → Y' 0 j = Y 0 j := fun j j0 => by
    rcases yy with e | e
    · rw [e]
    · rw [e, s3_nj j0]
  have gY : okG Y' := by
    rcases yy with e | e
    · rw [e]; exact p2
    · rw [e]; exact p2.s (W.i 0 20)
  have A := read_inv I (sg' := fun q => if 1 ≤ q ∧ q ≤ 9 then sg q else Y' q) (rho' := rho1) (fun q q0 q1 q2 q3 => by
    by_cases cq : 1 ≤ q ∧ q ≤ 9
    · exact if_pos cq
    · rw [if_neg cq, yo q q0, p3 q q0 (by omega) (by omega) (by omega) (by omega), a3 q q0 q1 q2 q3]) ((y0 10 (by omega)).trans p4.1) (fun j hj => (y0 j (by omega)).trans ((p4.2 j (by omega)).trans (a4 j hj))) (fun q j => by
    dsimp only
    split
    · exact W.i q j
    · exact gY q j) kr ra g2
  have hk2 : OKC h' := by
    rw [hh]
    exact (nK_ok (L := L10 X.2.2.length C'.length) (U := U) (w := wLaw h.1.length (jkW h)) hC (by omega)).of (fun q x hq => hq) (fun a ha _ _ a6 _ => by
      unfold hLaw hPr u2
      funext j
      dsimp only
      rw [if_neg (fun z => a6 z.1)])
  refine ⟨Y', ⟨A.1.up (sg' := Y') (fun q hq => ?_) (fun q hq => s3_o (by omega)) (g2.s ⟨by omega, by omega⟩) hk2 ?_ ?_ ?_ ?_ ?_, ?_, A.2.2.1, ⟨A.2.2.2.1, A.2.2.2.2.1, A.2.2.2.2.2.1, A.2.2.2.2.2.2.1, ?_⟩⟩, e3⟩
  · show Y' q = if 1 ≤ q ∧ q ≤ 9 then sg q else Y' q
    rw [if_neg (by omega)]
  · intro p m hp i h1 h2
    rw [hh] at hp ⊢
    have hp : (h.1 ++ L10 X.2.2.length C'.length)[p]? = some (4, m) := hp
    by_cases cp : p < h.1.length
    · rw [List.getElem?_append_left cp] at hp
      obtain ⟨m', hm'⟩ := hL p m hp i h1 h2
      exact ⟨m', nK_old (U := U) (w := wLaw h.1.length (jkW h)) hm'⟩
    · rw [List.getElem?_append_right (by omega)] at hp
      have hd : p - h.1.length < 10 := (List.getElem?_eq_some_iff.mp hp).1
      generalize hdd : p - h.1.length = d at hp hd
      have : d = 0 := by
        have : d = 0 ∨ d = 1 ∨ d = 2 ∨ d = 3 ∨ d = 4 ∨ d = 5 ∨ d = 6 ∨ d = 7 ∨ d = 8 ∨ d = 9 := by omega
        rcases this with rfl | rfl | rfl | rfl | rfl | rfl | rfl | rfl | rfl | rfl
        · rfl
        all_goals (exfalso; exact absurd (congrArg Prod.fst (Option.some.inj hp)) (by show ¬ (100 : Nat) = 4; omega))
      have ep : p = h.1.length := by omega
      rw [ep]
      have at_ := nK_at (h := h) (L := L10 X.2.2.length C'.length) (U := U) (w := wLaw h.1.length (jkW h)) (i := i) (by show i < 10; omega)
      have : i = 1 ∨ i = 2 ∨ i = 3 ∨ i = 4 ∨ i = 5 ∨ i = 6 ∨ i = 7 ∨ i = 8 ∨ i = 9 := by omega
      rcases this with rfl | rfl | rfl | rfl | rfl | rfl | rfl | rfl | rfl <;> exact ⟨_, at_⟩
  · have R1 : RDs 1 sg rho1 h := R.co (fun q q0 q1 => kr q (by omega))
    have zs : ∀ q, 1 ≤ q → q ≤ 9 → Z q = sg q := fun q a b => a3 q (by omega) (by omega) (by omega) (by omega)
    have ys : ∀ q, 1 ≤ q → q ≤ 9 → q ≠ 1 → q ≠ 5 → q ≠ 6 → q ≠ 7 → Y' q = sg q := fun q a b c1 c5 c6 c7 => by rw [yo q (by omega), p3 q (by omega) c1 c5 c6 c7, zs q a b]
    have y1s : ∀ j, j ≠ 4 → Y' 1 j = sg 1 j := fun j hj => by rw [yo 1 (by omega), p5.2 j hj, zs 1 (by omega) (by omega)]
    have y14 : Y' 1 4 = sg 1 4 + 1 := by rw [yo 1 (by omega), p5.1]
    have old : ∀ (q : Nat) (x : Nat × Nat), h.1[q]? = some x → h'.1[q]? = some x := fun q x hq => by rw [hh]; exact nK_old (U := U) (w := wLaw h.1.length (jkW h)) hq
    have keep : ∀ q, 84 ≤ q → q < h.1.length → h'.2.1 q = h.2.1 q ∧ h'.2.2 q = h.2.2 q := fun q q0 q1 => by
      rw [hh]
      constructor
      · funext j
        show (if q < h.1.length then h.2.1 q j else _) = _
        rw [if_pos q1]
      · funext j
        show (if q = 6 ∧ j = (sg 1 4).toNat then _ else if q < h.1.length then h.2.2 q j else _) = _
        rw [if_neg (by omega), if_pos q1]
    have r457 : ∀ q, q < 84 → q ≠ 6 → h'.2.2 q = h.2.2 q := fun q q0 q1 => by
      rw [hh]
      funext j
      show (if q = 6 ∧ j = (sg 1 4).toNat then _ else if q < h.1.length then h.2.2 q j else _) = _
      rw [if_neg (by omega), if_pos (by omega)]
    have r6 : ∀ j, h'.2.2 6 j = if j = (sg 1 4).toNat then some h.1.length else h.2.2 6 j := fun j => by
      rw [hh]
      show (if 6 = 6 ∧ j = (sg 1 4).toNat then some h.1.length else if 6 < h.1.length then h.2.2 6 j else _) = _
      by_cases cj : j = (sg 1 4).toNat
      · rw [if_pos ⟨rfl, cj⟩, if_pos cj]
      · rw [if_neg (fun z => cj z.2), if_neg cj, if_pos (by omega)]
    obtain ⟨⟨b0, b1, b2', b3, b4, b5, b6⟩, R2, R3, R4, R5, R6, R7, R8⟩ := R1
    refine ⟨⟨?_, ?_, ?_, ?_, ?_, ?_, ?_⟩, ?_, ?_, ?_, ?_, ?_, ?_, ?_⟩
    · rw [s3_nj (by omega), y1s 0 (by omega)]; exact b0
    · rw [s3_nj (by omega), y1s 1 (by omega)]; exact b1
    · rw [s3_nj (by omega), y1s 2 (by omega)]; exact b2'
    · rw [s3_nj (by omega), y1s 3 (by omega)]; exact b3
    · rw [s3_at, y14]
    · rw [s3_nj (by omega), y1s 5 (by omega)]; exact b5
    · rw [s3_nj (by omega), y1s 6 (by omega)]; exact b6
    · intro i h0 h1
      rw [y1s 1 (by omega)] at h1
      rw [ys 2 (by omega) (by omega) (by omega) (by omega) (by omega) (by omega), s3_nk (by omega), s3_nk (by omega)]
      exact R2 i h0 h1
    · intro i h0 h1
      rw [y1s 2 (by omega)] at h1
      obtain ⟨p, a, b⟩ := R3 i h0 h1
      refine ⟨p, by rw [r457 4 (by omega) (by omega)]; exact a, ?_⟩
      have b := b.ext old keep
      unfold isDeedO sAge sAgeOn at b ⊢
      rw [ys 3 (by omega) (by omega) (by omega) (by omega) (by omega) (by omega), ys 2 (by omega) (by omega) (by omega) (by omega) (by omega) (by omega)]
      exact b
    · intro i h0 h1
      rw [y1s 3 (by omega)] at h1
      obtain ⟨p, a, b⟩ := R4 i h0 h1
      refine ⟨p, by rw [r457 5 (by omega) (by omega)]; exact a, ?_⟩
      have b := isFindO.ext old keep (by show dpt h'.2.2 4 _ = dpt h.2.2 4 _; unfold dpt; rw [r457 4 (by omega) (by omega)]) b
      unfold isFindO at b ⊢
      rw [ys 4 (by omega) (by omega) (by omega) (by omega) (by omega) (by omega)]
      exact b
    · intro i h0 h1
      rw [y14] at h1
      have hsn : ∀ j : Int, 0 ≤ j → j < ((lnS (CD sg) X.2.2).length : Int) → sSg Y' (sg 1 4) j = (lnS (CD sg) X.2.2).getD j.toNat 0 := fun j j0 j1 => by
        unfold sSg
        rw [yo 7 (by omega), p8.1 j j0 j1]
        exact z12 j j0 j1
      have hsl : ∀ l w, 0 ≤ l → l < (X.2.2.length : Int) → 0 ≤ w → w < 7 → sLine Y' (sg 1 4) l w = Z 11 (7 * l + w) := fun l w l0 l1 w0 w1 => by
        unfold sLine
        rw [yo 6 (by omega), show 84 * sg 1 4 + 7 * l + w = 84 * sg 1 4 + (7 * l + w) by omega]
        exact p7.1 _ (by omega) (by omega)
      by_cases ci : i = sg 1 4
      · rw [ci]
        refine ⟨h.1.length, by show h'.2.2 6 _ = _; rw [r6, if_pos rfl], ?_⟩
        have hDL := DL_of lfs q3 (rw_ 30 (by omega)) (rw_ 34 (by omega))
        rw [hh]
        refine law_new (rho := rho1) hl ⟨by omega, by omega⟩ hn12 ⟨by omega, z2⟩ LU ?_ ?_ hsl (fun l l0 l1 => (hDL l l0 l1).2.1) (fun l l0 l1 q4 q6 => ?_)
        · rw [yo 5 (by omega), p6.2.1, E0, zs 1 (by omega) (by omega)]
        · rw [yo 5 (by omega), p6.1]
        · have q4 : 4 ≤ Z 11 (7 * l + 0) := q4
          have q6 : Z 11 (7 * l + 0) ≤ 6 := q6
          rw [Int.add_zero] at q4 q6
          have key := code_of (cc := rho1 33) B.CN hin lfs q3 hsn r33 l0 l1 q4 q6
          rw [← rw_ 31 (by omega), ← rw_ 32 (by omega)] at key
          obtain ⟨k1', k2', k3', k4', k5'⟩ := key
          refine ⟨k1', k2', by rw [q1]; exact k3', k4', fun e he => ?_⟩
          unfold sSigns
          rw [hsl l 6 l0 l1 (by omega) (by omega), hsl l 5 l0 l1 (by omega) (by omega)]
          exact k5' e he
      · obtain ⟨p, a, b⟩ := R5 i h0 (by omega)
        have nv := W.ve i h0 (by omega)
        have kl : ∀ l w, 0 ≤ l → l < 12 → 0 ≤ w → w < 7 → sLine Y' i l w = sLine sg i l w := fun l w l0 l1 w0 w1 => by
          unfold sLine
          rw [yo 6 (by omega), p7.2 _ (by omega), zs 6 (by omega) (by omega)]
        refine ⟨p, by show h'.2.2 6 _ = _; rw [r6, if_neg (by omega)]; exact a, law_cg ⟨by omega, by omega⟩ ⟨by rw [yo 5 (by omega), p6.2.2 _ (by omega) (by omega), zs 5 (by omega) (by omega)], by rw [yo 5 (by omega), p6.2.2 _ (by omega) (by omega), zs 5 (by omega) (by omega)]⟩ kl (fun l l0 l1 q4 q6 => ?_) (isLawO.ext old keep b)⟩
        unfold sSigns
        rw [kl l 6 l0 (by omega) (by omega) (by omega), kl l 5 l0 (by omega) (by omega) (by omega)]
        have wl := (W.2.2.2.2.2.2.2.2.2.2.2.2.2.2.2 i h0 (by omega) l l0 l1).2.2.2.2.2.2 q4 q6
        refine rowL_cg _ _ (fun j j0 j1 => ?_)
        unfold sSg
        rw [yo 7 (by omega), p8.2 _ (by omega), zs 7 (by omega) (by omega)]
    · intro i h0 h1
      rw [y1s 5 (by omega)] at h1
      obtain ⟨p, a, b⟩ := R6 i h0 h1
      refine ⟨p, by rw [r457 7 (by omega) (by omega)]; exact a, ?_⟩
      have b := isTermO.ext old keep (by show dpt h'.2.2 4 _ = dpt h.2.2 4 _; unfold dpt; rw [r457 4 (by omega) (by omega)]) b
      unfold isTermO at b ⊢
      rw [ys 8 (by omega) (by omega) (by omega) (by omega) (by omega) (by omega)]
      exact b
    · intro i h0 h1
      rw [y1s 5 (by omega)] at h1
      rw [ys 8 (by omega) (by omega) (by omega) (by omega) (by omega) (by omega), s3_nk (by omega)]
      exact R7 i h0 h1
    · intro i h0 h1
      rw [y1s 6 (by omega)] at h1
      rw [ys 9 (by omega) (by omega) (by omega) (by omega) (by omega) (by omega), s3_nk (by omega), s3_nk (by omega), s3_nk (by omega)]
      exact R8 i h0 h1
  · intro q x hq
    rw [hh]
    exact nK_old (U := U) (w := wLaw h.1.length (jkW h)) hq
  · intro q q0 q1
    rw [hh]
    constructor
    · funext j
      show (if q < h.1.length then h.2.1 q j else _) = _
      rw [if_pos q1]
    · funext j
      show (if q = 6 ∧ j = (sg 1 4).toNat then _ else if q < h.1.length then h.2.2 q j else _) = _
      rw [if_neg (by omega), if_pos q1]
  · intro q q0 q1
    rw [hh]
    funext j
    show (if q = 6 ∧ j = (sg 1 4).toNat then _ else if q < h.1.length then h.2.2 q j else _) = _
    rw [if_neg (by omega), if_pos (by omega)]
  · have zs : ∀ q, 1 ≤ q → q ≤ 9 → Z q = sg q := fun q a b => a3 q (by omega) (by omega) (by omega) (by omega)
    have ys : ∀ q, 1 ≤ q → q ≤ 9 → q ≠ 1 → q ≠ 5 → q ≠ 6 → q ≠ 7 → Y' q = sg q := fun q a b c1 c5 c6 c7 => by rw [yo q (by omega), p3 q (by omega) c1 c5 c6 c7, zs q a b]
    have y1s : ∀ j, j ≠ 4 → Y' 1 j = sg 1 j := fun j hj => by rw [yo 1 (by omega), p5.2 j hj, zs 1 (by omega) (by omega)]
    have y14 : Y' 1 4 = sg 1 4 + 1 := by rw [yo 1 (by omega), p5.1]
    have hsl : ∀ l w, 0 ≤ l → l < (X.2.2.length : Int) → 0 ≤ w → w < 7 → sLine Y' (sg 1 4) l w = Z 11 (7 * l + w) := fun l w l0 l1 w0 w1 => by
      unfold sLine
      rw [yo 6 (by omega), show 84 * sg 1 4 + 7 * l + w = 84 * sg 1 4 + (7 * l + w) by omega]
      exact p7.1 _ (by omega) (by omega)
    have hsn : ∀ j : Int, 0 ≤ j → j < ((lnS (CD sg) X.2.2).length : Int) → Y' 7 (260 * sg 1 4 + j) = (lnS (CD sg) X.2.2).getD j.toNat 0 := fun j j0 j1 => by
      rw [yo 7 (by omega), p8.1 j j0 j1]
      exact z12 j j0 j1
    obtain ⟨_, m0, m1', m2', m3, m4, m5, m6, m7, m8, m9, m10, m11, m12, m13, m14⟩ := W
    have i1 : i32 (sg 1 4 + 1) := ⟨by omega, by omega⟩
    unfold WD
    rw [ys 2 (by omega) (by omega) (by omega) (by omega) (by omega) (by omega), ys 3 (by omega) (by omega) (by omega) (by omega) (by omega) (by omega), ys 4 (by omega) (by omega) (by omega) (by omega) (by omega) (by omega), ys 8 (by omega) (by omega) (by omega) (by omega) (by omega) (by omega), ys 9 (by omega) (by omega) (by omega) (by omega) (by omega) (by omega), y1s 0 (by omega), y1s 1 (by omega), y1s 2 (by omega), y1s 3 (by omega), y1s 5 (by omega), y1s 6 (by omega), y14]
    refine ⟨gY, m0, m1', m2', m3, ⟨by omega, by omega⟩, m5, m6, m7, m8, m9, fun i h0 h1 => ?_, m11, m12, m13, fun i h0 h1 l l0 l1 => ?_⟩
    · by_cases ci : i = sg 1 4
      · rw [ci, yo 5 (by omega), p6.1, p6.2.1, zs 1 (by omega) (by omega)]
        exact ⟨by omega, by omega, by omega, Int.le_refl _⟩
      · rw [yo 5 (by omega), p6.2.2 _ (by omega) (by omega), p6.2.2 _ (by omega) (by omega), zs 5 (by omega) (by omega)]
        exact m10 i h0 (by omega)
    · by_cases ci : i = sg 1 4
      · subst ci
        rw [yo 5 (by omega), p6.1] at l1
        exact WLn_cg (f := fun w => Z 11 (7 * l + w)) (sn := fun j => Y' 7 (260 * sg 1 4 + j)) (fun w w0 w1 => hsl l w l0 l1 w0 w1) (fun _ _ _ => rfl) (WLn_of B.CN hin lfs q3 hsn zl l0 l1)
      · rw [yo 5 (by omega), p6.2.2 _ (by omega) (by omega), zs 5 (by omega) (by omega)] at l1
        have nv := m10 i h0 (by omega)
        refine WLn_cg (fun w w0 w1 => ?_) (fun f0 f1 f2 => ?_) (m14 i h0 (by omega) l l0 l1)
        · unfold sLine
          rw [yo 6 (by omega), p7.2 _ (by omega), zs 6 (by omega) (by omega)]
        · refine rowL_cg _ _ (fun j j0 j1 => ?_)
          rw [yo 7 (by omega), p8.2 _ (by omega), zs 7 (by omega) (by omega)]
  · intro q j h1 h2 h3
    rw [yo q (by omega)]
    have zs : ∀ q, 1 ≤ q → q ≤ 9 → Z q = sg q := fun q a b => a3 q (by omega) (by omega) (by omega) (by omega)
    by_cases c1 : q = 1
    · subst c1
      have h3 : j < 0 ∨ (7 : Int) ≤ j := h3
      rw [p5.2 j (by omega), zs 1 (by omega) (by omega)]
      exact y5 1 j (by omega) (by omega) h3
    · by_cases c5 : q = 5
      · subst c5
        have h3 : j < 0 ∨ (12 : Int) ≤ j := h3
        rw [p6.2.2 j (by omega) (by omega), zs 5 (by omega) (by omega)]
        exact y5 5 j (by omega) (by omega) h3
      · by_cases c6' : q = 6
        · subst c6'
          have h3 : j < 0 ∨ (504 : Int) ≤ j := h3
          rw [p7.2 j (by omega), zs 6 (by omega) (by omega)]
          exact y5 6 j (by omega) (by omega) h3
        · by_cases c7 : q = 7
          · subst c7
            have h3 : j < 0 ∨ (1560 : Int) ≤ j := h3
            rw [p8.2 j (by omega), zs 7 (by omega) (by omega)]
            exact y5 7 j (by omega) (by omega) h3
          · rw [p3 q (by omega) c1 c5 c6' c7, zs q h1 h2]
            exact y5 q j h1 h2 h3
theorem T_read (I : Inv sg rho h) : Both (m11_read 0) (m12_read 55) rho h := by
  by_cases c : (tX (CD sg) 12 0).1 = true
  · by_cases c6 : sg 1 4 = 6
    · exact T_readF I c c6
    · exact T_readG I c c6
  · exact T_readB I (ftn c)
end READR

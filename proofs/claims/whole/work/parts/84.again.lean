/-! ===== a call on both: keep, again ===== -/
section AGAIN
variable {M : Nat} {sg rho : Nat → Int → Int} {h : gH}
theorem kG_i (W : okG sg) : okG (kG sg) := fun k j => by
  unfold kG
  split
  · exact W _ _
  · exact ⟨by omega, by omega⟩
/-- what has been moved into the kept row: rows 1 to m - 1 -/
def KP (sg : Nat → Int → Int) (m : Nat) (s : Nat → Int → Int) : Prop := okG s ∧ (∀ q, q ≠ 0 → q ≠ 28 → s q = sg q) ∧ (∀ j, j ≠ 44 → s 0 j = sg 0 j) ∧ s 0 44 = offK m ∧ ∀ k, 1 ≤ k → k < m → ∀ j, 0 ≤ j → j < lenK k → s 28 (offK k + j) = sg k j
theorem offK_s {k m : Nat} (h1 : 1 ≤ k) (h2 : k < m) (h3 : m ≤ 9) : offK k + lenK k ≤ offK m := by
  have a : k = 1 ∨ k = 2 ∨ k = 3 ∨ k = 4 ∨ k = 5 ∨ k = 6 ∨ k = 7 ∨ k = 8 := by omega
  have b : m = 2 ∨ m = 3 ∨ m = 4 ∨ m = 5 ∨ m = 6 ∨ m = 7 ∨ m = 8 ∨ m = 9 := by omega
  rcases a with rfl | rfl | rfl | rfl | rfl | rfl | rfl | rfl <;> rcases b with rfl | rfl | rfl | rfl | rfl | rfl | rfl | rfl <;> first | omega | exact Int.le_of_ble_eq_true rfl | decide
theorem B_moveK (hM : OKM M h) {m len : Nat} {s : Nat → Int → Int} (h1 : 1 ≤ m) (h9 : m ≤ 9) (hk : mLn m = some len) (el : lenK m = len) (eo : offK (m + 1) = offK m + len) (ho : 0 ≤ offK m ∧ offK m + len ≤ 2391) (hl : len ≤ 1560) (H : KP sg m s) : ∃ s', KP sg (m + 1) s' ∧ m12_move M (M + m) (iI len) (iI 1) (mK M s h) = some ((), mK M s' h) := by
  have key := lopQ (F := fun n (_ : Unit) i t => m12_move_p3 n M (M + m) (iI len) (iI 1) (iI i) t) (K := fun _ t => some ((), t)) (N := len) (st := fun _ _ => ()) (R := fun _ i t => ∃ s', t = mK M s' h ∧ okG s' ∧ (∀ q, q ≠ 0 → q ≠ 28 → s' q = sg q) ∧ (∀ j, j ≠ 44 → s' 0 j = sg 0 j) ∧ s' 0 44 = offK m + i ∧ (∀ k, 1 ≤ k → k < m → ∀ j, 0 ≤ j → j < lenK k → s' 28 (offK k + j) = sg k j) ∧ ∀ j, 0 ≤ j → j < i → s' 28 (offK m + j) = sg m j) (fun n a t hR => ?_) (fun n a i t hR h2 h3 => ?_) len FU () 0 (mK M s h) ⟨s, rfl, H.1, H.2.1, H.2.2.1, by rw [H.2.2.2.1]; omega, H.2.2.2.2, fun j j0 j1 => by omega⟩ (by omega) (by omega) (FU_lt (by omega))
  · obtain ⟨t, ⟨s', rfl, a1, a2, a3, a4, a5, a6⟩, e⟩ := key
    refine ⟨s', ⟨a1, a2, a3, by rw [a4, eo], fun k k1 k2 j j0 j1 => ?_⟩, ?_⟩
    · by_cases c : k = m
      · subst c
        exact a6 j j0 (by omega)
      · exact a5 k k1 (by omega) j j0 j1
    · unfold m12_move
      exact e
  · obtain ⟨s', rfl, a1, a2, a3, a4, a5, a6⟩ := hR
    show m12_move_p3 (n + 1) M (M + m) (iI len) (iI 1) (iI len) (mK M s' h) = some ((), mK M s' h)
    rw [m12_move_p3]
    simp (config := { maxSteps := 1000000 }) (disch := first | assumption | exact W.i _ _ | exact sLine_i W _ _ _ | exact W1.i _ _ | exact hg _ _ | exact W3.i _ _ | (refine ⟨?_, ?_⟩ <;> omega) | omega | (simp only [sW_1, sW_2, sW_3, sW_4, sW_5, sW_8] <;> first | assumption | omega | (refine ⟨?_, ?_⟩ <;> omega)) | (simp only [sT_1, sT_2, sT_3, sT_4, sT_5, sT_8] <;> first | assumption | omega | (refine ⟨?_, ?_⟩ <;> omega)) | (simp only [List.length_append, List.length_cons, List.length_nil, Nat.reduceAdd] <;> omega)) only [Int.reduceEq, Int.reduceLT, Int.reduceLE, Int.reduceNeg, Int.reduceAdd, Int.reduceSub, Int.reduceMul, if_true, if_false, not_true, not_false_eq_true, false_or, or_false, true_or, or_true, true_and, and_true, false_and, and_false, iI_on, iI_mul, iI_add, iI_sub, iI_neg, ap_if, mp_eq, mz_0, mz_1, mz_b, b2_0, b2_1, iI_lt, iI_le, iI_inj, mb_div, mb_rem]
    rw [if_pos (by omega)]
  · obtain ⟨s', rfl, a1, a2, a3, a4, a5, a6⟩ := hR
    have em : s' m = sg m := a2 m (by omega) (by omega)
    have ld : ∀ (f : Int32 → gM Unit), mb (gLdI 100 (M + m) (iI i)) f (mK M s' h) = f (iI (sg m i)) (mK M s' h) := fun f => by
      rw [hM.ld hk (by omega) h2 h3 (by omega), em]
    have im : i32 (sg m i) := by rw [← em]; exact a1 _ _
    refine ⟨mK M (s3 (s3 s' 28 (offK m + i) (sg m i)) 0 44 (offK m + (i + 1))) h, ⟨_, rfl, (okG.s a1 im).s ⟨by omega, by omega⟩, fun q q0 q1 => ?_, fun j j0 => ?_, s3_at _ _ _ _, fun k k1 k2 j j0 j1 => ?_, fun j j0 j1 => ?_⟩, ?_⟩
    · rw [s3_o q0, s3_o q1]
      exact a2 q q0 q1
    · rw [s3_nj j0, s3_nk (by omega)]
      exact a3 j j0
    · have := offK_s k1 k2 h9
      rw [s3_nk (by omega), s3_nj (by omega)]
      exact a5 k k1 k2 j j0 j1
    · rw [s3_nk (by omega)]
      by_cases c : j = i
      · subst c
        exact s3_at _ _ _ _
      · rw [s3_nj (by omega)]
        exact a6 j j0 (by omega)
    · show m12_move_p3 (n + 1) M (M + m) (iI len) (iI 1) (iI i) (mK M s' h) = m12_move_p3 n M (M + m) (iI len) (iI 1) (iI (i + 1)) (mK M _ h)
      have e5 : offK m + i + 1 = offK m + (i + 1) := by omega
      rw [m12_move_p3]
      simp (config := { maxSteps := 1000000 }) (disch := first | assumption | exact W.i _ _ | exact sLine_i W _ _ _ | exact W1.i _ _ | exact hg _ _ | exact W3.i _ _ | (refine ⟨?_, ?_⟩ <;> omega) | omega | (simp only [sW_1, sW_2, sW_3, sW_4, sW_5, sW_8] <;> first | assumption | omega | (refine ⟨?_, ?_⟩ <;> omega)) | (simp only [sT_1, sT_2, sT_3, sT_4, sT_5, sT_8] <;> first | assumption | omega | (refine ⟨?_, ?_⟩ <;> omega)) | (simp only [List.length_append, List.length_cons, List.length_nil, Nat.reduceAdd] <;> omega)) only [Int.reduceEq, Int.reduceLT, Int.reduceLE, Int.reduceNeg, Int.reduceAdd, Int.reduceSub, Int.reduceMul, if_true, if_false, not_true, not_false_eq_true, false_or, or_false, true_or, or_true, true_and, and_true, false_and, and_false, iI_on, iI_mul, iI_add, iI_sub, iI_neg, ap_if, mp_eq, mz_0, mz_1, mz_b, b2_0, b2_1, iI_lt, iI_le, iI_inj, mb_div, mb_rem, hM.m, hM.a1, hM.a2, hM.a3, hM.a4, hM.a5, hM.a6, hM.a7, hM.a8, hM.a9, hM.a10, hM.a11, hM.a12, hM.a13, hM.a14, hM.a15, hM.a16, hM.a17, hM.a18, hM.a19, hM.a20, hM.a21, hM.a22, hM.a23, hM.a24, hM.a25, hM.a26, hM.a27, hM.a28, hM.l1, hM.l2, hM.l3, hM.l4, hM.l5, hM.l6, hM.l7, hM.l8, hM.l9, hM.l10, hM.l11, hM.l12, hM.l13, hM.l14, hM.l15, hM.l16, hM.l17, hM.l18, hM.l19, hM.l20, hM.l21, hM.l22, hM.l23, hM.l24, hM.l25, hM.l26, hM.l27, hM.l28, hM.c10, hM.c11, hM.c12, hM.c13, hM.c14, hM.c15, hM.c19, hM.c20, hM.c23, hM.c27, hM.c36, hM.c37, hM.c38, hM.c40, hM.c41, hM.c42, hM.c44, hM.w1, hM.w2, hM.w3, hM.w4, hM.w5, hM.w6, hM.w7, hM.w8, hM.w9, hM.w10, hM.w11, hM.w12, hM.w13, hM.w14, hM.w15, hM.w16, hM.w17, hM.w18, hM.w19, hM.w20, hM.w21, hM.w22, hM.w23, hM.w24, hM.w25, hM.w26, hM.w27, hM.w28, hM.p10, hM.p11, hM.p12, hM.p13, hM.p14, hM.p15, hM.p19, hM.p20, hM.p23, hM.p27, hM.p36, hM.p37, hM.p38, hM.p40, hM.p41, hM.p42, hM.p44, s3_at, s3_nk, s3_nj, show ¬ (len : Int) ≤ i by omega, ld, a4, hM.get (k := 43) (o := 28) rfl, hM.sc 44, hM.ps 44, m12_move_p42, e5]
/-- what has been moved out of the kept row -/
def KQ (sg : Nat → Int → Int) (m : Nat) (s : Nat → Int → Int) : Prop := okG s ∧ (∀ q, q ≠ 0 → (m ≤ q ∨ 10 ≤ q) → s q = sg q) ∧ (∀ j, j ≠ 44 → s 0 j = sg 0 j) ∧ s 0 44 = offK m ∧ ∀ k, 1 ≤ k → k < m → ∀ j, s k j = kG sg k j
theorem B_moveA (hM : OKM M h) (J : JZ sg) {m len : Nat} {s : Nat → Int → Int} (h1 : 1 ≤ m) (h9 : m ≤ 9) (hk : mLn m = some len) (el : lenK m = len) (eo : offK (m + 1) = offK m + len) (ho : 0 ≤ offK m ∧ offK m + len ≤ 2391) (hl : len ≤ 1560) (H : KQ sg m s) : ∃ s', KQ sg (m + 1) s' ∧ m12_move M (M + m) (iI len) (iI 0) (mK M s h) = some ((), mK M s' h) := by
  have key := lopQ (F := fun n (_ : Unit) i t => m12_move_p3 n M (M + m) (iI len) (iI 0) (iI i) t) (K := fun _ t => some ((), t)) (N := len) (st := fun _ _ => ()) (R := fun _ i t => ∃ s', t = mK M s' h ∧ okG s' ∧ (∀ q, q ≠ 0 → (m + 1 ≤ q ∨ 10 ≤ q) → s' q = sg q) ∧ (∀ j, j ≠ 44 → s' 0 j = sg 0 j) ∧ s' 0 44 = offK m + i ∧ (∀ k, 1 ≤ k → k < m → ∀ j, s' k j = kG sg k j) ∧ (∀ j, 0 ≤ j → j < i → s' m j = sg 28 (offK m + j)) ∧ ∀ j, (j < 0 ∨ i ≤ j) → s' m j = sg m j) (fun n a t hR => ?_) (fun n a i t hR h2 h3 => ?_) len FU () 0 (mK M s h) ⟨s, rfl, H.1, fun q q0 q1 => H.2.1 q q0 (by omega), H.2.2.1, by rw [H.2.2.2.1]; omega, H.2.2.2.2, fun j j0 j1 => by omega, fun j _ => by rw [H.2.1 m (by omega) (by omega)]⟩ (by omega) (by omega) (FU_lt (by omega))
  · obtain ⟨t, ⟨s', rfl, a1, a2, a3, a4, a5, a6, a7⟩, e⟩ := key
    refine ⟨s', ⟨a1, a2, a3, by rw [a4, eo], fun k k1 k2 j => ?_⟩, ?_⟩
    · by_cases c : k = m
      · subst c
        unfold kG
        by_cases cj : 0 ≤ j ∧ j < lenK k
        · rw [if_pos cj]
          exact a6 j cj.1 (by omega)
        · rw [if_neg cj, a7 j (by omega)]
          exact J k j k1 h9 (by omega)
      · exact a5 k k1 (by omega) j
    · unfold m12_move
      exact e
  · obtain ⟨s', rfl, _⟩ := hR
    show m12_move_p3 (n + 1) M (M + m) (iI len) (iI 0) (iI len) (mK M s' h) = some ((), mK M s' h)
    rw [m12_move_p3]
    simp (config := { maxSteps := 1000000 }) (disch := first | assumption | exact W.i _ _ | exact sLine_i W _ _ _ | exact W1.i _ _ | exact hg _ _ | exact W3.i _ _ | (refine ⟨?_, ?_⟩ <;> omega) | omega | (simp only [sW_1, sW_2, sW_3, sW_4, sW_5, sW_8] <;> first | assumption | omega | (refine ⟨?_, ?_⟩ <;> omega)) | (simp only [sT_1, sT_2, sT_3, sT_4, sT_5, sT_8] <;> first | assumption | omega | (refine ⟨?_, ?_⟩ <;> omega)) | (simp only [List.length_append, List.length_cons, List.length_nil, Nat.reduceAdd] <;> omega)) only [Int.reduceEq, Int.reduceLT, Int.reduceLE, Int.reduceNeg, Int.reduceAdd, Int.reduceSub, Int.reduceMul, if_true, if_false, not_true, not_false_eq_true, false_or, or_false, true_or, or_true, true_and, and_true, false_and, and_false, iI_on, iI_mul, iI_add, iI_sub, iI_neg, ap_if, mp_eq, mz_0, mz_1, mz_b, b2_0, b2_1, iI_lt, iI_le, iI_inj, mb_div, mb_rem]
    rw [if_pos (by omega)]
  · obtain ⟨s', rfl, a1, a2, a3, a4, a5, a6, a7⟩ := hR
    have e28 : s' 28 = sg 28 := a2 28 (by omega) (by omega)
    have st : ∀ (v : Int) (f : Unit → gM Unit), mb (gStI 100 (M + m) (iI i) (iI v)) f (mK M s' h) = f () (mK M (s3 s' m i v) h) := fun v f => hM.st hk (by omega) h2 h3 (by omega) f
    have i28 : i32 (sg 28 (offK m + i)) := by rw [← e28]; exact a1 _ _
    refine ⟨mK M (s3 (s3 s' m i (sg 28 (offK m + i))) 0 44 (offK m + (i + 1))) h, ⟨_, rfl, (okG.s a1 i28).s ⟨by omega, by omega⟩, fun q q0 q1 => ?_, fun j j0 => ?_, s3_at _ _ _ _, fun k k1 k2 j => ?_, fun j j0 j1 => ?_, fun j j0 => ?_⟩, ?_⟩
    · rw [s3_o q0, s3_o (by omega)]
      exact a2 q q0 q1
    · rw [s3_nj j0, s3_nk (by omega)]
      exact a3 j j0
    · rw [s3_nk (by omega), s3_nk (by omega)]
      exact a5 k k1 k2 j
    · rw [s3_nk (by omega)]
      by_cases c : j = i
      · subst c
        exact s3_at _ _ _ _
      · rw [s3_nj (by omega)]
        exact a6 j j0 (by omega)
    · rw [s3_nk (by omega), s3_nj (by omega)]
      exact a7 j (by omega)
    · show m12_move_p3 (n + 1) M (M + m) (iI len) (iI 0) (iI i) (mK M s' h) = m12_move_p3 n M (M + m) (iI len) (iI 0) (iI (i + 1)) (mK M _ h)
      have e5 : offK m + i + 1 = offK m + (i + 1) := by omega
      rw [m12_move_p3]
      simp (config := { maxSteps := 1000000 }) (disch := first | assumption | exact W.i _ _ | exact sLine_i W _ _ _ | exact W1.i _ _ | exact hg _ _ | exact W3.i _ _ | (refine ⟨?_, ?_⟩ <;> omega) | omega | (simp only [sW_1, sW_2, sW_3, sW_4, sW_5, sW_8] <;> first | assumption | omega | (refine ⟨?_, ?_⟩ <;> omega)) | (simp only [sT_1, sT_2, sT_3, sT_4, sT_5, sT_8] <;> first | assumption | omega | (refine ⟨?_, ?_⟩ <;> omega)) | (simp only [List.length_append, List.length_cons, List.length_nil, Nat.reduceAdd] <;> omega)) only [Int.reduceEq, Int.reduceLT, Int.reduceLE, Int.reduceNeg, Int.reduceAdd, Int.reduceSub, Int.reduceMul, if_true, if_false, not_true, not_false_eq_true, false_or, or_false, true_or, or_true, true_and, and_true, false_and, and_false, iI_on, iI_mul, iI_add, iI_sub, iI_neg, ap_if, mp_eq, mz_0, mz_1, mz_b, b2_0, b2_1, iI_lt, iI_le, iI_inj, mb_div, mb_rem, hM.m, hM.a1, hM.a2, hM.a3, hM.a4, hM.a5, hM.a6, hM.a7, hM.a8, hM.a9, hM.a10, hM.a11, hM.a12, hM.a13, hM.a14, hM.a15, hM.a16, hM.a17, hM.a18, hM.a19, hM.a20, hM.a21, hM.a22, hM.a23, hM.a24, hM.a25, hM.a26, hM.a27, hM.a28, hM.l1, hM.l2, hM.l3, hM.l4, hM.l5, hM.l6, hM.l7, hM.l8, hM.l9, hM.l10, hM.l11, hM.l12, hM.l13, hM.l14, hM.l15, hM.l16, hM.l17, hM.l18, hM.l19, hM.l20, hM.l21, hM.l22, hM.l23, hM.l24, hM.l25, hM.l26, hM.l27, hM.l28, hM.c10, hM.c11, hM.c12, hM.c13, hM.c14, hM.c15, hM.c19, hM.c20, hM.c23, hM.c27, hM.c36, hM.c37, hM.c38, hM.c40, hM.c41, hM.c42, hM.c44, hM.w1, hM.w2, hM.w3, hM.w4, hM.w5, hM.w6, hM.w7, hM.w8, hM.w9, hM.w10, hM.w11, hM.w12, hM.w13, hM.w14, hM.w15, hM.w16, hM.w17, hM.w18, hM.w19, hM.w20, hM.w21, hM.w22, hM.w23, hM.w24, hM.w25, hM.w26, hM.w27, hM.w28, hM.p10, hM.p11, hM.p12, hM.p13, hM.p14, hM.p15, hM.p19, hM.p20, hM.p23, hM.p27, hM.p36, hM.p37, hM.p38, hM.p40, hM.p41, hM.p42, hM.p44, s3_at, s3_nk, s3_nj, show ¬ (len : Int) ≤ i by omega, st, a4, e28, hM.get (k := 43) (o := 28) rfl, hM.sc 44, hM.ps 44, m12_move_p42, e5, show (0 : Nat) ≠ m by omega]
theorem nc44 : ((44 : Nat) : Int) = 44 := rfl
theorem B_moveAllK (hM : OKM M h) (W : okG sg) : ∃ s', KP sg 10 s' ∧ m12_moveAll M (iI 1) (mK M sg h) = some ((), mK M s' h) := by
  have H0 : KP sg 1 (s3 sg 0 44 0) := ⟨okG.s W ⟨by omega, by omega⟩, fun q q0 q1 => s3_o q0, fun j j0 => s3_nj j0, s3_at _ _ _ _, fun k k1 k2 => by omega⟩
  obtain ⟨s1, H1, k1⟩ := B_moveK hM (m := 1) (len := 7) (by omega) (by omega) rfl rfl rfl (by decide) (by omega) H0
  obtain ⟨s2, H2, k2⟩ := B_moveK hM (m := 2) (len := 16) (by omega) (by omega) rfl rfl rfl (by decide) (by omega) H1
  obtain ⟨s3', H3, k3⟩ := B_moveK hM (m := 3) (len := 48) (by omega) (by omega) rfl rfl rfl (by decide) (by omega) H2
  obtain ⟨s4, H4, k4⟩ := B_moveK hM (m := 4) (len := 96) (by omega) (by omega) rfl rfl rfl (by decide) (by omega) H3
  obtain ⟨s5, H5, k5⟩ := B_moveK hM (m := 5) (len := 12) (by omega) (by omega) rfl rfl rfl (by decide) (by omega) H4
  obtain ⟨s6, H6, k6⟩ := B_moveK hM (m := 6) (len := 504) (by omega) (by omega) rfl rfl rfl (by decide) (by omega) H5
  obtain ⟨s7, H7, k7⟩ := B_moveK hM (m := 7) (len := 1560) (by omega) (by omega) rfl rfl rfl (by decide) (by omega) H6
  obtain ⟨s8, H8, k8⟩ := B_moveK hM (m := 8) (len := 112) (by omega) (by omega) rfl rfl rfl (by decide) (by omega) H7
  obtain ⟨s9, H9, k9⟩ := B_moveK hM (m := 9) (len := 36) (by omega) (by omega) rfl rfl rfl (by decide) (by omega) H8
  have k1' : m12_move M (M + 1) (iI 7) (iI 1) (mK M (s3 sg 0 44 0) h) = some ((), mK M s1 h) := k1
  have k2' : m12_move M (M + 2) (iI 16) (iI 1) (mK M (s1) h) = some ((), mK M s2 h) := k2
  have k3' : m12_move M (M + 3) (iI 48) (iI 1) (mK M (s2) h) = some ((), mK M s3' h) := k3
  have k4' : m12_move M (M + 4) (iI 96) (iI 1) (mK M (s3') h) = some ((), mK M s4 h) := k4
  have k5' : m12_move M (M + 5) (iI 12) (iI 1) (mK M (s4) h) = some ((), mK M s5 h) := k5
  have k6' : m12_move M (M + 6) (iI 504) (iI 1) (mK M (s5) h) = some ((), mK M s6 h) := k6
  have k7' : m12_move M (M + 7) (iI 1560) (iI 1) (mK M (s6) h) = some ((), mK M s7 h) := k7
  have k8' : m12_move M (M + 8) (iI 112) (iI 1) (mK M (s7) h) = some ((), mK M s8 h) := k8
  have k9' : m12_move M (M + 9) (iI 36) (iI 1) (mK M (s8) h) = some ((), mK M s9 h) := k9
  refine ⟨s9, H9, ?_⟩
  unfold m12_moveAll
  simp (config := { maxSteps := 1000000 }) (disch := first | assumption | exact W.i _ _ | exact sLine_i W _ _ _ | exact W1.i _ _ | exact hg _ _ | exact W3.i _ _ | (refine ⟨?_, ?_⟩ <;> omega) | omega | (simp only [sW_1, sW_2, sW_3, sW_4, sW_5, sW_8] <;> first | assumption | omega | (refine ⟨?_, ?_⟩ <;> omega)) | (simp only [sT_1, sT_2, sT_3, sT_4, sT_5, sT_8] <;> first | assumption | omega | (refine ⟨?_, ?_⟩ <;> omega)) | (simp only [List.length_append, List.length_cons, List.length_nil, Nat.reduceAdd] <;> omega)) only [Int.reduceEq, Int.reduceLT, Int.reduceLE, Int.reduceNeg, Int.reduceAdd, Int.reduceSub, Int.reduceMul, if_true, if_false, not_true, not_false_eq_true, false_or, or_false, true_or, or_true, true_and, and_true, false_and, and_false, iI_on, iI_mul, iI_add, iI_sub, iI_neg, ap_if, mp_eq, mz_0, mz_1, mz_b, b2_0, b2_1, iI_lt, iI_le, iI_inj, mb_div, mb_rem, hM.m, hM.a1, hM.a2, hM.a3, hM.a4, hM.a5, hM.a6, hM.a7, hM.a8, hM.a9, hM.a10, hM.a11, hM.a12, hM.a13, hM.a14, hM.a15, hM.a16, hM.a17, hM.a18, hM.a19, hM.a20, hM.a21, hM.a22, hM.a23, hM.a24, hM.a25, hM.a26, hM.a27, hM.a28, hM.l1, hM.l2, hM.l3, hM.l4, hM.l5, hM.l6, hM.l7, hM.l8, hM.l9, hM.l10, hM.l11, hM.l12, hM.l13, hM.l14, hM.l15, hM.l16, hM.l17, hM.l18, hM.l19, hM.l20, hM.l21, hM.l22, hM.l23, hM.l24, hM.l25, hM.l26, hM.l27, hM.l28, hM.c10, hM.c11, hM.c12, hM.c13, hM.c14, hM.c15, hM.c19, hM.c20, hM.c23, hM.c27, hM.c36, hM.c37, hM.c38, hM.c40, hM.c41, hM.c42, hM.c44, hM.ps 44, nc44, mb_eq k1', mb_eq k2', mb_eq k3', mb_eq k4', mb_eq k5', mb_eq k6', mb_eq k7', mb_eq k8', mb_eq k9', hM.get (k := 0) (o := 1) rfl, hM.get (k := 1) (o := 2) rfl, hM.get (k := 2) (o := 3) rfl, hM.get (k := 3) (o := 4) rfl, hM.get (k := 4) (o := 5) rfl, hM.get (k := 5) (o := 6) rfl, hM.get (k := 6) (o := 7) rfl, hM.get (k := 7) (o := 8) rfl, hM.get (k := 8) (o := 9) rfl]
theorem B_moveAllA (hM : OKM M h) (W : okG sg) (J : JZ sg) : ∃ s', KQ sg 10 s' ∧ m12_moveAll M (iI 0) (mK M sg h) = some ((), mK M s' h) := by
  have H0 : KQ sg 1 (s3 sg 0 44 0) := ⟨okG.s W ⟨by omega, by omega⟩, fun q q0 q1 => s3_o q0, fun j j0 => s3_nj j0, s3_at _ _ _ _, fun k k1 k2 => by omega⟩
  obtain ⟨s1, H1, k1⟩ := B_moveA hM J (m := 1) (len := 7) (by omega) (by omega) rfl rfl rfl (by decide) (by omega) H0
  obtain ⟨s2, H2, k2⟩ := B_moveA hM J (m := 2) (len := 16) (by omega) (by omega) rfl rfl rfl (by decide) (by omega) H1
  obtain ⟨s3', H3, k3⟩ := B_moveA hM J (m := 3) (len := 48) (by omega) (by omega) rfl rfl rfl (by decide) (by omega) H2
  obtain ⟨s4, H4, k4⟩ := B_moveA hM J (m := 4) (len := 96) (by omega) (by omega) rfl rfl rfl (by decide) (by omega) H3
  obtain ⟨s5, H5, k5⟩ := B_moveA hM J (m := 5) (len := 12) (by omega) (by omega) rfl rfl rfl (by decide) (by omega) H4
  obtain ⟨s6, H6, k6⟩ := B_moveA hM J (m := 6) (len := 504) (by omega) (by omega) rfl rfl rfl (by decide) (by omega) H5
  obtain ⟨s7, H7, k7⟩ := B_moveA hM J (m := 7) (len := 1560) (by omega) (by omega) rfl rfl rfl (by decide) (by omega) H6
  obtain ⟨s8, H8, k8⟩ := B_moveA hM J (m := 8) (len := 112) (by omega) (by omega) rfl rfl rfl (by decide) (by omega) H7
  obtain ⟨s9, H9, k9⟩ := B_moveA hM J (m := 9) (len := 36) (by omega) (by omega) rfl rfl rfl (by decide) (by omega) H8
  have k1' : m12_move M (M + 1) (iI 7) (iI 0) (mK M (s3 sg 0 44 0) h) = some ((), mK M s1 h) := k1
  have k2' : m12_move M (M + 2) (iI 16) (iI 0) (mK M (s1) h) = some ((), mK M s2 h) := k2
  have k3' : m12_move M (M + 3) (iI 48) (iI 0) (mK M (s2) h) = some ((), mK M s3' h) := k3
  have k4' : m12_move M (M + 4) (iI 96) (iI 0) (mK M (s3') h) = some ((), mK M s4 h) := k4
  have k5' : m12_move M (M + 5) (iI 12) (iI 0) (mK M (s4) h) = some ((), mK M s5 h) := k5
  have k6' : m12_move M (M + 6) (iI 504) (iI 0) (mK M (s5) h) = some ((), mK M s6 h) := k6
  have k7' : m12_move M (M + 7) (iI 1560) (iI 0) (mK M (s6) h) = some ((), mK M s7 h) := k7
  have k8' : m12_move M (M + 8) (iI 112) (iI 0) (mK M (s7) h) = some ((), mK M s8 h) := k8
  have k9' : m12_move M (M + 9) (iI 36) (iI 0) (mK M (s8) h) = some ((), mK M s9 h) := k9
  refine ⟨s9, H9, ?_⟩
  unfold m12_moveAll
  simp (config := { maxSteps := 1000000 }) (disch := first | assumption | exact W.i _ _ | exact sLine_i W _ _ _ | exact W1.i _ _ | exact hg _ _ | exact W3.i _ _ | (refine ⟨?_, ?_⟩ <;> omega) | omega | (simp only [sW_1, sW_2, sW_3, sW_4, sW_5, sW_8] <;> first | assumption | omega | (refine ⟨?_, ?_⟩ <;> omega)) | (simp only [sT_1, sT_2, sT_3, sT_4, sT_5, sT_8] <;> first | assumption | omega | (refine ⟨?_, ?_⟩ <;> omega)) | (simp only [List.length_append, List.length_cons, List.length_nil, Nat.reduceAdd] <;> omega)) only [Int.reduceEq, Int.reduceLT, Int.reduceLE, Int.reduceNeg, Int.reduceAdd, Int.reduceSub, Int.reduceMul, if_true, if_false, not_true, not_false_eq_true, false_or, or_false, true_or, or_true, true_and, and_true, false_and, and_false, iI_on, iI_mul, iI_add, iI_sub, iI_neg, ap_if, mp_eq, mz_0, mz_1, mz_b, b2_0, b2_1, iI_lt, iI_le, iI_inj, mb_div, mb_rem, hM.m, hM.a1, hM.a2, hM.a3, hM.a4, hM.a5, hM.a6, hM.a7, hM.a8, hM.a9, hM.a10, hM.a11, hM.a12, hM.a13, hM.a14, hM.a15, hM.a16, hM.a17, hM.a18, hM.a19, hM.a20, hM.a21, hM.a22, hM.a23, hM.a24, hM.a25, hM.a26, hM.a27, hM.a28, hM.l1, hM.l2, hM.l3, hM.l4, hM.l5, hM.l6, hM.l7, hM.l8, hM.l9, hM.l10, hM.l11, hM.l12, hM.l13, hM.l14, hM.l15, hM.l16, hM.l17, hM.l18, hM.l19, hM.l20, hM.l21, hM.l22, hM.l23, hM.l24, hM.l25, hM.l26, hM.l27, hM.l28, hM.c10, hM.c11, hM.c12, hM.c13, hM.c14, hM.c15, hM.c19, hM.c20, hM.c23, hM.c27, hM.c36, hM.c37, hM.c38, hM.c40, hM.c41, hM.c42, hM.c44, hM.ps 44, nc44, mb_eq k1', mb_eq k2', mb_eq k3', mb_eq k4', mb_eq k5', mb_eq k6', mb_eq k7', mb_eq k8', mb_eq k9', hM.get (k := 0) (o := 1) rfl, hM.get (k := 1) (o := 2) rfl, hM.get (k := 2) (o := 3) rfl, hM.get (k := 3) (o := 4) rfl, hM.get (k := 4) (o := 5) rfl, hM.get (k := 5) (o := 6) rfl, hM.get (k := 6) (o := 7) rfl, hM.get (k := 7) (o := 8) rfl, hM.get (k := 8) (o := 9) rfl]
/-- both hold on after dockets were exchanged -/
theorem bec_hG {X : Nat} {h h' : gH} (hX : X = 1 ∨ X = 15) (e1 : h'.1 = h.1) (e2 : h'.2.1 = h.2.1) (e3 : ∀ q, (q < X + 3 ∨ X + 6 < q) → h'.2.2 q = h.2.2 q) : hG h h' :=
  ⟨⟨[], by rw [e1]; simp, by simp, by simp⟩, fun q _ => by rw [e2], fun q q0 q1 => e3 q (by omega)⟩
theorem LB.e1 {h h' : gH} (hL : LB h) (e : h'.1 = h.1) : LB h' := fun p n hp i h1 h2 => by
  rw [e] at hp ⊢
  exact hL p n hp i h1 h2
/-- where the reference's numbers are told only as they come -/
theorem both_e {mx mm : gM Int32} {r : Int32} {rho' : Nat → Int → Int} {h' : gH} (I : Inv sg rho h) (hx : mx (cK rho h) = some (r, cK rho' h')) (k : hG h h') (hm : ∀ H, OKM 55 H → ∃ sg', (CI sg' rho' h' ∧ WD sg' ∧ WX sg' ∧ WY sg') ∧ mm (mK 55 sg H) = some (r, mK 55 sg' H)) : Both mx mm rho h := by
  have hM' : OKM 55 h' := I.2.2.2.2.1.hg_ k
  obtain ⟨sg', ⟨C, W, X, Y⟩, e⟩ := hm (cK rho' h') hM'
  rw [mK_cK, k.keep I, mK_cK] at e
  exact ⟨r, _, sg', rho', mK 55 sg' h', hx, hM'.1, e, ⟨C.mk_, W, X, Y, hM', mK_mK⟩, k.1⟩
theorem T_keep (I : Inv sg rho h) : Both (m11_keep 0) (m12_keep 55) rho h := by
  have hC := I.1.1
  have hL := I.1.2.1
  have hg := I.1.2.2.1
  have R := I.1.2.2.2.2.1
  have W := I.2.1
  have Y := I.2.2.2.1
  obtain ⟨x1, x2, x3, x4, x5⟩ := I.1.2.2.2.2.2.2
  obtain ⟨r, h', e, gr, R15, e1, e2, e3, e4⟩ := C_become (X := 15) (Y := 1) (Or.inl ⟨rfl, rfl⟩) hC R W hg
  have f : ∀ q, q < 15 ∨ 25 < q → q ≠ 0 → s3 r 0 2 1 q = rho q := fun q hq q0 => (s3_o q0).trans (e4 q (by omega))
  have hC' : OKC h' := hC.bj (Or.inr rfl) e1 e3
  have R1 : RDs 1 sg r h' := (R.ext (fun q x hx => by rw [e1]; exact hx) (fun q q0 q1 => ⟨by rw [e2], e3 q (by omega)⟩) (fun q q0 q1 => e3 q (by omega))).co (fun q q0 q1 => e4 q (by omega))
  refine both_e (r := iI 1) (rho' := s3 r 0 2 1) I ?_ (bec_hG (Or.inr rfl) e1 e2 e3) (fun H hM => ?_)
  · unfold m11_keep
    simp (config := { maxSteps := 1000000 }) (disch := first | assumption | exact W.i _ _ | exact sLine_i W _ _ _ | exact W1.i _ _ | exact hg _ _ | exact W3.i _ _ | (refine ⟨?_, ?_⟩ <;> omega) | omega | (simp only [sW_1, sW_2, sW_3, sW_4, sW_5, sW_8] <;> first | assumption | omega | (refine ⟨?_, ?_⟩ <;> omega)) | (simp only [sT_1, sT_2, sT_3, sT_4, sT_5, sT_8] <;> first | assumption | omega | (refine ⟨?_, ?_⟩ <;> omega)) | (simp only [List.length_append, List.length_cons, List.length_nil, Nat.reduceAdd] <;> omega)) only [Int.reduceEq, Int.reduceLT, Int.reduceLE, Int.reduceNeg, Int.reduceAdd, Int.reduceSub, Int.reduceMul, if_true, if_false, not_true, not_false_eq_true, false_or, or_false, true_or, or_true, true_and, and_true, false_and, and_false, iI_on, iI_mul, iI_add, iI_sub, iI_neg, ap_if, mp_eq, mz_0, mz_1, mz_b, b2_0, b2_1, iI_lt, iI_le, iI_inj, mb_div, mb_rem, hC.m0, hC.m1, hC.m13, hC.m15, hC.m27, hC.m29, hC.m38, hC.m40, hC.g0_0, hC.g0_1, hC.g0_3, hC.g0_4, hC.g0_5, hC.g0_6, hC.g0_7, hC.g0_8, hC.g0_9, hC.g0_10, hC.g0_11, hC.g0_12, hC.g0_13, hC.g0_14, hC.g1_2, hC.g1_3, hC.g1_5, hC.g1_7, hC.g1_9, hC.g1_11, hC.g1_12, hC.g1_14, hC.g1_15, hC.g1_16, hC.g1_17, hC.g1_18, hC.g13_0, hC.g15_2, hC.g15_3, hC.g15_5, hC.g15_7, hC.g15_9, hC.g15_11, hC.g15_12, hC.g15_14, hC.g15_15, hC.g15_16, hC.g15_17, hC.g15_18, hC.g27_0, hC.g29_3, hC.g29_4, hC.g29_5, hC.g29_6, hC.g29_7, hC.g29_8, hC.g29_9, hC.g29_10, hC.g38_0, hC.g40_0, hC.s0_2, hC.s1_0, hC.s1_1, hC.s1_4, hC.s1_6, hC.s1_8, hC.s1_10, hC.s1_13, hC.s13_1, hC.s15_0, hC.s15_1, hC.s15_4, hC.s15_6, hC.s15_8, hC.s15_10, hC.s15_13, hC.s27_1, hC.s29_0, hC.s29_1, hC.s29_2, hC.s29_11, hC.s29_12, hC.s38_1, hC.s40_1, hC.s40_2, hC.l2, hC.l3, hC.l8, hC.l9, hC.l10, hC.l11, hC.l12, hC.l14, hC.l16, hC.l17, hC.l22, hC.l23, hC.l24, hC.l25, hC.l26, hC.l28, hC.l30, hC.l31, hC.l32, hC.l33, hC.l34, hC.l36, hC.l37, hC.l39, hC.l41, hC.l43, hC.l44, hC.l45, hC.l46, hC.l47, hC.l48, hC.l49, hC.l50, hC.l51, hC.l52, hC.l53, hC.l54, hC.l35, hC.n33, hC.n36, hC.p0_2, hC.p1_0, hC.p1_1, hC.p1_4, hC.p1_6, hC.p1_8, hC.p1_10, hC.p1_13, hC.p13_1, hC.p15_0, hC.p15_1, hC.p15_4, hC.p15_6, hC.p15_8, hC.p15_10, hC.p15_13, hC.p27_1, hC.p29_0, hC.p29_1, hC.p29_2, hC.p29_11, hC.p29_12, hC.p38_1, hC.p40_1, hC.p40_2, hC.w2, hC.w3, hC.w8, hC.w9, hC.w10, hC.w11, hC.w12, hC.w14, hC.w16, hC.w17, hC.w22, hC.w23, hC.w24, hC.w25, hC.w26, hC.w28, hC.w30, hC.w31, hC.w32, hC.w33, hC.w34, hC.w36, hC.w37, hC.w39, hC.w41, hC.w43, hC.w44, hC.w45, hC.w46, hC.w47, hC.w48, hC.w49, hC.w50, hC.w51, hC.w52, hC.w53, hC.w54, s3_at, s3_nk, s3_nj, hC.m15, mb_eq e, hC'.p0_2, gPutZ_b]
  obtain ⟨s', ⟨p1, p2, p3, p4, p5⟩, em⟩ := B_moveAllK (sg := sg) hM W.i
  have o1 : ∀ q, 1 ≤ q → q ≤ 9 → s3 s' 0 42 1 q = sg q := fun q q0 q1 => (s3_o (by omega)).trans (p2 q (by omega) (by omega))
  have ek : ∀ q, 1 ≤ q → q ≤ 9 → kG (s3 s' 0 42 1) q = sg q := fun q q0 q1 => by
    funext j
    unfold kG
    rw [s3_o (show 28 ≠ 0 by omega)]
    by_cases c : 0 ≤ j ∧ j < lenK q
    · rw [if_pos c]
      exact p5 q q0 (by omega) j c.1 c.2
    · rw [if_neg c]
      exact (Y.2.2.2.2 q j q0 q1 (by omega)).symm
  have g0 : okG (s3 s' 0 42 1) := p1.s ⟨by omega, by omega⟩
  have e00 : ∀ j, j ≠ 44 → j ≠ 42 → s3 s' 0 42 1 0 j = sg 0 j := fun j j0 j1 => (s3_nj j1).trans (p3 j j0)
  have oo : ∀ q, q ≠ 0 → q ≠ 28 → s3 s' 0 42 1 q = sg q := fun q q0 q1 => (s3_o q0).trans (p2 q q0 q1)
  refine ⟨s3 s' 0 42 1, ⟨⟨hC', hL.e1 e1, gr.s ⟨by omega, by omega⟩, by rw [e1]; exact I.1.2.2.2.1, (R1.co (fun q q0 q1 => s3_o (by omega))).c9 o1, ⟨by rw [s3_at, s3_at], fun _ => (R15.co (fun q q0 q1 => s3_o (by omega))).c9 ek⟩, ?_, ?_, ?_, ?_, ?_⟩, W.c9 o1 g0, ?_, ?_⟩, ?_⟩
  · unfold XR
    rw [e00 27 (by omega) (by omega), oo 19 (by omega) (by omega), f 38 (by omega) (by omega), f 39 (by omega) (by omega)]; exact x1
  · unfold XT
    rw [e00 10 (by omega) (by omega), oo 10 (by omega) (by omega), f 29 (by omega) (by omega), f 35 (by omega) (by omega)]; exact x2
  · intro t t0 t1
    rw [oo 21 (by omega) (by omega), oo 22 (by omega) (by omega), oo 23 (by omega) (by omega), f 47 (by omega) (by omega), f 48 (by omega) (by omega), f (43 + t.toNat) (by omega) (by omega)]
    exact x3 t t0 t1
  · unfold XH
    rw [oo 24 (by omega) (by omega), oo 25 (by omega) (by omega), oo 26 (by omega) (by omega), f 49 (by omega) (by omega), f 50 (by omega) (by omega), f 51 (by omega) (by omega), f 52 (by omega) (by omega)]; exact x4
  · unfold XB
    rw [e00 40 (by omega) (by omega), oo 27 (by omega) (by omega), f 40 (by omega) (by omega), f 41 (by omega) (by omega), f 54 (by omega) (by omega)]; exact x5
  · obtain ⟨w1, w2, w3, w4⟩ := I.2.2.1
    refine ⟨by rw [e00 27 (by omega) (by omega)]; exact w1, ?_, ?_, by rw [e00 40 (by omega) (by omega)]; exact w4⟩
    · rw [oo 21 (by omega) (by omega), oo 22 (by omega) (by omega)]; exact w2
    · rw [oo 24 (by omega) (by omega)]; exact w3
  · refine ⟨by rw [e00 10 (by omega) (by omega)]; exact Y.1, by rw [oo 10 (by omega) (by omega)]; exact Y.2.1, by rw [oo 14 (by omega) (by omega)]; exact Y.2.2.1, Or.inr ⟨s3_at _ _ _ _, W.c9 ek (kG_i g0)⟩, fun k j k0 k1 k2 => ?_⟩
    rw [oo k (by omega) (by omega)]
    exact Y.2.2.2.2 k j k0 k1 k2
  · unfold m12_keep
    simp (config := { maxSteps := 1000000 }) (disch := first | assumption | exact W.i _ _ | exact sLine_i W _ _ _ | exact W1.i _ _ | exact hg _ _ | exact W3.i _ _ | (refine ⟨?_, ?_⟩ <;> omega) | omega | (simp only [sW_1, sW_2, sW_3, sW_4, sW_5, sW_8] <;> first | assumption | omega | (refine ⟨?_, ?_⟩ <;> omega)) | (simp only [sT_1, sT_2, sT_3, sT_4, sT_5, sT_8] <;> first | assumption | omega | (refine ⟨?_, ?_⟩ <;> omega)) | (simp only [List.length_append, List.length_cons, List.length_nil, Nat.reduceAdd] <;> omega)) only [Int.reduceEq, Int.reduceLT, Int.reduceLE, Int.reduceNeg, Int.reduceAdd, Int.reduceSub, Int.reduceMul, if_true, if_false, not_true, not_false_eq_true, false_or, or_false, true_or, or_true, true_and, and_true, false_and, and_false, iI_on, iI_mul, iI_add, iI_sub, iI_neg, ap_if, mp_eq, mz_0, mz_1, mz_b, b2_0, b2_1, iI_lt, iI_le, iI_inj, mb_div, mb_rem, hM.m, hM.a1, hM.a2, hM.a3, hM.a4, hM.a5, hM.a6, hM.a7, hM.a8, hM.a9, hM.a10, hM.a11, hM.a12, hM.a13, hM.a14, hM.a15, hM.a16, hM.a17, hM.a18, hM.a19, hM.a20, hM.a21, hM.a22, hM.a23, hM.a24, hM.a25, hM.a26, hM.a27, hM.a28, hM.l1, hM.l2, hM.l3, hM.l4, hM.l5, hM.l6, hM.l7, hM.l8, hM.l9, hM.l10, hM.l11, hM.l12, hM.l13, hM.l14, hM.l15, hM.l16, hM.l17, hM.l18, hM.l19, hM.l20, hM.l21, hM.l22, hM.l23, hM.l24, hM.l25, hM.l26, hM.l27, hM.l28, hM.c10, hM.c11, hM.c12, hM.c13, hM.c14, hM.c15, hM.c19, hM.c20, hM.c23, hM.c27, hM.c36, hM.c37, hM.c38, hM.c40, hM.c41, hM.c42, hM.c44, hM.w1, hM.w2, hM.w3, hM.w4, hM.w5, hM.w6, hM.w7, hM.w8, hM.w9, hM.w10, hM.w11, hM.w12, hM.w13, hM.w14, hM.w15, hM.w16, hM.w17, hM.w18, hM.w19, hM.w20, hM.w21, hM.w22, hM.w23, hM.w24, hM.w25, hM.w26, hM.w27, hM.w28, hM.p10, hM.p11, hM.p12, hM.p13, hM.p14, hM.p15, hM.p19, hM.p20, hM.p23, hM.p27, hM.p36, hM.p37, hM.p38, hM.p40, hM.p41, hM.p42, hM.p44, s3_at, s3_nk, s3_nj, mb_eq em, hM.ps 42, gPutZ_b]
theorem T_again (I : Inv sg rho h) : Both (m11_again 0) (m12_again 55) rho h := by
  have hC := I.1.1
  have hL := I.1.2.1
  have hg := I.1.2.2.1
  have R := I.1.2.2.2.2.1
  have W := I.2.1
  have Y := I.2.2.2.1
  obtain ⟨x1, x2, x3, x4, x5⟩ := I.1.2.2.2.2.2.2
  obtain ⟨k1, k2⟩ := I.1.2.2.2.2.2.1
  rcases Y.2.2.2.1 with y | ⟨y, WK⟩
  · refine both_q (r := iI (-3)) I ?_ (fun H hM => ?_)
    · unfold m11_again
      simp (config := { maxSteps := 1000000 }) (disch := first | assumption | exact W.i _ _ | exact sLine_i W _ _ _ | exact W1.i _ _ | exact hg _ _ | exact W3.i _ _ | (refine ⟨?_, ?_⟩ <;> omega) | omega | (simp only [sW_1, sW_2, sW_3, sW_4, sW_5, sW_8] <;> first | assumption | omega | (refine ⟨?_, ?_⟩ <;> omega)) | (simp only [sT_1, sT_2, sT_3, sT_4, sT_5, sT_8] <;> first | assumption | omega | (refine ⟨?_, ?_⟩ <;> omega)) | (simp only [List.length_append, List.length_cons, List.length_nil, Nat.reduceAdd] <;> omega)) only [Int.reduceEq, Int.reduceLT, Int.reduceLE, Int.reduceNeg, Int.reduceAdd, Int.reduceSub, Int.reduceMul, if_true, if_false, not_true, not_false_eq_true, false_or, or_false, true_or, or_true, true_and, and_true, false_and, and_false, iI_on, iI_mul, iI_add, iI_sub, iI_neg, ap_if, mp_eq, mz_0, mz_1, mz_b, b2_0, b2_1, iI_lt, iI_le, iI_inj, mb_div, mb_rem, hC.m0, hC.m1, hC.m13, hC.m15, hC.m27, hC.m29, hC.m38, hC.m40, hC.g0_0, hC.g0_1, hC.g0_3, hC.g0_4, hC.g0_5, hC.g0_6, hC.g0_7, hC.g0_8, hC.g0_9, hC.g0_10, hC.g0_11, hC.g0_12, hC.g0_13, hC.g0_14, hC.g1_2, hC.g1_3, hC.g1_5, hC.g1_7, hC.g1_9, hC.g1_11, hC.g1_12, hC.g1_14, hC.g1_15, hC.g1_16, hC.g1_17, hC.g1_18, hC.g13_0, hC.g15_2, hC.g15_3, hC.g15_5, hC.g15_7, hC.g15_9, hC.g15_11, hC.g15_12, hC.g15_14, hC.g15_15, hC.g15_16, hC.g15_17, hC.g15_18, hC.g27_0, hC.g29_3, hC.g29_4, hC.g29_5, hC.g29_6, hC.g29_7, hC.g29_8, hC.g29_9, hC.g29_10, hC.g38_0, hC.g40_0, hC.s0_2, hC.s1_0, hC.s1_1, hC.s1_4, hC.s1_6, hC.s1_8, hC.s1_10, hC.s1_13, hC.s13_1, hC.s15_0, hC.s15_1, hC.s15_4, hC.s15_6, hC.s15_8, hC.s15_10, hC.s15_13, hC.s27_1, hC.s29_0, hC.s29_1, hC.s29_2, hC.s29_11, hC.s29_12, hC.s38_1, hC.s40_1, hC.s40_2, hC.l2, hC.l3, hC.l8, hC.l9, hC.l10, hC.l11, hC.l12, hC.l14, hC.l16, hC.l17, hC.l22, hC.l23, hC.l24, hC.l25, hC.l26, hC.l28, hC.l30, hC.l31, hC.l32, hC.l33, hC.l34, hC.l36, hC.l37, hC.l39, hC.l41, hC.l43, hC.l44, hC.l45, hC.l46, hC.l47, hC.l48, hC.l49, hC.l50, hC.l51, hC.l52, hC.l53, hC.l54, hC.l35, hC.n33, hC.n36, hC.p0_2, hC.p1_0, hC.p1_1, hC.p1_4, hC.p1_6, hC.p1_8, hC.p1_10, hC.p1_13, hC.p13_1, hC.p15_0, hC.p15_1, hC.p15_4, hC.p15_6, hC.p15_8, hC.p15_10, hC.p15_13, hC.p27_1, hC.p29_0, hC.p29_1, hC.p29_2, hC.p29_11, hC.p29_12, hC.p38_1, hC.p40_1, hC.p40_2, hC.w2, hC.w3, hC.w8, hC.w9, hC.w10, hC.w11, hC.w12, hC.w14, hC.w16, hC.w17, hC.w22, hC.w23, hC.w24, hC.w25, hC.w26, hC.w28, hC.w30, hC.w31, hC.w32, hC.w33, hC.w34, hC.w36, hC.w37, hC.w39, hC.w41, hC.w43, hC.w44, hC.w45, hC.w46, hC.w47, hC.w48, hC.w49, hC.w50, hC.w51, hC.w52, hC.w53, hC.w54, s3_at, s3_nk, s3_nj, k1, y]
    · unfold m12_again
      simp (config := { maxSteps := 1000000 }) (disch := first | assumption | exact W.i _ _ | exact sLine_i W _ _ _ | exact W1.i _ _ | exact hg _ _ | exact W3.i _ _ | (refine ⟨?_, ?_⟩ <;> omega) | omega | (simp only [sW_1, sW_2, sW_3, sW_4, sW_5, sW_8] <;> first | assumption | omega | (refine ⟨?_, ?_⟩ <;> omega)) | (simp only [sT_1, sT_2, sT_3, sT_4, sT_5, sT_8] <;> first | assumption | omega | (refine ⟨?_, ?_⟩ <;> omega)) | (simp only [List.length_append, List.length_cons, List.length_nil, Nat.reduceAdd] <;> omega)) only [Int.reduceEq, Int.reduceLT, Int.reduceLE, Int.reduceNeg, Int.reduceAdd, Int.reduceSub, Int.reduceMul, if_true, if_false, not_true, not_false_eq_true, false_or, or_false, true_or, or_true, true_and, and_true, false_and, and_false, iI_on, iI_mul, iI_add, iI_sub, iI_neg, ap_if, mp_eq, mz_0, mz_1, mz_b, b2_0, b2_1, iI_lt, iI_le, iI_inj, mb_div, mb_rem, hM.m, hM.a1, hM.a2, hM.a3, hM.a4, hM.a5, hM.a6, hM.a7, hM.a8, hM.a9, hM.a10, hM.a11, hM.a12, hM.a13, hM.a14, hM.a15, hM.a16, hM.a17, hM.a18, hM.a19, hM.a20, hM.a21, hM.a22, hM.a23, hM.a24, hM.a25, hM.a26, hM.a27, hM.a28, hM.l1, hM.l2, hM.l3, hM.l4, hM.l5, hM.l6, hM.l7, hM.l8, hM.l9, hM.l10, hM.l11, hM.l12, hM.l13, hM.l14, hM.l15, hM.l16, hM.l17, hM.l18, hM.l19, hM.l20, hM.l21, hM.l22, hM.l23, hM.l24, hM.l25, hM.l26, hM.l27, hM.l28, hM.c10, hM.c11, hM.c12, hM.c13, hM.c14, hM.c15, hM.c19, hM.c20, hM.c23, hM.c27, hM.c36, hM.c37, hM.c38, hM.c40, hM.c41, hM.c42, hM.c44, hM.sc 42, y]
  have R15 := k2 y
  obtain ⟨r, h', e, gr, R1, e1, e2, e3, e4⟩ := C_become (X := 1) (Y := 15) (Or.inr ⟨rfl, rfl⟩) hC R15 WK hg
  have f : ∀ q, q < 1 ∨ 11 < q → r q = rho q := fun q hq => e4 q (by omega)
  have hC' : OKC h' := hC.bj (Or.inl rfl) e1 e3
  have R15' : RDs 15 (kG sg) r h' := (R15.ext (fun q x hx => by rw [e1]; exact hx) (fun q q0 q1 => ⟨by rw [e2], e3 q (by omega)⟩) (fun q q0 q1 => e3 q (by omega))).co (fun q q0 q1 => e4 q (by omega))
  refine both_e (r := iI 1) (rho' := r) I ?_ (bec_hG (Or.inl rfl) e1 e2 e3) (fun H hM => ?_)
  · unfold m11_again
    simp (config := { maxSteps := 1000000 }) (disch := first | assumption | exact W.i _ _ | exact sLine_i W _ _ _ | exact W1.i _ _ | exact hg _ _ | exact W3.i _ _ | (refine ⟨?_, ?_⟩ <;> omega) | omega | (simp only [sW_1, sW_2, sW_3, sW_4, sW_5, sW_8] <;> first | assumption | omega | (refine ⟨?_, ?_⟩ <;> omega)) | (simp only [sT_1, sT_2, sT_3, sT_4, sT_5, sT_8] <;> first | assumption | omega | (refine ⟨?_, ?_⟩ <;> omega)) | (simp only [List.length_append, List.length_cons, List.length_nil, Nat.reduceAdd] <;> omega)) only [Int.reduceEq, Int.reduceLT, Int.reduceLE, Int.reduceNeg, Int.reduceAdd, Int.reduceSub, Int.reduceMul, if_true, if_false, not_true, not_false_eq_true, false_or, or_false, true_or, or_true, true_and, and_true, false_and, and_false, iI_on, iI_mul, iI_add, iI_sub, iI_neg, ap_if, mp_eq, mz_0, mz_1, mz_b, b2_0, b2_1, iI_lt, iI_le, iI_inj, mb_div, mb_rem, hC.m0, hC.m1, hC.m13, hC.m15, hC.m27, hC.m29, hC.m38, hC.m40, hC.g0_0, hC.g0_1, hC.g0_3, hC.g0_4, hC.g0_5, hC.g0_6, hC.g0_7, hC.g0_8, hC.g0_9, hC.g0_10, hC.g0_11, hC.g0_12, hC.g0_13, hC.g0_14, hC.g1_2, hC.g1_3, hC.g1_5, hC.g1_7, hC.g1_9, hC.g1_11, hC.g1_12, hC.g1_14, hC.g1_15, hC.g1_16, hC.g1_17, hC.g1_18, hC.g13_0, hC.g15_2, hC.g15_3, hC.g15_5, hC.g15_7, hC.g15_9, hC.g15_11, hC.g15_12, hC.g15_14, hC.g15_15, hC.g15_16, hC.g15_17, hC.g15_18, hC.g27_0, hC.g29_3, hC.g29_4, hC.g29_5, hC.g29_6, hC.g29_7, hC.g29_8, hC.g29_9, hC.g29_10, hC.g38_0, hC.g40_0, hC.s0_2, hC.s1_0, hC.s1_1, hC.s1_4, hC.s1_6, hC.s1_8, hC.s1_10, hC.s1_13, hC.s13_1, hC.s15_0, hC.s15_1, hC.s15_4, hC.s15_6, hC.s15_8, hC.s15_10, hC.s15_13, hC.s27_1, hC.s29_0, hC.s29_1, hC.s29_2, hC.s29_11, hC.s29_12, hC.s38_1, hC.s40_1, hC.s40_2, hC.l2, hC.l3, hC.l8, hC.l9, hC.l10, hC.l11, hC.l12, hC.l14, hC.l16, hC.l17, hC.l22, hC.l23, hC.l24, hC.l25, hC.l26, hC.l28, hC.l30, hC.l31, hC.l32, hC.l33, hC.l34, hC.l36, hC.l37, hC.l39, hC.l41, hC.l43, hC.l44, hC.l45, hC.l46, hC.l47, hC.l48, hC.l49, hC.l50, hC.l51, hC.l52, hC.l53, hC.l54, hC.l35, hC.n33, hC.n36, hC.p0_2, hC.p1_0, hC.p1_1, hC.p1_4, hC.p1_6, hC.p1_8, hC.p1_10, hC.p1_13, hC.p13_1, hC.p15_0, hC.p15_1, hC.p15_4, hC.p15_6, hC.p15_8, hC.p15_10, hC.p15_13, hC.p27_1, hC.p29_0, hC.p29_1, hC.p29_2, hC.p29_11, hC.p29_12, hC.p38_1, hC.p40_1, hC.p40_2, hC.w2, hC.w3, hC.w8, hC.w9, hC.w10, hC.w11, hC.w12, hC.w14, hC.w16, hC.w17, hC.w22, hC.w23, hC.w24, hC.w25, hC.w26, hC.w28, hC.w30, hC.w31, hC.w32, hC.w33, hC.w34, hC.w36, hC.w37, hC.w39, hC.w41, hC.w43, hC.w44, hC.w45, hC.w46, hC.w47, hC.w48, hC.w49, hC.w50, hC.w51, hC.w52, hC.w53, hC.w54, s3_at, s3_nk, s3_nj, k1, y, hC.m1, mb_eq e]
  obtain ⟨s', ⟨p1, p2, p3, p4, p5⟩, em⟩ := B_moveAllA (sg := sg) hM W.i Y.2.2.2.2
  have o1 : ∀ q, 1 ≤ q → q ≤ 9 → s' q = kG sg q := fun q q0 q1 => by
    funext j
    exact p5 q q0 (by omega) j
  have oo : ∀ q, 10 ≤ q → s' q = sg q := fun q q0 => p2 q (by omega) (Or.inr q0)
  have ek : kG s' = kG sg := by
    funext q z
    unfold kG
    rw [oo 28 (by omega)]
  refine ⟨s', ⟨⟨hC', hL.e1 e1, gr, by rw [e1]; exact I.1.2.2.2.1, R1.c9 o1, ⟨by rw [p3 42 (by omega), f 0 (by omega)]; exact k1, fun _ => by rw [ek]; exact R15'⟩, ?_, ?_, ?_, ?_, ?_⟩, WK.c9 o1 p1, ?_, ?_⟩, ?_⟩
  · unfold XR
    rw [p3 27 (by omega), oo 19 (by omega), f 38 (by omega), f 39 (by omega)]; exact x1
  · unfold XT
    rw [p3 10 (by omega), oo 10 (by omega), f 29 (by omega), f 35 (by omega)]; exact x2
  · intro t t0 t1
    rw [oo 21 (by omega), oo 22 (by omega), oo 23 (by omega), f 47 (by omega), f 48 (by omega), f (43 + t.toNat) (by omega)]
    exact x3 t t0 t1
  · unfold XH
    rw [oo 24 (by omega), oo 25 (by omega), oo 26 (by omega), f 49 (by omega), f 50 (by omega), f 51 (by omega), f 52 (by omega)]; exact x4
  · unfold XB
    rw [p3 40 (by omega), oo 27 (by omega), f 40 (by omega), f 41 (by omega), f 54 (by omega)]; exact x5
  · obtain ⟨w1, w2, w3, w4⟩ := I.2.2.1
    refine ⟨by rw [p3 27 (by omega)]; exact w1, ?_, ?_, by rw [p3 40 (by omega)]; exact w4⟩
    · rw [oo 21 (by omega), oo 22 (by omega)]; exact w2
    · rw [oo 24 (by omega)]; exact w3
  · refine ⟨by rw [p3 10 (by omega)]; exact Y.1, by rw [oo 10 (by omega)]; exact Y.2.1, by rw [oo 14 (by omega)]; exact Y.2.2.1, Or.inr ⟨by rw [p3 42 (by omega)]; exact y, by rw [ek]; exact WK⟩, fun k j k0 k1 k2 => ?_⟩
    rw [o1 k (by omega) (by omega)]
    unfold kG
    rw [if_neg (by omega)]
  · unfold m12_again
    simp (config := { maxSteps := 1000000 }) (disch := first | assumption | exact W.i _ _ | exact sLine_i W _ _ _ | exact W1.i _ _ | exact hg _ _ | exact W3.i _ _ | (refine ⟨?_, ?_⟩ <;> omega) | omega | (simp only [sW_1, sW_2, sW_3, sW_4, sW_5, sW_8] <;> first | assumption | omega | (refine ⟨?_, ?_⟩ <;> omega)) | (simp only [sT_1, sT_2, sT_3, sT_4, sT_5, sT_8] <;> first | assumption | omega | (refine ⟨?_, ?_⟩ <;> omega)) | (simp only [List.length_append, List.length_cons, List.length_nil, Nat.reduceAdd] <;> omega)) only [Int.reduceEq, Int.reduceLT, Int.reduceLE, Int.reduceNeg, Int.reduceAdd, Int.reduceSub, Int.reduceMul, if_true, if_false, not_true, not_false_eq_true, false_or, or_false, true_or, or_true, true_and, and_true, false_and, and_false, iI_on, iI_mul, iI_add, iI_sub, iI_neg, ap_if, mp_eq, mz_0, mz_1, mz_b, b2_0, b2_1, iI_lt, iI_le, iI_inj, mb_div, mb_rem, hM.m, hM.a1, hM.a2, hM.a3, hM.a4, hM.a5, hM.a6, hM.a7, hM.a8, hM.a9, hM.a10, hM.a11, hM.a12, hM.a13, hM.a14, hM.a15, hM.a16, hM.a17, hM.a18, hM.a19, hM.a20, hM.a21, hM.a22, hM.a23, hM.a24, hM.a25, hM.a26, hM.a27, hM.a28, hM.l1, hM.l2, hM.l3, hM.l4, hM.l5, hM.l6, hM.l7, hM.l8, hM.l9, hM.l10, hM.l11, hM.l12, hM.l13, hM.l14, hM.l15, hM.l16, hM.l17, hM.l18, hM.l19, hM.l20, hM.l21, hM.l22, hM.l23, hM.l24, hM.l25, hM.l26, hM.l27, hM.l28, hM.c10, hM.c11, hM.c12, hM.c13, hM.c14, hM.c15, hM.c19, hM.c20, hM.c23, hM.c27, hM.c36, hM.c37, hM.c38, hM.c40, hM.c41, hM.c42, hM.c44, hM.sc 42, y, mb_eq em]
end AGAIN

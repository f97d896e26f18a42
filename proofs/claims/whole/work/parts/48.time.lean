/-! ===== amiss, beside, times: the reference ===== -/
/-- a loop over states, held to what is gathered -/
theorem lopQ {A S X : Type} {F : Nat → A → Int → S → X} {K : A → S → X} {N : Int} {st : A → Int → A} {R : A → Int → S → Prop}
    (he : ∀ n a s, R a N s → F (n + 1) a N s = K a s)
    (hs : ∀ n a i s, R a i s → 0 ≤ i → i < N → ∃ s', R (st a i) (i + 1) s' ∧ F (n + 1) a i s = F n (st a i) (i + 1) s') :
    ∀ (m n : Nat) (a : A) (i : Int) (s : S), R a i s → 0 ≤ i → N - i = m → m < n → ∃ s', R (fo st m a i) N s' ∧ F n a i s = K (fo st m a i) s'
  | 0, n + 1, a, i, s, hR, h0, hm, hn => by
    have e : i = N := by omega
    rw [e] at hR ⊢
    exact ⟨s, hR, he n a s hR⟩
  | m + 1, n + 1, a, i, s, hR, h0, hm, hn => by
    obtain ⟨s', h1, h3⟩ := hs n a i s hR h0 (by omega)
    rw [h3]
    exact lopQ he hs m n (st a i) (i + 1) s' h1 (by omega) (by omega) (by omega)
section RD5
variable {M : Nat} {sg : Nat → Int → Int} {h : gH}
theorem sRng_b (W : WD sg) {d v k : Int} (hv0 : -1 ≤ v) (hv1 : v < sg 1 4) : -1 ≤ sRng sg d v k ∧ sRng sg d v k ≤ 240240 := by
  unfold sRng
  split
  · omega
  · exact sRange_b W (by omega) hv1
abbrev sAmiss (sg : Nat → Int → Int) (t k : Int) : Prop := sRng sg (sg 8 (7 * t)) (sLaw sg (sg 8 (7 * t)) (sg 8 (7 * t + 5))) k < 0 ∨ (sg 8 (7 * t + 3) = 0 ∧ ¬ (sRng sg (sg 8 (7 * t)) (sLaw sg (sg 8 (7 * t)) (sg 8 (7 * t + 5))) k / 1000 ≤ sg 8 (7 * t + 2) ∧ sg 8 (7 * t + 2) ≤ sRng sg (sg 8 (7 * t)) (sLaw sg (sg 8 (7 * t)) (sg 8 (7 * t + 5))) k % 1000))
theorem B_isAmiss (hM : OKM M h) (W : WD sg) {t k : Int} (h0 : 0 ≤ t) (h1 : t < sg 1 5) (hk : i32 k) {s : gH} (hs : RS M h sg s) :
    ∃ s', RS M h sg s' ∧ m12_isAmiss M (iI t) (iI k) s = some (iI (b2 (sAmiss sg t k)), s') := by
  have nt := W.te t h0 h1
  have n5 := W.n5
  have hl := sLaw_b W (sg 8 (7 * t)) (sg 8 (7 * t + 5))
  obtain ⟨s', hs', he⟩ := B_rangeOf hM W (d := sg 8 (7 * t)) (by omega) (by omega) hl.1 hl.2 hk hs
  refine ⟨s', hs', ?_⟩
  have hr := sRng_b W (d := sg 8 (7 * t)) (k := k) hl.1 hl.2
  have i32t : i32 t := ⟨by omega, by omega⟩
  obtain ⟨g, hg, rfl⟩ := hs
  obtain ⟨g', hg', rfl⟩ := hs'
  have W1 := W.w hg
  have W' := W.w hg'
  have W5 := W.i 8 (7 * t + 5)
  have aux : ∀ r : Int, -1 ≤ r ∧ r ≤ 240240 → m12_rangeOf M (iI (sg 8 (7 * t))) (iI (sLaw sg (sg 8 (7 * t)) (sg 8 (7 * t + 5)))) (iI k) (mK M (sW sg g) h) = some (iI r, mK M (sW sg g') h) → m12_isAmiss M (iI t) (iI k) (mK M (sW sg g) h) = some (iI (b2 (r < 0 ∨ (sg 8 (7 * t + 3) = 0 ∧ ¬ (r / 1000 ≤ sg 8 (7 * t + 2) ∧ sg 8 (7 * t + 2) ≤ r % 1000)))), mK M (sW sg g') h) := by
    intro r hr he
    unfold m12_isAmiss
    simp (config := { maxSteps := 1000000 }) (disch := first | assumption | exact W.i _ _ | exact sLine_i W _ _ _ | exact W1.i _ _ | exact hg _ _ | exact W3.i _ _ | (refine ⟨?_, ?_⟩ <;> omega) | omega | (simp only [sW_1, sW_2, sW_3, sW_4, sW_5, sW_8] <;> first | assumption | omega | (refine ⟨?_, ?_⟩ <;> omega)) | (simp only [sT_1, sT_2, sT_3, sT_4, sT_5, sT_8] <;> first | assumption | omega | (refine ⟨?_, ?_⟩ <;> omega))) only [Int.reduceEq, Int.reduceLT, Int.reduceLE, Int.reduceNeg, Int.reduceAdd, Int.reduceSub, Int.reduceMul, if_true, if_false, not_true, not_false_eq_true, false_or, or_false, true_or, or_true, true_and, and_true, false_and, and_false, iI_on, iI_mul, iI_add, iI_sub, iI_neg, ap_if, mp_eq, mz_0, mz_1, mz_b, b2_0, b2_1, iI_lt, iI_le, iI_inj, mb_div, mb_rem, hM.m, hM.a1, hM.a2, hM.a3, hM.a4, hM.a5, hM.a6, hM.a7, hM.a8, hM.a9, hM.a10, hM.a11, hM.a12, hM.a13, hM.a14, hM.a15, hM.a16, hM.a17, hM.a18, hM.a19, hM.a20, hM.a21, hM.a22, hM.a23, hM.a24, hM.a25, hM.a26, hM.a27, hM.a28, hM.l1, hM.l2, hM.l3, hM.l4, hM.l5, hM.l6, hM.l7, hM.l8, hM.l9, hM.l10, hM.l11, hM.l12, hM.l13, hM.l14, hM.l15, hM.l16, hM.l17, hM.l18, hM.l19, hM.l20, hM.l21, hM.l22, hM.l23, hM.l24, hM.l25, hM.l26, hM.l27, hM.l28, hM.c10, hM.c11, hM.c12, hM.c13, hM.c14, hM.c15, hM.c19, hM.c20, hM.c23, hM.c27, hM.c36, hM.c37, hM.c38, hM.c40, hM.c41, hM.c42, hM.c44, mb_eq (B_of hM _ _), mb_eq (B_lawOf hM W1 _ _ _), Int.add_zero, sW_8, sLaw_w, sW_1, mb_eq he]
    by_cases c : r < 0
    · rw [if_pos c, b2_t (Or.inl c)]
      simp (config := { maxSteps := 1000000 }) (disch := first | assumption | exact W.i _ _ | exact sLine_i W _ _ _ | exact W1.i _ _ | exact hg _ _ | exact W3.i _ _ | (refine ⟨?_, ?_⟩ <;> omega) | omega | (simp only [sW_1, sW_2, sW_3, sW_4, sW_5, sW_8] <;> first | assumption | omega | (refine ⟨?_, ?_⟩ <;> omega)) | (simp only [sT_1, sT_2, sT_3, sT_4, sT_5, sT_8] <;> first | assumption | omega | (refine ⟨?_, ?_⟩ <;> omega))) only [Int.reduceEq, Int.reduceLT, Int.reduceLE, Int.reduceNeg, Int.reduceAdd, Int.reduceSub, Int.reduceMul, if_true, if_false, not_true, not_false_eq_true, false_or, or_false, true_or, or_true, true_and, and_true, false_and, and_false, iI_on, iI_mul, iI_add, iI_sub, iI_neg, ap_if, mp_eq, mz_0, mz_1, mz_b, b2_0, b2_1, iI_lt, iI_le, iI_inj, mb_div, mb_rem, hM.m, hM.a1, hM.a2, hM.a3, hM.a4, hM.a5, hM.a6, hM.a7, hM.a8, hM.a9, hM.a10, hM.a11, hM.a12, hM.a13, hM.a14, hM.a15, hM.a16, hM.a17, hM.a18, hM.a19, hM.a20, hM.a21, hM.a22, hM.a23, hM.a24, hM.a25, hM.a26, hM.a27, hM.a28, hM.l1, hM.l2, hM.l3, hM.l4, hM.l5, hM.l6, hM.l7, hM.l8, hM.l9, hM.l10, hM.l11, hM.l12, hM.l13, hM.l14, hM.l15, hM.l16, hM.l17, hM.l18, hM.l19, hM.l20, hM.l21, hM.l22, hM.l23, hM.l24, hM.l25, hM.l26, hM.l27, hM.l28, hM.c10, hM.c11, hM.c12, hM.c13, hM.c14, hM.c15, hM.c19, hM.c20, hM.c23, hM.c27, hM.c36, hM.c37, hM.c38, hM.c40, hM.c41, hM.c42, hM.c44, m12_isAmiss_p63, m12_isAmiss_p68]
    · rw [if_neg c]
      have e1 : r.tdiv 1000 = r / 1000 := Int.tdiv_eq_ediv_of_nonneg (by omega)
      have e2 : r.tmod 1000 = r % 1000 := Int.tmod_eq_emod_of_nonneg (by omega)
      (try simp (config := { maxSteps := 1000000 }) (disch := first | assumption | exact W.i _ _ | exact sLine_i W _ _ _ | exact W1.i _ _ | exact hg _ _ | exact W3.i _ _ | (refine ⟨?_, ?_⟩ <;> omega) | omega | (simp only [sW_1, sW_2, sW_3, sW_4, sW_5, sW_8] <;> first | assumption | omega | (refine ⟨?_, ?_⟩ <;> omega)) | (simp only [sT_1, sT_2, sT_3, sT_4, sT_5, sT_8] <;> first | assumption | omega | (refine ⟨?_, ?_⟩ <;> omega))) only [Int.reduceEq, Int.reduceLT, Int.reduceLE, Int.reduceNeg, Int.reduceAdd, Int.reduceSub, Int.reduceMul, if_true, if_false, not_true, not_false_eq_true, false_or, or_false, true_or, or_true, true_and, and_true, false_and, and_false, iI_on, iI_mul, iI_add, iI_sub, iI_neg, ap_if, mp_eq, mz_0, mz_1, mz_b, b2_0, b2_1, iI_lt, iI_le, iI_inj, mb_div, mb_rem, hM.m, hM.a1, hM.a2, hM.a3, hM.a4, hM.a5, hM.a6, hM.a7, hM.a8, hM.a9, hM.a10, hM.a11, hM.a12, hM.a13, hM.a14, hM.a15, hM.a16, hM.a17, hM.a18, hM.a19, hM.a20, hM.a21, hM.a22, hM.a23, hM.a24, hM.a25, hM.a26, hM.a27, hM.a28, hM.l1, hM.l2, hM.l3, hM.l4, hM.l5, hM.l6, hM.l7, hM.l8, hM.l9, hM.l10, hM.l11, hM.l12, hM.l13, hM.l14, hM.l15, hM.l16, hM.l17, hM.l18, hM.l19, hM.l20, hM.l21, hM.l22, hM.l23, hM.l24, hM.l25, hM.l26, hM.l27, hM.l28, hM.c10, hM.c11, hM.c12, hM.c13, hM.c14, hM.c15, hM.c19, hM.c20, hM.c23, hM.c27, hM.c36, hM.c37, hM.c38, hM.c40, hM.c41, hM.c42, hM.c44, mb_eq (B_in _ _ _ _), e1, e2])
      (repeat' (first | simp (config := { maxSteps := 1000000 }) (disch := first | assumption | exact W.i _ _ | exact sLine_i W _ _ _ | exact W1.i _ _ | exact hg _ _ | exact W3.i _ _ | (refine ⟨?_, ?_⟩ <;> omega) | omega | (simp only [sW_1, sW_2, sW_3, sW_4, sW_5, sW_8] <;> first | assumption | omega | (refine ⟨?_, ?_⟩ <;> omega)) | (simp only [sT_1, sT_2, sT_3, sT_4, sT_5, sT_8] <;> first | assumption | omega | (refine ⟨?_, ?_⟩ <;> omega))) only [Int.reduceEq, Int.reduceLT, Int.reduceLE, Int.reduceNeg, Int.reduceAdd, Int.reduceSub, Int.reduceMul, if_true, if_false, not_true, not_false_eq_true, false_or, or_false, true_or, or_true, true_and, and_true, false_and, and_false, iI_on, iI_mul, iI_add, iI_sub, iI_neg, ap_if, mp_eq, mz_0, mz_1, mz_b, b2_0, b2_1, iI_lt, iI_le, iI_inj, mb_div, mb_rem, hM.m, hM.a1, hM.a2, hM.a3, hM.a4, hM.a5, hM.a6, hM.a7, hM.a8, hM.a9, hM.a10, hM.a11, hM.a12, hM.a13, hM.a14, hM.a15, hM.a16, hM.a17, hM.a18, hM.a19, hM.a20, hM.a21, hM.a22, hM.a23, hM.a24, hM.a25, hM.a26, hM.a27, hM.a28, hM.l1, hM.l2, hM.l3, hM.l4, hM.l5, hM.l6, hM.l7, hM.l8, hM.l9, hM.l10, hM.l11, hM.l12, hM.l13, hM.l14, hM.l15, hM.l16, hM.l17, hM.l18, hM.l19, hM.l20, hM.l21, hM.l22, hM.l23, hM.l24, hM.l25, hM.l26, hM.l27, hM.l28, hM.c10, hM.c11, hM.c12, hM.c13, hM.c14, hM.c15, hM.c19, hM.c20, hM.c23, hM.c27, hM.c36, hM.c37, hM.c38, hM.c40, hM.c41, hM.c42, hM.c44, m12_isAmiss_p63, m12_isAmiss_p67, m12_isAmiss_p68] | split)) <;> (first | with_reducible rfl | omega | rfl | (subst_vars; rfl) | (simp only [*, Int.add_zero]; done) | (rw [b2_t (by omega)]; done) | (rw [b2_f (by omega)]; done) | (rw [b2_f (by omega), Int.add_zero]))
  exact aux _ hr he
/-- it runs beside -/
abbrev sBsd (sg : Nat → Int → Int) (t k v : Int) : Prop := 0 ≤ lst (fun l => sLine sg v l 0 = 6 ∧ sHolds sg v l (sEnv sg (sg 8 (7 * t)) k (sPts sg (sg 8 (7 * t)) v k))) (sg 5 (2 * v)).toNat
abbrev sBeside (sg : Nat → Int → Int) (t k : Int) : Prop := 0 ≤ sLaw sg (sg 8 (7 * t)) (sg 8 (7 * t + 5)) ∧ sBsd sg t k (sLaw sg (sg 8 (7 * t)) (sg 8 (7 * t + 5)))
theorem fo_ex (P : Int → Prop) [DecidablePred P] : ∀ n : Nat, fo (fun a i => if a = 1 ∨ P i then (1 : Int) else 0) n 0 0 = b2 (0 ≤ lst P n)
  | 0 => rfl
  | n + 1 => by
    rw [fo_succ, fo_ex P n, lst_s, Int.zero_add]
    unfold b2
    split <;> split <;> split <;> first | rfl | omega | simp_all
theorem B_runsBeside0 (hM : OKM M h) (W : WD sg) {t k d v : Int} (h0 : 0 ≤ t) (h1 : t < sg 1 5) (hk : i32 k) {s : gH} (hs : RS M h sg s) (hd : sg 8 (7 * t) = d) (hv : sLaw sg d (sg 8 (7 * t + 5)) = v) :
    ∃ s', RS M h sg s' ∧ m12_runsBeside M (iI t) (iI k) s = some (iI (b2 (0 ≤ v ∧ 0 ≤ lst (fun l => sLine sg v l 0 = 6 ∧ sHolds sg v l (sEnv sg d k (sPts sg d v k))) (sg 5 (2 * v)).toNat)), s') := by
  have nt := W.te t h0 h1
  have n5 := W.n5
  have n4 := W.n4
  have hl := sLaw_b W (sg 8 (7 * t)) (sg 8 (7 * t + 5))
  have W5 := W.i 8 (7 * t + 5)
  rw [hd] at hl nt
  rw [hv] at hl
  have unf : ∀ s, RS M h sg s → m12_runsBeside M (iI t) (iI k) s = if v < 0 then some (iI 0, s) else m12_runsBeside_p43 FU M (iI k) (iI d) (iI v) (iI (sPts sg d v k)) (iI 0) (iI 0) s := by
    intro s hs
    obtain ⟨g, hg, rfl⟩ := hs
    have W1 := W.w hg
    unfold m12_runsBeside
    simp (config := { maxSteps := 1000000 }) (disch := first | assumption | exact W.i _ _ | exact sLine_i W _ _ _ | exact W1.i _ _ | exact hg _ _ | exact W3.i _ _ | (refine ⟨?_, ?_⟩ <;> omega) | omega | (simp only [sW_1, sW_2, sW_3, sW_4, sW_5, sW_8] <;> first | assumption | omega | (refine ⟨?_, ?_⟩ <;> omega)) | (simp only [sT_1, sT_2, sT_3, sT_4, sT_5, sT_8] <;> first | assumption | omega | (refine ⟨?_, ?_⟩ <;> omega))) only [Int.reduceEq, Int.reduceLT, Int.reduceLE, Int.reduceNeg, Int.reduceAdd, Int.reduceSub, Int.reduceMul, if_true, if_false, not_true, not_false_eq_true, false_or, or_false, true_or, or_true, true_and, and_true, false_and, and_false, iI_on, iI_mul, iI_add, iI_sub, iI_neg, ap_if, mp_eq, mz_0, mz_1, mz_b, b2_0, b2_1, iI_lt, iI_le, iI_inj, mb_div, mb_rem, hM.m, hM.a1, hM.a2, hM.a3, hM.a4, hM.a5, hM.a6, hM.a7, hM.a8, hM.a9, hM.a10, hM.a11, hM.a12, hM.a13, hM.a14, hM.a15, hM.a16, hM.a17, hM.a18, hM.a19, hM.a20, hM.a21, hM.a22, hM.a23, hM.a24, hM.a25, hM.a26, hM.a27, hM.a28, hM.l1, hM.l2, hM.l3, hM.l4, hM.l5, hM.l6, hM.l7, hM.l8, hM.l9, hM.l10, hM.l11, hM.l12, hM.l13, hM.l14, hM.l15, hM.l16, hM.l17, hM.l18, hM.l19, hM.l20, hM.l21, hM.l22, hM.l23, hM.l24, hM.l25, hM.l26, hM.l27, hM.l28, hM.c10, hM.c11, hM.c12, hM.c13, hM.c14, hM.c15, hM.c19, hM.c20, hM.c23, hM.c27, hM.c36, hM.c37, hM.c38, hM.c40, hM.c41, hM.c42, hM.c44, mb_eq (B_of hM _ _), mb_eq (B_lawOf hM W1 _ _ _), Int.add_zero, sW_8, hd, sLaw_w, sW_1, hv]
    by_cases c : v < 0
    · rw [if_pos c, if_neg (by omega)]
    · rw [if_neg c, if_pos (by omega)]
      simp (config := { maxSteps := 1000000 }) (disch := first | assumption | exact W.i _ _ | exact sLine_i W _ _ _ | exact W1.i _ _ | exact hg _ _ | exact W3.i _ _ | (refine ⟨?_, ?_⟩ <;> omega) | omega | (simp only [sW_1, sW_2, sW_3, sW_4, sW_5, sW_8] <;> first | assumption | omega | (refine ⟨?_, ?_⟩ <;> omega)) | (simp only [sT_1, sT_2, sT_3, sT_4, sT_5, sT_8] <;> first | assumption | omega | (refine ⟨?_, ?_⟩ <;> omega))) only [Int.reduceEq, Int.reduceLT, Int.reduceLE, Int.reduceNeg, Int.reduceAdd, Int.reduceSub, Int.reduceMul, if_true, if_false, not_true, not_false_eq_true, false_or, or_false, true_or, or_true, true_and, and_true, false_and, and_false, iI_on, iI_mul, iI_add, iI_sub, iI_neg, ap_if, mp_eq, mz_0, mz_1, mz_b, b2_0, b2_1, iI_lt, iI_le, iI_inj, mb_div, mb_rem, hM.m, hM.a1, hM.a2, hM.a3, hM.a4, hM.a5, hM.a6, hM.a7, hM.a8, hM.a9, hM.a10, hM.a11, hM.a12, hM.a13, hM.a14, hM.a15, hM.a16, hM.a17, hM.a18, hM.a19, hM.a20, hM.a21, hM.a22, hM.a23, hM.a24, hM.a25, hM.a26, hM.a27, hM.a28, hM.l1, hM.l2, hM.l3, hM.l4, hM.l5, hM.l6, hM.l7, hM.l8, hM.l9, hM.l10, hM.l11, hM.l12, hM.l13, hM.l14, hM.l15, hM.l16, hM.l17, hM.l18, hM.l19, hM.l20, hM.l21, hM.l22, hM.l23, hM.l24, hM.l25, hM.l26, hM.l27, hM.l28, hM.c10, hM.c11, hM.c12, hM.c13, hM.c14, hM.c15, hM.c19, hM.c20, hM.c23, hM.c27, hM.c36, hM.c37, hM.c38, hM.c40, hM.c41, hM.c42, hM.c44, mb_eq (B_pointsOf hM W1 _ _ _ _ _), sPts_w, sW_1]
  rw [unf s hs]
  by_cases c : v < 0
  · rw [if_pos c, b2_f (by omega)]
    exact ⟨s, hs, rfl⟩
  · rw [if_neg c, ← b2_c (P := 0 ≤ lst (fun l => sLine sg v l 0 = 6 ∧ sHolds sg v l (sEnv sg d k (sPts sg d v k))) (sg 5 (2 * v)).toNat) (by omega), ← fo_ex]
    have hp := sPts_b W (v := v) (by omega) hl.2 (d := d) (k := k)
    have nv := W.ve v (by omega) hl.2
    refine (lopR (F := fun n a i s => m12_runsBeside_p43 n M (iI k) (iI d) (iI v) (iI (sPts sg d v k)) (iI a) (iI i) s) (K := fun a s => some (iI a, s)) (N := sg 5 (2 * v)) (I := fun a i => a = 0 ∨ a = 1) (R := RS M h sg) (fun n a s hs hI => ?_) (fun n a i s hs hI h2 h3 => ⟨?_, ?_⟩) (sg 5 (2 * v)).toNat FU 0 0 s hs (Or.inl rfl) (by omega) (by omega) (FU_lt (by omega))).1
    · obtain ⟨g, hg, rfl⟩ := hs
      show m12_runsBeside_p43 (n + 1) M (iI k) (iI d) (iI v) (iI (sPts sg d v k)) (iI a) (iI (sg 5 (2 * v))) (mK M (sW sg g) h) = some (iI a, mK M (sW sg g) h)
      have W1 := W.w hg
      rw [m12_runsBeside_p43]
      rcases hI with rfl | rfl <;> simp (config := { maxSteps := 1000000 }) (disch := first | assumption | exact W.i _ _ | exact sLine_i W _ _ _ | exact W1.i _ _ | exact hg _ _ | exact W3.i _ _ | (refine ⟨?_, ?_⟩ <;> omega) | omega | (simp only [sW_1, sW_2, sW_3, sW_4, sW_5, sW_8] <;> first | assumption | omega | (refine ⟨?_, ?_⟩ <;> omega)) | (simp only [sT_1, sT_2, sT_3, sT_4, sT_5, sT_8] <;> first | assumption | omega | (refine ⟨?_, ?_⟩ <;> omega))) only [Int.reduceEq, Int.reduceLT, Int.reduceLE, Int.reduceNeg, Int.reduceAdd, Int.reduceSub, Int.reduceMul, if_true, if_false, not_true, not_false_eq_true, false_or, or_false, true_or, or_true, true_and, and_true, false_and, and_false, iI_on, iI_mul, iI_add, iI_sub, iI_neg, ap_if, mp_eq, mz_0, mz_1, mz_b, b2_0, b2_1, iI_lt, iI_le, iI_inj, mb_div, mb_rem, hM.m, hM.a1, hM.a2, hM.a3, hM.a4, hM.a5, hM.a6, hM.a7, hM.a8, hM.a9, hM.a10, hM.a11, hM.a12, hM.a13, hM.a14, hM.a15, hM.a16, hM.a17, hM.a18, hM.a19, hM.a20, hM.a21, hM.a22, hM.a23, hM.a24, hM.a25, hM.a26, hM.a27, hM.a28, hM.l1, hM.l2, hM.l3, hM.l4, hM.l5, hM.l6, hM.l7, hM.l8, hM.l9, hM.l10, hM.l11, hM.l12, hM.l13, hM.l14, hM.l15, hM.l16, hM.l17, hM.l18, hM.l19, hM.l20, hM.l21, hM.l22, hM.l23, hM.l24, hM.l25, hM.l26, hM.l27, hM.l28, hM.c10, hM.c11, hM.c12, hM.c13, hM.c14, hM.c15, hM.c19, hM.c20, hM.c23, hM.c27, hM.c36, hM.c37, hM.c38, hM.c40, hM.c41, hM.c42, hM.c44, sW_5] <;> simp
    · show ∃ s', RS M h sg s' ∧ m12_runsBeside_p43 (n + 1) M (iI k) (iI d) (iI v) (iI (sPts sg d v k)) (iI a) (iI i) s = m12_runsBeside_p43 n M (iI k) (iI d) (iI v) (iI (sPts sg d v k)) (iI (if a = 1 ∨ sLine sg v i 0 = 6 ∧ sHolds sg v i (sEnv sg d k (sPts sg d v k)) then 1 else 0)) (iI (i + 1)) s'
      by_cases c6 : a = 0 ∧ sLine sg v i 0 = 6
      · obtain ⟨s', hs', he⟩ := B_holds hM W (v := v) (by omega) hl.2 h2 h3 (by omega) (by omega) (d := d) (by omega) (by omega) hk (p := sPts sg d v k) (by omega) hs
        refine ⟨s', hs', ?_⟩
        obtain ⟨g, hg, rfl⟩ := hs
        obtain ⟨g', hg', rfl⟩ := hs'
        have W1 := W.w hg
        obtain ⟨rfl, c6⟩ := c6
        rw [m12_runsBeside_p43]
        by_cases ch : sHolds sg v i (sEnv sg d k (sPts sg d v k))
        · rw [b2_t ch] at he
          have hc2 : (0 : Int) = 1 ∨ sLine sg v i 0 = 6 ∧ sHolds sg v i (sEnv sg d k (sPts sg d v k)) := Or.inr ⟨c6, ch⟩
          rw [if_pos hc2]
          (repeat' (first | simp (config := { maxSteps := 1000000 }) (disch := first | assumption | exact W.i _ _ | exact sLine_i W _ _ _ | exact W1.i _ _ | exact hg _ _ | exact W3.i _ _ | (refine ⟨?_, ?_⟩ <;> omega) | omega | (simp only [sW_1, sW_2, sW_3, sW_4, sW_5, sW_8] <;> first | assumption | omega | (refine ⟨?_, ?_⟩ <;> omega)) | (simp only [sT_1, sT_2, sT_3, sT_4, sT_5, sT_8] <;> first | assumption | omega | (refine ⟨?_, ?_⟩ <;> omega))) only [Int.reduceEq, Int.reduceLT, Int.reduceLE, Int.reduceNeg, Int.reduceAdd, Int.reduceSub, Int.reduceMul, if_true, if_false, not_true, not_false_eq_true, false_or, or_false, true_or, or_true, true_and, and_true, false_and, and_false, iI_on, iI_mul, iI_add, iI_sub, iI_neg, ap_if, mp_eq, mz_0, mz_1, mz_b, b2_0, b2_1, iI_lt, iI_le, iI_inj, mb_div, mb_rem, hM.m, hM.a1, hM.a2, hM.a3, hM.a4, hM.a5, hM.a6, hM.a7, hM.a8, hM.a9, hM.a10, hM.a11, hM.a12, hM.a13, hM.a14, hM.a15, hM.a16, hM.a17, hM.a18, hM.a19, hM.a20, hM.a21, hM.a22, hM.a23, hM.a24, hM.a25, hM.a26, hM.a27, hM.a28, hM.l1, hM.l2, hM.l3, hM.l4, hM.l5, hM.l6, hM.l7, hM.l8, hM.l9, hM.l10, hM.l11, hM.l12, hM.l13, hM.l14, hM.l15, hM.l16, hM.l17, hM.l18, hM.l19, hM.l20, hM.l21, hM.l22, hM.l23, hM.l24, hM.l25, hM.l26, hM.l27, hM.l28, hM.c10, hM.c11, hM.c12, hM.c13, hM.c14, hM.c15, hM.c19, hM.c20, hM.c23, hM.c27, hM.c36, hM.c37, hM.c38, hM.c40, hM.c41, hM.c42, hM.c44, mb_eq he, mb_eq (B_ofLine hM _ _), sLine_w, sW_5, m12_runsBeside_p91, m12_runsBeside_p95, m12_runsBeside_p96] | split)) <;> (first | with_reducible rfl | omega | rfl | (subst_vars; rfl) | (simp only [*, Int.add_zero]; done) | (rw [b2_t (by omega)]; done) | (rw [b2_f (by omega)]; done) | (rw [b2_f (by omega), Int.add_zero]))
        · rw [b2_f ch] at he
          have hc2 : ¬ ((0 : Int) = 1 ∨ sLine sg v i 0 = 6 ∧ sHolds sg v i (sEnv sg d k (sPts sg d v k))) := fun q => q.elim (fun q => by omega) (fun q => ch q.2)
          rw [if_neg hc2]
          (repeat' (first | simp (config := { maxSteps := 1000000 }) (disch := first | assumption | exact W.i _ _ | exact sLine_i W _ _ _ | exact W1.i _ _ | exact hg _ _ | exact W3.i _ _ | (refine ⟨?_, ?_⟩ <;> omega) | omega | (simp only [sW_1, sW_2, sW_3, sW_4, sW_5, sW_8] <;> first | assumption | omega | (refine ⟨?_, ?_⟩ <;> omega)) | (simp only [sT_1, sT_2, sT_3, sT_4, sT_5, sT_8] <;> first | assumption | omega | (refine ⟨?_, ?_⟩ <;> omega))) only [Int.reduceEq, Int.reduceLT, Int.reduceLE, Int.reduceNeg, Int.reduceAdd, Int.reduceSub, Int.reduceMul, if_true, if_false, not_true, not_false_eq_true, false_or, or_false, true_or, or_true, true_and, and_true, false_and, and_false, iI_on, iI_mul, iI_add, iI_sub, iI_neg, ap_if, mp_eq, mz_0, mz_1, mz_b, b2_0, b2_1, iI_lt, iI_le, iI_inj, mb_div, mb_rem, hM.m, hM.a1, hM.a2, hM.a3, hM.a4, hM.a5, hM.a6, hM.a7, hM.a8, hM.a9, hM.a10, hM.a11, hM.a12, hM.a13, hM.a14, hM.a15, hM.a16, hM.a17, hM.a18, hM.a19, hM.a20, hM.a21, hM.a22, hM.a23, hM.a24, hM.a25, hM.a26, hM.a27, hM.a28, hM.l1, hM.l2, hM.l3, hM.l4, hM.l5, hM.l6, hM.l7, hM.l8, hM.l9, hM.l10, hM.l11, hM.l12, hM.l13, hM.l14, hM.l15, hM.l16, hM.l17, hM.l18, hM.l19, hM.l20, hM.l21, hM.l22, hM.l23, hM.l24, hM.l25, hM.l26, hM.l27, hM.l28, hM.c10, hM.c11, hM.c12, hM.c13, hM.c14, hM.c15, hM.c19, hM.c20, hM.c23, hM.c27, hM.c36, hM.c37, hM.c38, hM.c40, hM.c41, hM.c42, hM.c44, mb_eq he, mb_eq (B_ofLine hM _ _), sLine_w, sW_5, m12_runsBeside_p91, m12_runsBeside_p95, m12_runsBeside_p96] | split)) <;> (first | with_reducible rfl | omega | rfl | (subst_vars; rfl) | (simp only [*, Int.add_zero]; done) | (rw [b2_t (by omega)]; done) | (rw [b2_f (by omega)]; done) | (rw [b2_f (by omega), Int.add_zero]))
      · refine ⟨s, hs, ?_⟩
        obtain ⟨g, hg, rfl⟩ := hs
        have W1 := W.w hg
        rw [m12_runsBeside_p43]
        have e : (if a = 1 ∨ sLine sg v i 0 = 6 ∧ sHolds sg v i (sEnv sg d k (sPts sg d v k)) then (1 : Int) else 0) = a := by
          rcases hI with rfl | rfl
          · rw [if_neg (fun q => q.elim (fun q => by omega) (fun q => c6 ⟨rfl, q.1⟩))]
          · rw [if_pos (Or.inl rfl)]
        rw [e]
        have i32a : i32 a := by rcases hI with rfl | rfl <;> exact ⟨by omega, by omega⟩
        clear e
        rcases hI with rfl | rfl <;> (repeat' (first | simp (config := { maxSteps := 1000000 }) (disch := first | assumption | exact W.i _ _ | exact sLine_i W _ _ _ | exact W1.i _ _ | exact hg _ _ | exact W3.i _ _ | (refine ⟨?_, ?_⟩ <;> omega) | omega | (simp only [sW_1, sW_2, sW_3, sW_4, sW_5, sW_8] <;> first | assumption | omega | (refine ⟨?_, ?_⟩ <;> omega)) | (simp only [sT_1, sT_2, sT_3, sT_4, sT_5, sT_8] <;> first | assumption | omega | (refine ⟨?_, ?_⟩ <;> omega))) only [Int.reduceEq, Int.reduceLT, Int.reduceLE, Int.reduceNeg, Int.reduceAdd, Int.reduceSub, Int.reduceMul, if_true, if_false, not_true, not_false_eq_true, false_or, or_false, true_or, or_true, true_and, and_true, false_and, and_false, iI_on, iI_mul, iI_add, iI_sub, iI_neg, ap_if, mp_eq, mz_0, mz_1, mz_b, b2_0, b2_1, iI_lt, iI_le, iI_inj, mb_div, mb_rem, hM.m, hM.a1, hM.a2, hM.a3, hM.a4, hM.a5, hM.a6, hM.a7, hM.a8, hM.a9, hM.a10, hM.a11, hM.a12, hM.a13, hM.a14, hM.a15, hM.a16, hM.a17, hM.a18, hM.a19, hM.a20, hM.a21, hM.a22, hM.a23, hM.a24, hM.a25, hM.a26, hM.a27, hM.a28, hM.l1, hM.l2, hM.l3, hM.l4, hM.l5, hM.l6, hM.l7, hM.l8, hM.l9, hM.l10, hM.l11, hM.l12, hM.l13, hM.l14, hM.l15, hM.l16, hM.l17, hM.l18, hM.l19, hM.l20, hM.l21, hM.l22, hM.l23, hM.l24, hM.l25, hM.l26, hM.l27, hM.l28, hM.c10, hM.c11, hM.c12, hM.c13, hM.c14, hM.c15, hM.c19, hM.c20, hM.c23, hM.c27, hM.c36, hM.c37, hM.c38, hM.c40, hM.c41, hM.c42, hM.c44, mb_eq (B_ofLine hM _ _), sLine_w, sW_5, m12_runsBeside_p91, m12_runsBeside_p95, m12_runsBeside_p96] | split)) <;> (first | with_reducible rfl | omega | rfl | (subst_vars; rfl) | (simp only [*, Int.add_zero]; done) | (rw [b2_t (by omega)]; done) | (rw [b2_f (by omega)]; done) | (rw [b2_f (by omega), Int.add_zero]))
    · show (if _ then (1 : Int) else 0) = 0 ∨ (if _ then (1 : Int) else 0) = 1
      split <;> simp
theorem B_runsBeside (hM : OKM M h) (W : WD sg) {t k : Int} (h0 : 0 ≤ t) (h1 : t < sg 1 5) (hk : i32 k) {s : gH} (hs : RS M h sg s) :
    ∃ s', RS M h sg s' ∧ m12_runsBeside M (iI t) (iI k) s = some (iI (b2 (sBeside sg t k)), s') := B_runsBeside0 hM W h0 h1 hk hs rfl rfl
def sBegin (sg : Nat → Int → Int) (t e k : Int) : Int := if sg 8 (7 * t + 5) < e ∧ ¬ sBeside sg t k then e else sg 8 (7 * t + 5)
theorem B_beginOf (hM : OKM M h) (W : WD sg) {t e k : Int} (h0 : 0 ≤ t) (h1 : t < sg 1 5) (hk : i32 k) (he : i32 e) {s : gH} (hs : RS M h sg s) :
    ∃ s', RS M h sg s' ∧ m12_beginOf M (iI t) (iI e) (iI k) s = some (iI (sBegin sg t e k), s') := by
  have nt := W.te t h0 h1
  have n5 := W.n5
  unfold sBegin
  by_cases c : sg 8 (7 * t + 5) < e
  · obtain ⟨s', hs', hx⟩ := B_runsBeside hM W h0 h1 hk hs
    refine ⟨s', hs', ?_⟩
    obtain ⟨g, hg, rfl⟩ := hs
    obtain ⟨g', hg', rfl⟩ := hs'
    have W1 := W.w hg
    unfold m12_beginOf
    by_cases cb : sBeside sg t k
    · rw [b2_t cb] at hx
      have hc2 : ¬ (sg 8 (7 * t + 5) < e ∧ ¬ sBeside sg t k) := fun q => q.2 cb
      rw [if_neg hc2]
      (repeat' (first | simp (config := { maxSteps := 1000000 }) (disch := first | assumption | exact W.i _ _ | exact sLine_i W _ _ _ | exact W1.i _ _ | exact hg _ _ | exact W3.i _ _ | (refine ⟨?_, ?_⟩ <;> omega) | omega | (simp only [sW_1, sW_2, sW_3, sW_4, sW_5, sW_8] <;> first | assumption | omega | (refine ⟨?_, ?_⟩ <;> omega)) | (simp only [sT_1, sT_2, sT_3, sT_4, sT_5, sT_8] <;> first | assumption | omega | (refine ⟨?_, ?_⟩ <;> omega))) only [Int.reduceEq, Int.reduceLT, Int.reduceLE, Int.reduceNeg, Int.reduceAdd, Int.reduceSub, Int.reduceMul, if_true, if_false, not_true, not_false_eq_true, false_or, or_false, true_or, or_true, true_and, and_true, false_and, and_false, iI_on, iI_mul, iI_add, iI_sub, iI_neg, ap_if, mp_eq, mz_0, mz_1, mz_b, b2_0, b2_1, iI_lt, iI_le, iI_inj, mb_div, mb_rem, hM.m, hM.a1, hM.a2, hM.a3, hM.a4, hM.a5, hM.a6, hM.a7, hM.a8, hM.a9, hM.a10, hM.a11, hM.a12, hM.a13, hM.a14, hM.a15, hM.a16, hM.a17, hM.a18, hM.a19, hM.a20, hM.a21, hM.a22, hM.a23, hM.a24, hM.a25, hM.a26, hM.a27, hM.a28, hM.l1, hM.l2, hM.l3, hM.l4, hM.l5, hM.l6, hM.l7, hM.l8, hM.l9, hM.l10, hM.l11, hM.l12, hM.l13, hM.l14, hM.l15, hM.l16, hM.l17, hM.l18, hM.l19, hM.l20, hM.l21, hM.l22, hM.l23, hM.l24, hM.l25, hM.l26, hM.l27, hM.l28, hM.c10, hM.c11, hM.c12, hM.c13, hM.c14, hM.c15, hM.c19, hM.c20, hM.c23, hM.c27, hM.c36, hM.c37, hM.c38, hM.c40, hM.c41, hM.c42, hM.c44, mb_eq (B_of hM _ _), sW_8, mb_eq hx, m12_beginOf_p23, m12_beginOf_p29] | split)) <;> (first | with_reducible rfl | omega | rfl | (subst_vars; rfl) | (simp only [*, Int.add_zero]; done) | (rw [b2_t (by omega)]; done) | (rw [b2_f (by omega)]; done) | (rw [b2_f (by omega), Int.add_zero]))
    · rw [b2_f cb] at hx
      have hc2 : sg 8 (7 * t + 5) < e ∧ ¬ sBeside sg t k := ⟨c, cb⟩
      rw [if_pos hc2]
      (repeat' (first | simp (config := { maxSteps := 1000000 }) (disch := first | assumption | exact W.i _ _ | exact sLine_i W _ _ _ | exact W1.i _ _ | exact hg _ _ | exact W3.i _ _ | (refine ⟨?_, ?_⟩ <;> omega) | omega | (simp only [sW_1, sW_2, sW_3, sW_4, sW_5, sW_8] <;> first | assumption | omega | (refine ⟨?_, ?_⟩ <;> omega)) | (simp only [sT_1, sT_2, sT_3, sT_4, sT_5, sT_8] <;> first | assumption | omega | (refine ⟨?_, ?_⟩ <;> omega))) only [Int.reduceEq, Int.reduceLT, Int.reduceLE, Int.reduceNeg, Int.reduceAdd, Int.reduceSub, Int.reduceMul, if_true, if_false, not_true, not_false_eq_true, false_or, or_false, true_or, or_true, true_and, and_true, false_and, and_false, iI_on, iI_mul, iI_add, iI_sub, iI_neg, ap_if, mp_eq, mz_0, mz_1, mz_b, b2_0, b2_1, iI_lt, iI_le, iI_inj, mb_div, mb_rem, hM.m, hM.a1, hM.a2, hM.a3, hM.a4, hM.a5, hM.a6, hM.a7, hM.a8, hM.a9, hM.a10, hM.a11, hM.a12, hM.a13, hM.a14, hM.a15, hM.a16, hM.a17, hM.a18, hM.a19, hM.a20, hM.a21, hM.a22, hM.a23, hM.a24, hM.a25, hM.a26, hM.a27, hM.a28, hM.l1, hM.l2, hM.l3, hM.l4, hM.l5, hM.l6, hM.l7, hM.l8, hM.l9, hM.l10, hM.l11, hM.l12, hM.l13, hM.l14, hM.l15, hM.l16, hM.l17, hM.l18, hM.l19, hM.l20, hM.l21, hM.l22, hM.l23, hM.l24, hM.l25, hM.l26, hM.l27, hM.l28, hM.c10, hM.c11, hM.c12, hM.c13, hM.c14, hM.c15, hM.c19, hM.c20, hM.c23, hM.c27, hM.c36, hM.c37, hM.c38, hM.c40, hM.c41, hM.c42, hM.c44, mb_eq (B_of hM _ _), sW_8, mb_eq hx, m12_beginOf_p23, m12_beginOf_p29] | split)) <;> (first | with_reducible rfl | omega | rfl | (subst_vars; rfl) | (simp only [*, Int.add_zero]; done) | (rw [b2_t (by omega)]; done) | (rw [b2_f (by omega)]; done) | (rw [b2_f (by omega), Int.add_zero]))
  · refine ⟨s, hs, ?_⟩
    obtain ⟨g, hg, rfl⟩ := hs
    have W1 := W.w hg
    unfold m12_beginOf
    have hc2 : ¬ (sg 8 (7 * t + 5) < e ∧ ¬ sBeside sg t k) := fun q => c q.1
    rw [if_neg hc2]
    (repeat' (first | simp (config := { maxSteps := 1000000 }) (disch := first | assumption | exact W.i _ _ | exact sLine_i W _ _ _ | exact W1.i _ _ | exact hg _ _ | exact W3.i _ _ | (refine ⟨?_, ?_⟩ <;> omega) | omega | (simp only [sW_1, sW_2, sW_3, sW_4, sW_5, sW_8] <;> first | assumption | omega | (refine ⟨?_, ?_⟩ <;> omega)) | (simp only [sT_1, sT_2, sT_3, sT_4, sT_5, sT_8] <;> first | assumption | omega | (refine ⟨?_, ?_⟩ <;> omega))) only [Int.reduceEq, Int.reduceLT, Int.reduceLE, Int.reduceNeg, Int.reduceAdd, Int.reduceSub, Int.reduceMul, if_true, if_false, not_true, not_false_eq_true, false_or, or_false, true_or, or_true, true_and, and_true, false_and, and_false, iI_on, iI_mul, iI_add, iI_sub, iI_neg, ap_if, mp_eq, mz_0, mz_1, mz_b, b2_0, b2_1, iI_lt, iI_le, iI_inj, mb_div, mb_rem, hM.m, hM.a1, hM.a2, hM.a3, hM.a4, hM.a5, hM.a6, hM.a7, hM.a8, hM.a9, hM.a10, hM.a11, hM.a12, hM.a13, hM.a14, hM.a15, hM.a16, hM.a17, hM.a18, hM.a19, hM.a20, hM.a21, hM.a22, hM.a23, hM.a24, hM.a25, hM.a26, hM.a27, hM.a28, hM.l1, hM.l2, hM.l3, hM.l4, hM.l5, hM.l6, hM.l7, hM.l8, hM.l9, hM.l10, hM.l11, hM.l12, hM.l13, hM.l14, hM.l15, hM.l16, hM.l17, hM.l18, hM.l19, hM.l20, hM.l21, hM.l22, hM.l23, hM.l24, hM.l25, hM.l26, hM.l27, hM.l28, hM.c10, hM.c11, hM.c12, hM.c13, hM.c14, hM.c15, hM.c19, hM.c20, hM.c23, hM.c27, hM.c36, hM.c37, hM.c38, hM.c40, hM.c41, hM.c42, hM.c44, mb_eq (B_of hM _ _), sW_8, m12_beginOf_p23, m12_beginOf_p29] | split)) <;> (first | with_reducible rfl | omega | rfl | (subst_vars; rfl) | (simp only [*, Int.add_zero]; done) | (rw [b2_t (by omega)]; done) | (rw [b2_f (by omega)]; done) | (rw [b2_f (by omega), Int.add_zero]))
/-! times, newest ahead: the term, its begin, its end -/
abbrev Tm : Type := List (Int × Int × Int)
def lE : Tm → Int
  | [] => 0
  | x :: r => if lE r < x.2.2 then x.2.2 else lE r
def tmR (f1 f2 f3 : Int → Int) : Tm → Prop
  | [] => True
  | x :: r => f1 r.length = x.1 ∧ f2 r.length = x.2.1 ∧ f3 r.length = x.2.2 ∧ tmR f1 f2 f3 r
theorem tmR_c {f1 f2 f3 g1 g2 g3 : Int → Int} : ∀ {a : Tm}, (∀ j : Int, 0 ≤ j → j < a.length → f1 j = g1 j ∧ f2 j = g2 j ∧ f3 j = g3 j) → tmR f1 f2 f3 a → tmR g1 g2 g3 a
  | [], _, _ => trivial
  | x :: r, h, hs => by
    have e : ((x :: r).length : Int) = r.length + 1 := by simp
    obtain ⟨a, b, c⟩ := h r.length (by omega) (by omega)
    exact ⟨by rw [← a]; exact hs.1, by rw [← b]; exact hs.2.1, by rw [← c]; exact hs.2.2.1, tmR_c (fun j h0 h1 => h j h0 (by omega)) hs.2.2.2⟩
/-- the greater of the ends so far -/
theorem fo_lE {f1 f2 f3 : Int → Int} : ∀ {a : Tm}, tmR f1 f2 f3 a → fo (fun e i => if e < f3 i then f3 i else e) a.length 0 0 = lE a
  | [], _ => rfl
  | x :: r, h => by
    show fo _ (r.length + 1) 0 0 = _
    rw [fo_succ, fo_lE h.2.2.2, Int.zero_add, h.2.2.1]
    rfl
/-- begins and ends are days not far off -/
def tmB (sg : Nat → Int → Int) (a : Tm) : Prop := ∀ x, x ∈ a → (0 ≤ x.1 ∧ x.1 < sg 1 5) ∧ (0 ≤ x.2.1 ∧ x.2.1 ≤ 9999 + 7200 * a.length) ∧ (0 ≤ x.2.2 ∧ x.2.2 ≤ 9999 + 7200 * a.length)
theorem lE_b {B : Int} (hB : 0 ≤ B) : ∀ {a : Tm}, (∀ x, x ∈ a → 0 ≤ x.2.2 ∧ x.2.2 ≤ B) → 0 ≤ lE a ∧ lE a ≤ B
  | [], _ => ⟨by simp [lE], by simpa [lE] using hB⟩
  | x :: r, h => by
    have := lE_b hB (a := r) (fun y hy => h y (List.mem_cons_of_mem _ hy))
    have := h x List.mem_cons_self
    unfold lE
    split <;> omega
def sTmS (sg : Nat → Int → Int) (p k : Int) : Tm → Int → Tm := fun a t => if sg 3 (3 * sg 8 (7 * t)) = p ∧ sStands sg t k then (t, sBegin sg t (lE a) k, sBegin sg t (lE a) k + 30 * sg 8 (7 * t + 2)) :: a else a
def sTime (sg : Nat → Int → Int) (p k : Int) : Tm := fo (sTmS sg p k) (sg 1 5).toNat [] 0
theorem sBegin_b {B : Int} (W : WD sg) {t e k : Int} (h0 : 0 ≤ t) (h1 : t < sg 1 5) (he : 0 ≤ e ∧ e ≤ B) (hB : 9999 ≤ B) : 0 ≤ sBegin sg t e k ∧ sBegin sg t e k ≤ B := by
  have nt := W.te t h0 h1
  have n0 := W.n0
  unfold sBegin
  split <;> omega
theorem tmB_s (W : WD sg) {p k : Int} {a : Tm} {t : Int} (h0 : 0 ≤ t) (h1 : t < sg 1 5) (h : tmB sg a) : tmB sg (sTmS sg p k a t) := by
  unfold sTmS
  split
  · have hl := lE_b (B := 9999 + 7200 * a.length) (by omega) (fun x hx => (h x hx).2.2)
    have hb := sBegin_b (B := 9999 + 7200 * a.length) W (e := lE a) (k := k) h0 h1 hl (by omega)
    have nt := W.te t h0 h1
    intro x hx
    rw [List.length_cons]
    rcases List.mem_cons.mp hx with e | e
    · subst e
      dsimp only
      omega
    · have := h x e
      omega
  · exact h
theorem tm_len (p k : Int) : ∀ (m : Nat) (a : Tm) (i : Int), (fo (sTmS sg p k) m a i).length ≤ a.length + m
  | 0, a, i => by simp [fo]
  | m + 1, a, i => by
    have := tm_len p k m (sTmS sg p k a i) (i + 1)
    rw [fo]
    have h2 : (sTmS sg p k a i).length ≤ a.length + 1 := by
      unfold sTmS
      split <;> simp
    omega
theorem sTime_b (W : WD sg) (p k : Int) : tmB sg (sTime sg p k) := fo_invr (I := tmB sg) (N := sg 1 5) (fun a i h h0 h1 => tmB_s W h0 h1 h) _ _ _ (fun x hx => by cases hx) (by omega) (by have := W.n5; omega)
theorem sTime_l (W : WD sg) (p k : Int) : (sTime sg p k).length ≤ 16 := by
  have h1 : (sTime sg p k).length ≤ 0 + (sg 1 5).toNat := tm_len (sg := sg) p k (sg 1 5).toNat [] 0
  have := W.n5
  omega
/-- the reference holds sg, but for scratch -/
def RT (M : Nat) (h : gH) (sg : Nat → Int → Int) (s : gH) : Prop := ∃ g, okG g ∧ s = mK M (sT sg g) h
theorem RT.self (W : WD sg) : RT M h sg (mK M sg h) := ⟨sg, W.i, by rw [sT_self]⟩
theorem RT.of {s : gH} (h1 : RS M h sg s) (W : WD sg) : RT M h sg s := by
  obtain ⟨g, hg, rfl⟩ := h1
  refine ⟨fun k => if k = 15 then g k else sg k, fun k j => ?_, ?_⟩
  · show i32 ((if k = 15 then g k else sg k) j)
    split
    · exact hg _ _
    · exact W.i _ _
  · rw [← sW_sT, sT_self]
/-- the reference's rows of times hold a -/
def TG (sg : Nat → Int → Int) (g : Nat → Int → Int) (a : Tm) : Prop := okG g ∧ g 0 23 = a.length ∧ tmR (g 16) (g 17) (g 18) a ∧ tmB sg a ∧ a.length ≤ 16
theorem B_lastEnd (hM : OKM M h) (W : WD sg) {g : Nat → Int → Int} {a : Tm} (hT : TG sg g a) : m12_lastEnd M (mK M (sT sg g) h) = some (iI (lE a), mK M (sT sg g) h) := by
  obtain ⟨hg, hc, hR, hb, hl⟩ := hT
  have W1 := W.t hg
  rw [← fo_lE hR]
  unfold m12_lastEnd
  simp (config := { maxSteps := 1000000 }) (disch := first | assumption | exact W.i _ _ | exact sLine_i W _ _ _ | exact W1.i _ _ | exact hg _ _ | exact W3.i _ _ | (refine ⟨?_, ?_⟩ <;> omega) | omega | (simp only [sW_1, sW_2, sW_3, sW_4, sW_5, sW_8] <;> first | assumption | omega | (refine ⟨?_, ?_⟩ <;> omega)) | (simp only [sT_1, sT_2, sT_3, sT_4, sT_5, sT_8] <;> first | assumption | omega | (refine ⟨?_, ?_⟩ <;> omega))) only [Int.reduceEq, Int.reduceLT, Int.reduceLE, Int.reduceNeg, Int.reduceAdd, Int.reduceSub, Int.reduceMul, if_true, if_false, not_true, not_false_eq_true, false_or, or_false, true_or, or_true, true_and, and_true, false_and, and_false, iI_on, iI_mul, iI_add, iI_sub, iI_neg, ap_if, mp_eq, mz_0, mz_1, mz_b, b2_0, b2_1, iI_lt, iI_le, iI_inj, mb_div, mb_rem, hM.m, hM.a1, hM.a2, hM.a3, hM.a4, hM.a5, hM.a6, hM.a7, hM.a8, hM.a9, hM.a10, hM.a11, hM.a12, hM.a13, hM.a14, hM.a15, hM.a16, hM.a17, hM.a18, hM.a19, hM.a20, hM.a21, hM.a22, hM.a23, hM.a24, hM.a25, hM.a26, hM.a27, hM.a28, hM.l1, hM.l2, hM.l3, hM.l4, hM.l5, hM.l6, hM.l7, hM.l8, hM.l9, hM.l10, hM.l11, hM.l12, hM.l13, hM.l14, hM.l15, hM.l16, hM.l17, hM.l18, hM.l19, hM.l20, hM.l21, hM.l22, hM.l23, hM.l24, hM.l25, hM.l26, hM.l27, hM.l28, hM.c10, hM.c11, hM.c12, hM.c13, hM.c14, hM.c15, hM.c19, hM.c20, hM.c23, hM.c27, hM.c36, hM.c37, hM.c38, hM.c40, hM.c41, hM.c42, hM.c44]
  refine (lop (F := fun n e i => m12_lastEnd_p4 n M (iI e) (iI i) (mK M (sT sg g) h)) (K := fun e => some (iI e, mK M (sT sg g) h)) (N := a.length) (I := fun e _ => i32 e) (fun n e hI => ?_) (fun n e i hI h2 h3 => ⟨?_, ?_⟩) a.length FU 0 0 ⟨by omega, by omega⟩ (by omega) (by omega) (FU_lt (by omega))).1
  · show m12_lastEnd_p4 (n + 1) M (iI e) (iI (a.length : Int)) (mK M (sT sg g) h) = some (iI e, mK M (sT sg g) h)
    rw [m12_lastEnd_p4]
    simp (config := { maxSteps := 1000000 }) (disch := first | assumption | exact W.i _ _ | exact sLine_i W _ _ _ | exact W1.i _ _ | exact hg _ _ | exact W3.i _ _ | (refine ⟨?_, ?_⟩ <;> omega) | omega | (simp only [sW_1, sW_2, sW_3, sW_4, sW_5, sW_8] <;> first | assumption | omega | (refine ⟨?_, ?_⟩ <;> omega)) | (simp only [sT_1, sT_2, sT_3, sT_4, sT_5, sT_8] <;> first | assumption | omega | (refine ⟨?_, ?_⟩ <;> omega))) only [Int.reduceEq, Int.reduceLT, Int.reduceLE, Int.reduceNeg, Int.reduceAdd, Int.reduceSub, Int.reduceMul, if_true, if_false, not_true, not_false_eq_true, false_or, or_false, true_or, or_true, true_and, and_true, false_and, and_false, iI_on, iI_mul, iI_add, iI_sub, iI_neg, ap_if, mp_eq, mz_0, mz_1, mz_b, b2_0, b2_1, iI_lt, iI_le, iI_inj, mb_div, mb_rem, hM.m, hM.a1, hM.a2, hM.a3, hM.a4, hM.a5, hM.a6, hM.a7, hM.a8, hM.a9, hM.a10, hM.a11, hM.a12, hM.a13, hM.a14, hM.a15, hM.a16, hM.a17, hM.a18, hM.a19, hM.a20, hM.a21, hM.a22, hM.a23, hM.a24, hM.a25, hM.a26, hM.a27, hM.a28, hM.l1, hM.l2, hM.l3, hM.l4, hM.l5, hM.l6, hM.l7, hM.l8, hM.l9, hM.l10, hM.l11, hM.l12, hM.l13, hM.l14, hM.l15, hM.l16, hM.l17, hM.l18, hM.l19, hM.l20, hM.l21, hM.l22, hM.l23, hM.l24, hM.l25, hM.l26, hM.l27, hM.l28, hM.c10, hM.c11, hM.c12, hM.c13, hM.c14, hM.c15, hM.c19, hM.c20, hM.c23, hM.c27, hM.c36, hM.c37, hM.c38, hM.c40, hM.c41, hM.c42, hM.c44, sT_t, hc]
    simp
  · show m12_lastEnd_p4 (n + 1) M (iI e) (iI i) (mK M (sT sg g) h) = m12_lastEnd_p4 n M (iI (if e < g 18 i then g 18 i else e)) (iI (i + 1)) (mK M (sT sg g) h)
    have := hg 18 i
    rw [m12_lastEnd_p4]
    (repeat' (first | simp (config := { maxSteps := 1000000 }) (disch := first | assumption | exact W.i _ _ | exact sLine_i W _ _ _ | exact W1.i _ _ | exact hg _ _ | exact W3.i _ _ | (refine ⟨?_, ?_⟩ <;> omega) | omega | (simp only [sW_1, sW_2, sW_3, sW_4, sW_5, sW_8] <;> first | assumption | omega | (refine ⟨?_, ?_⟩ <;> omega)) | (simp only [sT_1, sT_2, sT_3, sT_4, sT_5, sT_8] <;> first | assumption | omega | (refine ⟨?_, ?_⟩ <;> omega))) only [Int.reduceEq, Int.reduceLT, Int.reduceLE, Int.reduceNeg, Int.reduceAdd, Int.reduceSub, Int.reduceMul, if_true, if_false, not_true, not_false_eq_true, false_or, or_false, true_or, or_true, true_and, and_true, false_and, and_false, iI_on, iI_mul, iI_add, iI_sub, iI_neg, ap_if, mp_eq, mz_0, mz_1, mz_b, b2_0, b2_1, iI_lt, iI_le, iI_inj, mb_div, mb_rem, hM.m, hM.a1, hM.a2, hM.a3, hM.a4, hM.a5, hM.a6, hM.a7, hM.a8, hM.a9, hM.a10, hM.a11, hM.a12, hM.a13, hM.a14, hM.a15, hM.a16, hM.a17, hM.a18, hM.a19, hM.a20, hM.a21, hM.a22, hM.a23, hM.a24, hM.a25, hM.a26, hM.a27, hM.a28, hM.l1, hM.l2, hM.l3, hM.l4, hM.l5, hM.l6, hM.l7, hM.l8, hM.l9, hM.l10, hM.l11, hM.l12, hM.l13, hM.l14, hM.l15, hM.l16, hM.l17, hM.l18, hM.l19, hM.l20, hM.l21, hM.l22, hM.l23, hM.l24, hM.l25, hM.l26, hM.l27, hM.l28, hM.c10, hM.c11, hM.c12, hM.c13, hM.c14, hM.c15, hM.c19, hM.c20, hM.c23, hM.c27, hM.c36, hM.c37, hM.c38, hM.c40, hM.c41, hM.c42, hM.c44, sT_t, hc, sT_18, m12_lastEnd_p32] | split)) <;> (first | with_reducible rfl | omega | rfl | (subst_vars; rfl) | (simp only [*, Int.add_zero]; done) | (rw [b2_t (by omega)]; done) | (rw [b2_f (by omega)]; done) | (rw [b2_f (by omega), Int.add_zero]))
  · show i32 (if e < g 18 i then g 18 i else e)
    split
    · exact hg _ _
    · exact hI
theorem B_findTime (hM : OKM M h) (W : WD sg) {p k : Int} (hp : i32 p) (hk : i32 k) {s : gH} (hs : RT M h sg s) :
    ∃ g, TG sg g (sTime sg p k) ∧ m12_findTime M (iI p) (iI k) s = some ((), mK M (sT sg g) h) := by
  obtain ⟨g, hg, rfl⟩ := hs
  have n5 := W.n5
  unfold m12_findTime
  simp (config := { maxSteps := 1000000 }) (disch := first | assumption | exact W.i _ _ | exact sLine_i W _ _ _ | exact W1.i _ _ | exact hg _ _ | exact W3.i _ _ | (refine ⟨?_, ?_⟩ <;> omega) | omega | (simp only [sW_1, sW_2, sW_3, sW_4, sW_5, sW_8] <;> first | assumption | omega | (refine ⟨?_, ?_⟩ <;> omega)) | (simp only [sT_1, sT_2, sT_3, sT_4, sT_5, sT_8] <;> first | assumption | omega | (refine ⟨?_, ?_⟩ <;> omega))) only [Int.reduceEq, Int.reduceLT, Int.reduceLE, Int.reduceNeg, Int.reduceAdd, Int.reduceSub, Int.reduceMul, if_true, if_false, not_true, not_false_eq_true, false_or, or_false, true_or, or_true, true_and, and_true, false_and, and_false, iI_on, iI_mul, iI_add, iI_sub, iI_neg, ap_if, mp_eq, mz_0, mz_1, mz_b, b2_0, b2_1, iI_lt, iI_le, iI_inj, mb_div, mb_rem, hM.m, hM.a1, hM.a2, hM.a3, hM.a4, hM.a5, hM.a6, hM.a7, hM.a8, hM.a9, hM.a10, hM.a11, hM.a12, hM.a13, hM.a14, hM.a15, hM.a16, hM.a17, hM.a18, hM.a19, hM.a20, hM.a21, hM.a22, hM.a23, hM.a24, hM.a25, hM.a26, hM.a27, hM.a28, hM.l1, hM.l2, hM.l3, hM.l4, hM.l5, hM.l6, hM.l7, hM.l8, hM.l9, hM.l10, hM.l11, hM.l12, hM.l13, hM.l14, hM.l15, hM.l16, hM.l17, hM.l18, hM.l19, hM.l20, hM.l21, hM.l22, hM.l23, hM.l24, hM.l25, hM.l26, hM.l27, hM.l28, hM.c10, hM.c11, hM.c12, hM.c13, hM.c14, hM.c15, hM.c19, hM.c20, hM.c23, hM.c27, hM.c36, hM.c37, hM.c38, hM.c40, hM.c41, hM.c42, hM.c44, hM.w1, hM.w2, hM.w3, hM.w4, hM.w5, hM.w6, hM.w7, hM.w8, hM.w9, hM.w10, hM.w11, hM.w12, hM.w13, hM.w14, hM.w15, hM.w16, hM.w17, hM.w18, hM.w19, hM.w20, hM.w21, hM.w22, hM.w23, hM.w24, hM.w25, hM.w26, hM.w27, hM.w28, hM.p10, hM.p11, hM.p12, hM.p13, hM.p14, hM.p15, hM.p19, hM.p20, hM.p23, hM.p27, hM.p36, hM.p37, hM.p38, hM.p40, hM.p41, hM.p42, hM.p44, s3_at, s3_nk, s3_nj, sT_st]
  have key := lopQ (F := fun n (_ : Tm) i s => m12_findTime_p7 n M (iI p) (iI k) (iI i) s) (K := fun _ s => some ((), s)) (N := sg 1 5) (st := sTmS sg p k) (R := fun a i s => ∃ g, TG sg g a ∧ (a.length : Int) ≤ i ∧ s = mK M (sT sg g) h) (fun n a s hR => ?_) (fun n a i s hR h0 h1 => ?_) (sg 1 5).toNat FU [] 0 (mK M (sT sg (s3 g 0 23 0)) h) ⟨s3 g 0 23 0, ⟨hg.s ⟨by omega, by omega⟩, rfl, trivial, fun x hx => (by cases hx), by simp⟩, by simp, rfl⟩ (by omega) (by omega) (FU_lt (by omega))
  · obtain ⟨s', ⟨g', h1, _, h2⟩, h3⟩ := key
    subst h2
    exact ⟨g', h1, h3⟩
  · obtain ⟨g, hT, _, rfl⟩ := hR
    have W1 := W.t hT.1
    show m12_findTime_p7 (n + 1) M (iI p) (iI k) (iI (sg 1 5)) (mK M (sT sg g) h) = some ((), mK M (sT sg g) h)
    rw [m12_findTime_p7]
    simp (config := { maxSteps := 1000000 }) (disch := first | assumption | exact W.i _ _ | exact sLine_i W _ _ _ | exact W1.i _ _ | exact hg _ _ | exact W3.i _ _ | (refine ⟨?_, ?_⟩ <;> omega) | omega | (simp only [sW_1, sW_2, sW_3, sW_4, sW_5, sW_8] <;> first | assumption | omega | (refine ⟨?_, ?_⟩ <;> omega)) | (simp only [sT_1, sT_2, sT_3, sT_4, sT_5, sT_8] <;> first | assumption | omega | (refine ⟨?_, ?_⟩ <;> omega))) only [Int.reduceEq, Int.reduceLT, Int.reduceLE, Int.reduceNeg, Int.reduceAdd, Int.reduceSub, Int.reduceMul, if_true, if_false, not_true, not_false_eq_true, false_or, or_false, true_or, or_true, true_and, and_true, false_and, and_false, iI_on, iI_mul, iI_add, iI_sub, iI_neg, ap_if, mp_eq, mz_0, mz_1, mz_b, b2_0, b2_1, iI_lt, iI_le, iI_inj, mb_div, mb_rem, hM.m, hM.a1, hM.a2, hM.a3, hM.a4, hM.a5, hM.a6, hM.a7, hM.a8, hM.a9, hM.a10, hM.a11, hM.a12, hM.a13, hM.a14, hM.a15, hM.a16, hM.a17, hM.a18, hM.a19, hM.a20, hM.a21, hM.a22, hM.a23, hM.a24, hM.a25, hM.a26, hM.a27, hM.a28, hM.l1, hM.l2, hM.l3, hM.l4, hM.l5, hM.l6, hM.l7, hM.l8, hM.l9, hM.l10, hM.l11, hM.l12, hM.l13, hM.l14, hM.l15, hM.l16, hM.l17, hM.l18, hM.l19, hM.l20, hM.l21, hM.l22, hM.l23, hM.l24, hM.l25, hM.l26, hM.l27, hM.l28, hM.c10, hM.c11, hM.c12, hM.c13, hM.c14, hM.c15, hM.c19, hM.c20, hM.c23, hM.c27, hM.c36, hM.c37, hM.c38, hM.c40, hM.c41, hM.c42, hM.c44, sT_1]
    simp
  · obtain ⟨g, hT, hlen, rfl⟩ := hR
    have W1 := W.t hT.1
    have nt := W.te i h0 h1
    have nd := W.de _ nt.1 nt.2.1
    have n1 := W.n1
    show ∃ s', (∃ g, TG sg g (sTmS sg p k a i) ∧ _ ∧ _) ∧ m12_findTime_p7 (n + 1) M (iI p) (iI k) (iI i) (mK M (sT sg g) h) = m12_findTime_p7 n M (iI p) (iI k) (iI (i + 1)) s'
    by_cases c : sg 3 (3 * sg 8 (7 * i)) = p ∧ sStands sg i k
    · have hT1 : TG sg (s3 g 16 (a.length : Int) i) a := ⟨hT.1.s ⟨by omega, by omega⟩, hT.2.1, tmR_c (fun j _ hj => ⟨(s3_ne (Or.inr (by omega))).symm, rfl, rfl⟩) hT.2.2.1, hT.2.2.2.1, hT.2.2.2.2⟩
      have hL := B_lastEnd hM W hT1
      have W2 := W.t hT1.1
      have hl16 := hT.2.2.2.2
      have hlb := lE_b (B := 9999 + 7200 * a.length) (by omega) (fun x hx => (hT.2.2.2.1 x hx).2.2)
      have hc := hT.2.1
      have hbb := sBegin_b (B := 9999 + 7200 * a.length) W (e := lE a) (k := k) h0 h1 hlb (by omega)
      have hlen15 : (a.length : Int) < 16 := by omega
      obtain ⟨s1, hs1, hB⟩ := B_beginOf hM W2 (t := i) h0 h1 hk (e := lE a) ⟨by omega, by omega⟩ (s := mK M (sT sg (s3 g 16 (a.length : Int) i)) h) (RS.self W2)
      obtain ⟨g2, hg2, rfl⟩ := hs1
      rw [sW_sT, show sBegin (sT sg (s3 g 16 (a.length : Int) i)) i (lE a) k = sBegin sg i (lE a) k from rfl] at hB
      have hT3 : TG sg (fun k' => if k' = 15 then g2 k' else s3 g 16 (a.length : Int) i k') a := ⟨fun k' j' => by
        show i32 ((if k' = 15 then g2 k' else s3 g 16 (a.length : Int) i k') j')
        split
        · exact hg2 _ _
        · exact hT1.1 _ _, hT1.2.1, hT1.2.2.1, hT1.2.2.2⟩
      have h16 : (fun k' => if k' = 15 then g2 k' else s3 g 16 (a.length : Int) i k') 16 (a.length : Int) = i := s3_at _ _ _ _
      generalize hg3 : (fun k' => if k' = 15 then g2 k' else s3 g 16 (a.length : Int) i k') = g3 at hB hT3 h16
      have W3 := W.t hT3.1
      have hc3 := hT3.2.1
      have hst : sTmS sg p k a i = (i, sBegin sg i (lE a) k, sBegin sg i (lE a) k + 30 * sg 8 (7 * i + 2)) :: a := if_pos c
      have el4 : ((i, sBegin sg i (lE a) k, sBegin sg i (lE a) k + 30 * sg 8 (7 * i + 2)) :: a).length = a.length + 1 := rfl
      refine ⟨mK M (sT sg (s3 (s3 (s3 g3 17 (a.length : Int) (sBegin sg i (lE a) k)) 18 (a.length : Int) (sBegin sg i (lE a) k + 30 * sg 8 (7 * i + 2))) 0 23 ((a.length : Int) + 1))) h, ⟨_, ⟨((hT3.1.s ⟨by omega, by omega⟩).s ⟨by omega, by omega⟩).s ⟨by omega, by omega⟩, ?_, ?_, tmB_s W h0 h1 hT.2.2.2.1, ?_⟩, ?_, rfl⟩, ?_⟩
      · rw [hst, el4]; simp [s3]
      · rw [hst]
        exact ⟨h16, (s3_ne (Or.inl (by omega))).trans ((s3_ne (Or.inl (by omega))).trans (s3_at _ _ _ _)), (s3_ne (Or.inl (by omega))).trans (s3_at _ _ _ _), tmR_c (fun j _ hj => ⟨rfl, s3_17 hj, s3_18 hj⟩) hT3.2.2.1⟩
      · rw [hst, el4]; omega
      · rw [hst, el4]; omega
      · rw [m12_findTime_p7]
        have e17 : s3 g3 17 (a.length : Int) (sBegin sg i (lE a) k) 17 (a.length : Int) = sBegin sg i (lE a) k := s3_at _ _ _ _
        simp (config := { maxSteps := 1000000 }) (disch := first | assumption | exact W.i _ _ | exact sLine_i W _ _ _ | exact W1.i _ _ | exact hg _ _ | exact W3.i _ _ | (refine ⟨?_, ?_⟩ <;> omega) | omega | (simp only [sW_1, sW_2, sW_3, sW_4, sW_5, sW_8] <;> first | assumption | omega | (refine ⟨?_, ?_⟩ <;> omega)) | (simp only [sT_1, sT_2, sT_3, sT_4, sT_5, sT_8] <;> first | assumption | omega | (refine ⟨?_, ?_⟩ <;> omega))) only [Int.reduceEq, Int.reduceLT, Int.reduceLE, Int.reduceNeg, Int.reduceAdd, Int.reduceSub, Int.reduceMul, if_true, if_false, not_true, not_false_eq_true, false_or, or_false, true_or, or_true, true_and, and_true, false_and, and_false, iI_on, iI_mul, iI_add, iI_sub, iI_neg, ap_if, mp_eq, mz_0, mz_1, mz_b, b2_0, b2_1, iI_lt, iI_le, iI_inj, mb_div, mb_rem, hM.m, hM.a1, hM.a2, hM.a3, hM.a4, hM.a5, hM.a6, hM.a7, hM.a8, hM.a9, hM.a10, hM.a11, hM.a12, hM.a13, hM.a14, hM.a15, hM.a16, hM.a17, hM.a18, hM.a19, hM.a20, hM.a21, hM.a22, hM.a23, hM.a24, hM.a25, hM.a26, hM.a27, hM.a28, hM.l1, hM.l2, hM.l3, hM.l4, hM.l5, hM.l6, hM.l7, hM.l8, hM.l9, hM.l10, hM.l11, hM.l12, hM.l13, hM.l14, hM.l15, hM.l16, hM.l17, hM.l18, hM.l19, hM.l20, hM.l21, hM.l22, hM.l23, hM.l24, hM.l25, hM.l26, hM.l27, hM.l28, hM.c10, hM.c11, hM.c12, hM.c13, hM.c14, hM.c15, hM.c19, hM.c20, hM.c23, hM.c27, hM.c36, hM.c37, hM.c38, hM.c40, hM.c41, hM.c42, hM.c44, hM.w1, hM.w2, hM.w3, hM.w4, hM.w5, hM.w6, hM.w7, hM.w8, hM.w9, hM.w10, hM.w11, hM.w12, hM.w13, hM.w14, hM.w15, hM.w16, hM.w17, hM.w18, hM.w19, hM.w20, hM.w21, hM.w22, hM.w23, hM.w24, hM.w25, hM.w26, hM.w27, hM.w28, hM.p10, hM.p11, hM.p12, hM.p13, hM.p14, hM.p15, hM.p19, hM.p20, hM.p23, hM.p27, hM.p36, hM.p37, hM.p38, hM.p40, hM.p41, hM.p42, hM.p44, s3_at, s3_nk, s3_nj, sT_1, mb_eq (B_whose hM W1 _ _), mb_eq (B_stands hM W1 _ _ _), sT_3, sT_8, c.1, not_true, if_false, sStands_t, b2_t c.2, sT_t, hc, sT_s16, mb_eq hL, mb_eq hB, hc3, sT_s17, sT_17, e17, mb_eq (B_of hM _ _), show s3 g3 17 (a.length : Int) (sBegin sg i (lE a) k) 0 23 = g3 0 23 from rfl, sT_s18, show ∀ x, s3 (s3 g3 17 (a.length : Int) (sBegin sg i (lE a) k)) 18 (a.length : Int) x 0 23 = g3 0 23 from fun _ => rfl, show s3 g 16 (a.length : Int) i 0 23 = g 0 23 from rfl, sT_st, m12_findTime_p102]
        rw [if_neg (by omega)]
    · refine ⟨_, ⟨g, by unfold sTmS; rw [if_neg c]; exact ⟨hT, by omega, rfl⟩⟩, ?_⟩
      rw [m12_findTime_p7]
      by_cases c1 : sg 3 (3 * sg 8 (7 * i)) = p
      · have c2 : ¬ sStands sg i k := fun q => c ⟨c1, q⟩
        (repeat' (first | simp (config := { maxSteps := 1000000 }) (disch := first | assumption | exact W.i _ _ | exact sLine_i W _ _ _ | exact W1.i _ _ | exact hg _ _ | exact W3.i _ _ | (refine ⟨?_, ?_⟩ <;> omega) | omega | (simp only [sW_1, sW_2, sW_3, sW_4, sW_5, sW_8] <;> first | assumption | omega | (refine ⟨?_, ?_⟩ <;> omega)) | (simp only [sT_1, sT_2, sT_3, sT_4, sT_5, sT_8] <;> first | assumption | omega | (refine ⟨?_, ?_⟩ <;> omega))) only [Int.reduceEq, Int.reduceLT, Int.reduceLE, Int.reduceNeg, Int.reduceAdd, Int.reduceSub, Int.reduceMul, if_true, if_false, not_true, not_false_eq_true, false_or, or_false, true_or, or_true, true_and, and_true, false_and, and_false, iI_on, iI_mul, iI_add, iI_sub, iI_neg, ap_if, mp_eq, mz_0, mz_1, mz_b, b2_0, b2_1, iI_lt, iI_le, iI_inj, mb_div, mb_rem, hM.m, hM.a1, hM.a2, hM.a3, hM.a4, hM.a5, hM.a6, hM.a7, hM.a8, hM.a9, hM.a10, hM.a11, hM.a12, hM.a13, hM.a14, hM.a15, hM.a16, hM.a17, hM.a18, hM.a19, hM.a20, hM.a21, hM.a22, hM.a23, hM.a24, hM.a25, hM.a26, hM.a27, hM.a28, hM.l1, hM.l2, hM.l3, hM.l4, hM.l5, hM.l6, hM.l7, hM.l8, hM.l9, hM.l10, hM.l11, hM.l12, hM.l13, hM.l14, hM.l15, hM.l16, hM.l17, hM.l18, hM.l19, hM.l20, hM.l21, hM.l22, hM.l23, hM.l24, hM.l25, hM.l26, hM.l27, hM.l28, hM.c10, hM.c11, hM.c12, hM.c13, hM.c14, hM.c15, hM.c19, hM.c20, hM.c23, hM.c27, hM.c36, hM.c37, hM.c38, hM.c40, hM.c41, hM.c42, hM.c44, sT_1, mb_eq (B_whose hM W1 _ _), mb_eq (B_stands hM W1 _ _ _), sT_3, sT_8, sStands_t, b2_f c2, m12_findTime_p102] | split)) <;> (first | with_reducible rfl | omega | rfl | (subst_vars; rfl) | (simp only [*, Int.add_zero]; done) | (rw [b2_t (by omega)]; done) | (rw [b2_f (by omega)]; done) | (rw [b2_f (by omega), Int.add_zero]))
      · (repeat' (first | simp (config := { maxSteps := 1000000 }) (disch := first | assumption | exact W.i _ _ | exact sLine_i W _ _ _ | exact W1.i _ _ | exact hg _ _ | exact W3.i _ _ | (refine ⟨?_, ?_⟩ <;> omega) | omega | (simp only [sW_1, sW_2, sW_3, sW_4, sW_5, sW_8] <;> first | assumption | omega | (refine ⟨?_, ?_⟩ <;> omega)) | (simp only [sT_1, sT_2, sT_3, sT_4, sT_5, sT_8] <;> first | assumption | omega | (refine ⟨?_, ?_⟩ <;> omega))) only [Int.reduceEq, Int.reduceLT, Int.reduceLE, Int.reduceNeg, Int.reduceAdd, Int.reduceSub, Int.reduceMul, if_true, if_false, not_true, not_false_eq_true, false_or, or_false, true_or, or_true, true_and, and_true, false_and, and_false, iI_on, iI_mul, iI_add, iI_sub, iI_neg, ap_if, mp_eq, mz_0, mz_1, mz_b, b2_0, b2_1, iI_lt, iI_le, iI_inj, mb_div, mb_rem, hM.m, hM.a1, hM.a2, hM.a3, hM.a4, hM.a5, hM.a6, hM.a7, hM.a8, hM.a9, hM.a10, hM.a11, hM.a12, hM.a13, hM.a14, hM.a15, hM.a16, hM.a17, hM.a18, hM.a19, hM.a20, hM.a21, hM.a22, hM.a23, hM.a24, hM.a25, hM.a26, hM.a27, hM.a28, hM.l1, hM.l2, hM.l3, hM.l4, hM.l5, hM.l6, hM.l7, hM.l8, hM.l9, hM.l10, hM.l11, hM.l12, hM.l13, hM.l14, hM.l15, hM.l16, hM.l17, hM.l18, hM.l19, hM.l20, hM.l21, hM.l22, hM.l23, hM.l24, hM.l25, hM.l26, hM.l27, hM.l28, hM.c10, hM.c11, hM.c12, hM.c13, hM.c14, hM.c15, hM.c19, hM.c20, hM.c23, hM.c27, hM.c36, hM.c37, hM.c38, hM.c40, hM.c41, hM.c42, hM.c44, sT_1, mb_eq (B_whose hM W1 _ _), mb_eq (B_stands hM W1 _ _ _), sT_3, sT_8, m12_findTime_p102] | split)) <;> (first | with_reducible rfl | omega | rfl | (subst_vars; rfl) | (simp only [*, Int.add_zero]; done) | (rw [b2_t (by omega)]; done) | (rw [b2_f (by omega)]; done) | (rw [b2_f (by omega), Int.add_zero]))
end RD5

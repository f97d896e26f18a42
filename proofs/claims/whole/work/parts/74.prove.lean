/-! ===== a call on both: prove, alterRow, sheets ===== -/
theorem CI.ho {sg sg' rho rho' : Nat → Int → Int} {h : gH} (C : CI sg rho h) (k1 : ∀ q, 1 ≤ q → q ≤ 9 → sg' q = sg q) (k28 : sg' 28 = sg 28) (k42 : sg' 0 42 = sg 0 42) (k2 : ∀ q, q ≤ 11 ∨ (15 ≤ q ∧ q ≤ 25) → rho' q = rho q) (hg : okG rho') (x1 : XR sg' rho') (x2 : XT sg' rho') (x3 : XS sg' rho') (x4 : XH sg' rho') (x5 : XB sg' rho') : CI sg' rho' h := by
  obtain ⟨a, b, c, d, e, f, _⟩ := C
  have ek : kG sg' = kG sg := by
    funext q z
    unfold kG
    rw [k28]
  refine ⟨a, b, hg, d, (e.c9 k1).co (fun q q0 q1 => k2 q (by omega)), ⟨?_, fun q => ?_⟩, x1, x2, x3, x4, x5⟩
  · rw [k42, k2 0 (by omega)]; exact f.1
  · rw [ek]
    exact (f.2 (by rw [← k42]; exact q)).co (fun q q0 q1 => k2 q (by omega))
theorem tmR_eq {f1 f2 f3 g1 g2 g3 : Int → Int} : ∀ {a : Tm}, tmR f1 f2 f3 a → tmR g1 g2 g3 a → ∀ i : Int, 0 ≤ i → i < a.length → f1 i = g1 i ∧ f2 i = g2 i ∧ f3 i = g3 i
  | [], _, _, i, h0, h1 => by simp at h1; omega
  | x :: r, h, k, i, h0, h1 => by
    by_cases c : i = r.length
    · subst c
      exact ⟨h.1.trans k.1.symm, h.2.1.trans k.2.1.symm, h.2.2.1.trans k.2.2.1.symm⟩
    · have e : ((x :: r).length : Int) = r.length + 1 := by simp
      exact tmR_eq h.2.2.2 k.2.2.2 i h0 (by omega)
theorem uRows_o (g : Nat → Int → Int) : ∀ (n : Nat) (s : Nat → Int → Int) (q : Nat), q ≠ 19 → uRows s g n q = s q
  | 0, s, q, _ => rfl
  | n + 1, s, q, hq => by
    unfold uRows
    rw [fo_succ]
    show s3 (s3 (s3 (uRows s g n) 19 _ _) 19 _ _) 19 _ _ q = s q
    rw [s3_o hq, s3_o hq, s3_o hq]
    exact uRows_o g n s q hq
theorem uRows_v (g : Nat → Int → Int) : ∀ (n : Nat) (s : Nat → Int → Int) (i : Int), 0 ≤ i → i < n → uRows s g n 19 (3 * i) = g 16 i ∧ uRows s g n 19 (3 * i + 1) = g 17 i ∧ uRows s g n 19 (3 * i + 2) = g 18 i
  | 0, s, i, h0, h1 => by omega
  | n + 1, s, i, h0, h1 => by
    unfold uRows
    rw [fo_succ, Int.zero_add]
    show s3 (s3 (s3 (uRows s g n) 19 _ _) 19 _ _) 19 _ _ 19 (3 * i) = g 16 i ∧ s3 (s3 (s3 (uRows s g n) 19 _ _) 19 _ _) 19 _ _ 19 (3 * i + 1) = g 17 i ∧ s3 (s3 (s3 (uRows s g n) 19 _ _) 19 _ _) 19 _ _ 19 (3 * i + 2) = g 18 i
    by_cases c : i = n
    · subst c
      simp (disch := omega) only [s3_at, s3_nj, and_self]
    · simp (disch := omega) only [s3_nj]
      exact uRows_v g n s i h0 (by omega)
section PROVE
variable {M : Nat} {sg rho : Nat → Int → Int} {h : gH}
theorem B_prove (hM : OKM M h) (W : WD sg) {p : Int} (hp : 0 ≤ p ∧ p < sg 1 1) : ∃ g, TG sg g (sTime sg p (sg 1 0)) ∧ m12_prove M (iI p) (mK M sg h) = some (iI ((sTime sg p (sg 1 0)).length : Int), mK M (sT (uRows (s3 sg 0 27 ((sTime sg p (sg 1 0)).length : Int)) g (sTime sg p (sg 1 0)).length) g) h) := by
  have n0 := W.n0
  have n1 := W.n1
  have ip : i32 p := ⟨by omega, by omega⟩
  obtain ⟨g, hT, he⟩ := B_findTime hM W ip (k := sg 1 0) ⟨by omega, by omega⟩ (RT.self W)
  refine ⟨g, hT, ?_⟩
  generalize sTime sg p (sg 1 0) = a at *
  have hc := hT.2.1
  have hl := hT.2.2.2.2
  have key := (lop (F := fun n (s : Nat → Int → Int) i => m12_prove_p31 n M (iI i) (mK M (sT s g) h)) (K := fun s => some (iI (a.length : Int), mK M (sT s g) h)) (N := a.length) (st := fun s i => s3 (s3 (s3 s 19 (3 * i) (g 16 i)) 19 (3 * i + 1) (g 17 i)) 19 (3 * i + 2) (g 18 i)) (I := fun s _ => s 0 27 = a.length) (fun n s hI => ?_) (fun n s i hI h2 h3 => ⟨?_, ?_⟩) a.length FU (s3 sg 0 27 (a.length : Int)) 0 (s3_at _ _ _ _) (by omega) (by omega) (FU_lt (by omega))).1
  · unfold m12_prove
    simp (config := { maxSteps := 1000000 }) (disch := first | assumption | exact W.i _ _ | exact sLine_i W _ _ _ | exact W1.i _ _ | exact hg _ _ | exact W3.i _ _ | (refine ⟨?_, ?_⟩ <;> omega) | omega | (simp only [sW_1, sW_2, sW_3, sW_4, sW_5, sW_8] <;> first | assumption | omega | (refine ⟨?_, ?_⟩ <;> omega)) | (simp only [sT_1, sT_2, sT_3, sT_4, sT_5, sT_8] <;> first | assumption | omega | (refine ⟨?_, ?_⟩ <;> omega))) only [Int.reduceEq, Int.reduceLT, Int.reduceLE, Int.reduceNeg, Int.reduceAdd, Int.reduceSub, Int.reduceMul, if_true, if_false, not_true, not_false_eq_true, false_or, or_false, true_or, or_true, true_and, and_true, false_and, and_false, iI_on, iI_mul, iI_add, iI_sub, iI_neg, ap_if, mp_eq, mz_0, mz_1, mz_b, b2_0, b2_1, iI_lt, iI_le, iI_inj, mb_div, mb_rem, hM.m, hM.a1, hM.a2, hM.a3, hM.a4, hM.a5, hM.a6, hM.a7, hM.a8, hM.a9, hM.a10, hM.a11, hM.a12, hM.a13, hM.a14, hM.a15, hM.a16, hM.a17, hM.a18, hM.a19, hM.a20, hM.a21, hM.a22, hM.a23, hM.a24, hM.a25, hM.a26, hM.a27, hM.a28, hM.l1, hM.l2, hM.l3, hM.l4, hM.l5, hM.l6, hM.l7, hM.l8, hM.l9, hM.l10, hM.l11, hM.l12, hM.l13, hM.l14, hM.l15, hM.l16, hM.l17, hM.l18, hM.l19, hM.l20, hM.l21, hM.l22, hM.l23, hM.l24, hM.l25, hM.l26, hM.l27, hM.l28, hM.c10, hM.c11, hM.c12, hM.c13, hM.c14, hM.c15, hM.c19, hM.c20, hM.c23, hM.c27, hM.c36, hM.c37, hM.c38, hM.c40, hM.c41, hM.c42, hM.c44, hM.w1, hM.w2, hM.w3, hM.w4, hM.w5, hM.w6, hM.w7, hM.w8, hM.w9, hM.w10, hM.w11, hM.w12, hM.w13, hM.w14, hM.w15, hM.w16, hM.w17, hM.w18, hM.w19, hM.w20, hM.w21, hM.w22, hM.w23, hM.w24, hM.w25, hM.w26, hM.w27, hM.w28, hM.p10, hM.p11, hM.p12, hM.p13, hM.p14, hM.p15, hM.p19, hM.p20, hM.p23, hM.p27, hM.p36, hM.p37, hM.p38, hM.p40, hM.p41, hM.p42, hM.p44, s3_at, s3_nk, s3_nj, mb_eq (B_isPerson hM W ip), hp.1, hp.2, mb_eq he, sT_t, hc, s3_T (k := 0) (j := 27) ⟨by omega, by omega⟩]
    exact key
  · show m12_prove_p31 (n + 1) M (iI (a.length : Int)) (mK M (sT s g) h) = some (iI (a.length : Int), mK M (sT s g) h)
    have e27 : sT s g 0 27 = a.length := hI
    rw [m12_prove_p31]
    simp (config := { maxSteps := 1000000 }) (disch := first | assumption | exact W.i _ _ | exact sLine_i W _ _ _ | exact W1.i _ _ | exact hg _ _ | exact W3.i _ _ | (refine ⟨?_, ?_⟩ <;> omega) | omega | (simp only [sW_1, sW_2, sW_3, sW_4, sW_5, sW_8] <;> first | assumption | omega | (refine ⟨?_, ?_⟩ <;> omega)) | (simp only [sT_1, sT_2, sT_3, sT_4, sT_5, sT_8] <;> first | assumption | omega | (refine ⟨?_, ?_⟩ <;> omega))) only [Int.reduceEq, Int.reduceLT, Int.reduceLE, Int.reduceNeg, Int.reduceAdd, Int.reduceSub, Int.reduceMul, if_true, if_false, not_true, not_false_eq_true, false_or, or_false, true_or, or_true, true_and, and_true, false_and, and_false, iI_on, iI_mul, iI_add, iI_sub, iI_neg, ap_if, mp_eq, mz_0, mz_1, mz_b, b2_0, b2_1, iI_lt, iI_le, iI_inj, mb_div, mb_rem, hM.m, hM.a1, hM.a2, hM.a3, hM.a4, hM.a5, hM.a6, hM.a7, hM.a8, hM.a9, hM.a10, hM.a11, hM.a12, hM.a13, hM.a14, hM.a15, hM.a16, hM.a17, hM.a18, hM.a19, hM.a20, hM.a21, hM.a22, hM.a23, hM.a24, hM.a25, hM.a26, hM.a27, hM.a28, hM.l1, hM.l2, hM.l3, hM.l4, hM.l5, hM.l6, hM.l7, hM.l8, hM.l9, hM.l10, hM.l11, hM.l12, hM.l13, hM.l14, hM.l15, hM.l16, hM.l17, hM.l18, hM.l19, hM.l20, hM.l21, hM.l22, hM.l23, hM.l24, hM.l25, hM.l26, hM.l27, hM.l28, hM.c10, hM.c11, hM.c12, hM.c13, hM.c14, hM.c15, hM.c19, hM.c20, hM.c23, hM.c27, hM.c36, hM.c37, hM.c38, hM.c40, hM.c41, hM.c42, hM.c44, sT_t, hc, e27]
    rw [if_pos (by omega)]
  · show m12_prove_p31 (n + 1) M (iI i) (mK M (sT s g) h) = m12_prove_p31 n M (iI (i + 1)) (mK M (sT (s3 (s3 (s3 s 19 (3 * i) (g 16 i)) 19 (3 * i + 1) (g 17 i)) 19 (3 * i + 2) (g 18 i)) g) h)
    rw [m12_prove_p31]
    have z : ∀ (s : Nat → Int → Int) (j v : Int), s3 (sT s g) 19 j v = sT (s3 s 19 j v) g := fun s j v => s3_T ⟨by omega, by omega⟩
    simp (config := { maxSteps := 1000000 }) (disch := first | assumption | exact W.i _ _ | exact sLine_i W _ _ _ | exact W1.i _ _ | exact hg _ _ | exact W3.i _ _ | (refine ⟨?_, ?_⟩ <;> omega) | omega | (simp only [sW_1, sW_2, sW_3, sW_4, sW_5, sW_8] <;> first | assumption | omega | (refine ⟨?_, ?_⟩ <;> omega)) | (simp only [sT_1, sT_2, sT_3, sT_4, sT_5, sT_8] <;> first | assumption | omega | (refine ⟨?_, ?_⟩ <;> omega))) only [Int.reduceEq, Int.reduceLT, Int.reduceLE, Int.reduceNeg, Int.reduceAdd, Int.reduceSub, Int.reduceMul, if_true, if_false, not_true, not_false_eq_true, false_or, or_false, true_or, or_true, true_and, and_true, false_and, and_false, iI_on, iI_mul, iI_add, iI_sub, iI_neg, ap_if, mp_eq, mz_0, mz_1, mz_b, b2_0, b2_1, iI_lt, iI_le, iI_inj, mb_div, mb_rem, hM.m, hM.a1, hM.a2, hM.a3, hM.a4, hM.a5, hM.a6, hM.a7, hM.a8, hM.a9, hM.a10, hM.a11, hM.a12, hM.a13, hM.a14, hM.a15, hM.a16, hM.a17, hM.a18, hM.a19, hM.a20, hM.a21, hM.a22, hM.a23, hM.a24, hM.a25, hM.a26, hM.a27, hM.a28, hM.l1, hM.l2, hM.l3, hM.l4, hM.l5, hM.l6, hM.l7, hM.l8, hM.l9, hM.l10, hM.l11, hM.l12, hM.l13, hM.l14, hM.l15, hM.l16, hM.l17, hM.l18, hM.l19, hM.l20, hM.l21, hM.l22, hM.l23, hM.l24, hM.l25, hM.l26, hM.l27, hM.l28, hM.c10, hM.c11, hM.c12, hM.c13, hM.c14, hM.c15, hM.c19, hM.c20, hM.c23, hM.c27, hM.c36, hM.c37, hM.c38, hM.c40, hM.c41, hM.c42, hM.c44, hM.w1, hM.w2, hM.w3, hM.w4, hM.w5, hM.w6, hM.w7, hM.w8, hM.w9, hM.w10, hM.w11, hM.w12, hM.w13, hM.w14, hM.w15, hM.w16, hM.w17, hM.w18, hM.w19, hM.w20, hM.w21, hM.w22, hM.w23, hM.w24, hM.w25, hM.w26, hM.w27, hM.w28, hM.p10, hM.p11, hM.p12, hM.p13, hM.p14, hM.p15, hM.p19, hM.p20, hM.p23, hM.p27, hM.p36, hM.p37, hM.p38, hM.p40, hM.p41, hM.p42, hM.p44, s3_at, s3_nk, s3_nj, sT_t, hc, show ¬ (a.length : Int) ≤ i by omega, sT_16, sT_17, sT_18, z]
  · show s3 (s3 (s3 s 19 (3 * i) (g 16 i)) 19 (3 * i + 1) (g 17 i)) 19 (3 * i + 2) (g 18 i) 0 27 = a.length
    rw [s3_nk (by omega), s3_nk (by omega), s3_nk (by omega)]
    exact hI
theorem WY.o {sg sg' : Nat → Int → Int} (Y : WY sg) (k0 : sg' 0 10 = sg 0 10 ∧ sg' 0 42 = sg 0 42) (k1 : ∀ q, 1 ≤ q → q ≤ 10 → sg' q = sg q) (k14 : sg' 14 = sg 14) (k28 : sg' 28 = sg 28) : WY sg' := by
  obtain ⟨a, b, c, d, e⟩ := Y
  have ek : kG sg' = kG sg := by
    funext q z
    unfold kG
    rw [k28]
  refine ⟨?_, ?_, ?_, ?_, fun k j h1 h2 h3 => ?_⟩
  · rw [k0.1]; exact a
  · rw [k1 10 (by omega) (by omega)]; exact b
  · rw [k14]; exact c
  · rw [k0.2, ek]; exact d
  · rw [k1 k (by omega) (by omega)]; exact e k j h1 h2 h3
theorem T_prove (I : Inv sg rho h) {p : Int} (hp : i32 p) : Both (m11_prove 0 (iI p)) (m12_prove 55 (iI p)) rho h := by
  have hC := I.1.1
  have hL := I.1.2.1
  have hg := I.1.2.2.1
  have R := I.1.2.2.2.2.1
  have W := I.2.1
  have n0 := W.n0
  have n1 := W.n1
  by_cases c : 0 ≤ p ∧ p < sg 1 1
  · obtain ⟨s', ⟨r, h', k0, k', g0, rc, rr, rb, rl, rfl⟩, e⟩ := C_fillTime hC R hL hg W (Y := 38) (Z := 39) (Or.inr ⟨rfl, rfl⟩) hp n0
    have C' := hC.hs k'
    have I' := I.1
    obtain ⟨g, hT, em⟩ := B_prove (h := cK r h') (OKM.ck_ (I.2.2.2.2.1.hg_ (k'.hg_ hC I.2.2.2.2.1))) W c
    have hkeep := (k'.hg_ hC I.2.2.2.2.1).keep I
    have hrows := uRows_v g (sTime sg p (sg 1 0)).length (s3 sg 0 27 ((sTime sg p (sg 1 0)).length : Int))
    have hro := uRows_o g (sTime sg p (sg 1 0)).length (s3 sg 0 27 ((sTime sg p (sg 1 0)).length : Int))
    have ht := tmR_eq rr hT.2.2.1
    generalize hsg : uRows (s3 sg 0 27 ((sTime sg p (sg 1 0)).length : Int)) g (sTime sg p (sg 1 0)).length = sg' at *
    generalize (sTime sg p (sg 1 0)).length = n at *
    have e0 : sg' 0 = s3 sg 0 27 (n : Int) 0 := hro 0 (by omega)
    have eo : ∀ q, q ≠ 0 → q ≠ 19 → sg' q = sg q := fun q q0 q1 => by rw [hro q q1, s3_o q0]
    have e27 : sg' 0 27 = n := by rw [e0, s3_at]
    have ej : ∀ j, j ≠ 27 → sg' 0 j = sg 0 j := fun j hj => by rw [e0, s3_nj hj]
    have i32n : ∀ k j, i32 (sg' k j) := by
      intro k j
      rw [← hsg]
      have : ∀ (m : Nat) (s : Nat → Int → Int) (i : Int), (∀ k j, i32 (s k j)) → ∀ k j, i32 (fo (fun s i => s3 (s3 (s3 s 19 (3 * i) (g 16 i)) 19 (3 * i + 1) (g 17 i)) 19 (3 * i + 2) (g 18 i)) m s i k j) := by
        intro m
        induction m with
        | zero => intro s i hs; exact hs
        | succ m ih => intro s i hs; exact ih _ _ (i32_s (i32_s (i32_s hs (hT.1 _ _)) (hT.1 _ _)) (hT.1 _ _))
      exact this n _ 0 (i32_s W.i ⟨by omega, by omega⟩) k j
    have W' : WD sg' := W.c9 (fun q q0 q1 => eo q (by omega) (by omega)) i32n
    have n16 : (n : Int) ≤ 16 := by omega
    have X' : WX sg' := by
      obtain ⟨a, b, c, d⟩ := I.2.2.1
      refine ⟨by rw [e27]; omega, ?_, ?_, ?_⟩
      · rw [eo 21 (by omega) (by omega), eo 22 (by omega) (by omega)]; exact b
      · rw [eo 24 (by omega) (by omega)]; exact c
      · rw [ej 40 (by omega)]; exact d
    have Y' : WY sg' := I.2.2.2.1.o ⟨ej 10 (by omega), ej 42 (by omega)⟩ (fun q q0 q1 => eo q (by omega) (by omega)) (eo 14 (by omega) (by omega)) (eo 28 (by omega) (by omega))
    have CI' : CI sg' r h' := by
      have C0 : CI sg (fun q => if q = 38 ∨ q = 39 then rho q else r q) h' := I.1.cs (rho' := fun q => if q = 38 ∨ q = 39 then rho q else r q) (h' := h') (fun q j q1 q2 q3 _ _ => by
        show (if q = 38 ∨ q = 39 then rho q else r q) j = rho q j
        by_cases z : q = 38 ∨ q = 39
        · rw [if_pos z]
        · rw [if_neg z, k0 q q1 (by omega) (by omega)]) k' (fun q j => by
        show i32 ((if q = 38 ∨ q = 39 then rho q else r q) j)
        by_cases z : q = 38 ∨ q = 39
        · rw [if_pos z]; exact hg q j
        · rw [if_neg z]; exact g0 q j)
      have er : ∀ q, q ≠ 12 → q ≠ 38 → q ≠ 39 → r q = rho q := k0
      obtain ⟨x1, x2, x3, x4, x5⟩ := I.1.2.2.2.2.2.2
      refine C0.ho (fun q q0 q1 => eo q (by omega) (by omega)) (eo 28 (by omega) (by omega)) (ej 42 (by omega)) (fun q hq => by rw [if_neg (by omega)]) g0 ⟨by rw [e27]; exact rc, fun j j0 j1 => ?_⟩ ?_ ?_ ?_ ?_
      · rw [e27] at j1
        obtain ⟨i, w, rfl, i0, i1, w0, w1⟩ : ∃ i w : Int, j = 3 * i + w ∧ 0 ≤ i ∧ i < n ∧ 0 ≤ w ∧ w ≤ 2 := ⟨j / 3, j % 3, by omega, by omega, by omega, by omega, by omega⟩
        obtain ⟨t1, t2, t3⟩ := ht i i0 i1
        obtain ⟨v1, v2, v3⟩ := hrows i i0 i1
        have : w = 0 ∨ w = 1 ∨ w = 2 := by omega
        rcases this with rfl | rfl | rfl
        · rw [Int.add_zero, v1, ← t1]
          show r 39 (3 * i) = r 39 (i * 3 + 0)
          rw [show i * 3 + 0 = 3 * i by omega]
        · rw [v2, ← t2]
          show r 39 (3 * i + 1) = r 39 (i * 3 + 1)
          rw [show i * 3 + 1 = 3 * i + 1 by omega]
        · rw [v3, ← t3]
          show r 39 (3 * i + 2) = r 39 (i * 3 + 2)
          rw [show i * 3 + 2 = 3 * i + 2 by omega]
      · unfold XT
        rw [ej 10 (by omega), eo 10 (by omega) (by omega), er 29 (by omega) (by omega) (by omega), er 35 (by omega) (by omega) (by omega)]
        exact x2
      · intro s s0 s1
        rw [eo 21 (by omega) (by omega), eo 22 (by omega) (by omega), eo 23 (by omega) (by omega), er 47 (by omega) (by omega) (by omega), er 48 (by omega) (by omega) (by omega), er (43 + s.toNat) (by omega) (by omega) (by omega)]
        exact x3 s s0 s1
      · unfold XH
        rw [eo 24 (by omega) (by omega), eo 25 (by omega) (by omega), eo 26 (by omega) (by omega), er 49 (by omega) (by omega) (by omega), er 50 (by omega) (by omega) (by omega), er 51 (by omega) (by omega) (by omega), er 52 (by omega) (by omega) (by omega)]
        exact x4
      · unfold XB
        rw [ej 40 (by omega), eo 27 (by omega) (by omega), er 40 (by omega) (by omega) (by omega), er 41 (by omega) (by omega) (by omega), er 54 (by omega) (by omega) (by omega)]
        exact x5
    have hx : m11_prove 0 (iI p) (cK rho h) = some (iI (n : Int), cK r h') := by
      unfold m11_prove
      simp (config := { maxSteps := 1000000 }) (disch := first | assumption | exact W.i _ _ | exact sLine_i W _ _ _ | exact W1.i _ _ | exact hg _ _ | exact W3.i _ _ | (refine ⟨?_, ?_⟩ <;> omega) | omega | (simp only [sW_1, sW_2, sW_3, sW_4, sW_5, sW_8] <;> first | assumption | omega | (refine ⟨?_, ?_⟩ <;> omega)) | (simp only [sT_1, sT_2, sT_3, sT_4, sT_5, sT_8] <;> first | assumption | omega | (refine ⟨?_, ?_⟩ <;> omega))) only [Int.reduceEq, Int.reduceLT, Int.reduceLE, Int.reduceNeg, Int.reduceAdd, Int.reduceSub, Int.reduceMul, if_true, if_false, not_true, not_false_eq_true, false_or, or_false, true_or, or_true, true_and, and_true, false_and, and_false, iI_on, iI_mul, iI_add, iI_sub, iI_neg, ap_if, mp_eq, mz_0, mz_1, mz_b, b2_0, b2_1, iI_lt, iI_le, iI_inj, mb_div, mb_rem, hC.m0, hC.m1, hC.m13, hC.m15, hC.m27, hC.m29, hC.m38, hC.m40, hC.g0_0, hC.g0_1, hC.g0_3, hC.g0_4, hC.g0_5, hC.g0_6, hC.g0_7, hC.g0_8, hC.g0_9, hC.g0_10, hC.g0_11, hC.g0_12, hC.g0_13, hC.g0_14, hC.g1_2, hC.g1_3, hC.g1_5, hC.g1_7, hC.g1_9, hC.g1_11, hC.g1_12, hC.g1_14, hC.g1_15, hC.g1_16, hC.g1_17, hC.g1_18, hC.g13_0, hC.g15_2, hC.g15_3, hC.g15_5, hC.g15_7, hC.g15_9, hC.g15_11, hC.g15_12, hC.g15_14, hC.g15_15, hC.g15_16, hC.g15_17, hC.g15_18, hC.g27_0, hC.g29_3, hC.g29_4, hC.g29_5, hC.g29_6, hC.g29_7, hC.g29_8, hC.g29_9, hC.g29_10, hC.g38_0, hC.g40_0, hC.s0_2, hC.s1_0, hC.s1_1, hC.s1_4, hC.s1_6, hC.s1_8, hC.s1_10, hC.s1_13, hC.s13_1, hC.s15_0, hC.s15_1, hC.s15_4, hC.s15_6, hC.s15_8, hC.s15_10, hC.s15_13, hC.s27_1, hC.s29_0, hC.s29_1, hC.s29_2, hC.s29_11, hC.s29_12, hC.s38_1, hC.s40_1, hC.s40_2, hC.l2, hC.l3, hC.l8, hC.l9, hC.l10, hC.l11, hC.l12, hC.l14, hC.l16, hC.l17, hC.l22, hC.l23, hC.l24, hC.l25, hC.l26, hC.l28, hC.l30, hC.l31, hC.l32, hC.l33, hC.l34, hC.l36, hC.l37, hC.l39, hC.l41, hC.l43, hC.l44, hC.l45, hC.l46, hC.l47, hC.l48, hC.l49, hC.l50, hC.l51, hC.l52, hC.l53, hC.l54, hC.l35, hC.n33, hC.n36, hC.dl R W, hC.fl R W, hC.ll R W, hC.tl R W, R.d1, R.d2, R.d3, R.d4, R.dn, R.da, R.f1, R.f2, R.f3, R.f4, R.fn, R.fa, R.t1, R.t2, R.t3, R.t4, R.t5, R.tn, R.ta, R.l0, R.l1, R.l2, R.l3, R.l7, R.ln, R.lv, R.r5, R.r6, R.r8, R.r13, R.r4, R.r10, R.r11, R.r12, R.r9, R.mt, R.ml, R.lg, R.lp, R.lr, R.lo W, R.ls W, R.1.1, R.1.2.1, R.1.2.2.1, R.1.2.2.2.1, R.1.2.2.2.2.1, R.1.2.2.2.2.2.1, R.1.2.2.2.2.2.2, R.born, R.good, R.unw, R.hp, R.hf, R.ht, mb_eq (C_isPerson hC R W hp), c.1, c.2, mb_eq e, C'.g0_4, C'.s38_1, rc]
    have hM' : OKM 55 h' := I.2.2.2.2.1.hg_ (k'.hg_ hC I.2.2.2.2.1)
    rw [mK_cK, hkeep, mK_cK] at em
    refine ⟨_, _, sT sg' g, r, mK 55 (sT sg' g) h', hx, hM'.1, em, ⟨?_, W'.t hT.1, ?_, WY_t Y' g, hM', mK_mK⟩, (k'.hg_ hC I.2.2.2.2.1).1⟩
    · rw [CI_t]; exact CI'.mk_
    · rw [WX_t]; exact X'
  · refine both_q (r := iI (-1)) I ?_ (fun H hM => ?_)
    · unfold m11_prove
      simp (config := { maxSteps := 1000000 }) (disch := first | assumption | exact W.i _ _ | exact sLine_i W _ _ _ | exact W1.i _ _ | exact hg _ _ | exact W3.i _ _ | (refine ⟨?_, ?_⟩ <;> omega) | omega | (simp only [sW_1, sW_2, sW_3, sW_4, sW_5, sW_8] <;> first | assumption | omega | (refine ⟨?_, ?_⟩ <;> omega)) | (simp only [sT_1, sT_2, sT_3, sT_4, sT_5, sT_8] <;> first | assumption | omega | (refine ⟨?_, ?_⟩ <;> omega))) only [Int.reduceEq, Int.reduceLT, Int.reduceLE, Int.reduceNeg, Int.reduceAdd, Int.reduceSub, Int.reduceMul, if_true, if_false, not_true, not_false_eq_true, false_or, or_false, true_or, or_true, true_and, and_true, false_and, and_false, iI_on, iI_mul, iI_add, iI_sub, iI_neg, ap_if, mp_eq, mz_0, mz_1, mz_b, b2_0, b2_1, iI_lt, iI_le, iI_inj, mb_div, mb_rem, hC.m0, hC.m1, hC.m13, hC.m15, hC.m27, hC.m29, hC.m38, hC.m40, hC.g0_0, hC.g0_1, hC.g0_3, hC.g0_4, hC.g0_5, hC.g0_6, hC.g0_7, hC.g0_8, hC.g0_9, hC.g0_10, hC.g0_11, hC.g0_12, hC.g0_13, hC.g0_14, hC.g1_2, hC.g1_3, hC.g1_5, hC.g1_7, hC.g1_9, hC.g1_11, hC.g1_12, hC.g1_14, hC.g1_15, hC.g1_16, hC.g1_17, hC.g1_18, hC.g13_0, hC.g15_2, hC.g15_3, hC.g15_5, hC.g15_7, hC.g15_9, hC.g15_11, hC.g15_12, hC.g15_14, hC.g15_15, hC.g15_16, hC.g15_17, hC.g15_18, hC.g27_0, hC.g29_3, hC.g29_4, hC.g29_5, hC.g29_6, hC.g29_7, hC.g29_8, hC.g29_9, hC.g29_10, hC.g38_0, hC.g40_0, hC.s0_2, hC.s1_0, hC.s1_1, hC.s1_4, hC.s1_6, hC.s1_8, hC.s1_10, hC.s1_13, hC.s13_1, hC.s15_0, hC.s15_1, hC.s15_4, hC.s15_6, hC.s15_8, hC.s15_10, hC.s15_13, hC.s27_1, hC.s29_0, hC.s29_1, hC.s29_2, hC.s29_11, hC.s29_12, hC.s38_1, hC.s40_1, hC.s40_2, hC.l2, hC.l3, hC.l8, hC.l9, hC.l10, hC.l11, hC.l12, hC.l14, hC.l16, hC.l17, hC.l22, hC.l23, hC.l24, hC.l25, hC.l26, hC.l28, hC.l30, hC.l31, hC.l32, hC.l33, hC.l34, hC.l36, hC.l37, hC.l39, hC.l41, hC.l43, hC.l44, hC.l45, hC.l46, hC.l47, hC.l48, hC.l49, hC.l50, hC.l51, hC.l52, hC.l53, hC.l54, hC.l35, hC.n33, hC.n36, hC.dl R W, hC.fl R W, hC.ll R W, hC.tl R W, R.d1, R.d2, R.d3, R.d4, R.dn, R.da, R.f1, R.f2, R.f3, R.f4, R.fn, R.fa, R.t1, R.t2, R.t3, R.t4, R.t5, R.tn, R.ta, R.l0, R.l1, R.l2, R.l3, R.l7, R.ln, R.lv, R.r5, R.r6, R.r8, R.r13, R.r4, R.r10, R.r11, R.r12, R.r9, R.mt, R.ml, R.lg, R.lp, R.lr, R.lo W, R.ls W, R.1.1, R.1.2.1, R.1.2.2.1, R.1.2.2.2.1, R.1.2.2.2.2.1, R.1.2.2.2.2.2.1, R.1.2.2.2.2.2.2, R.born, R.good, R.unw, R.hp, R.hf, R.ht, mb_eq (C_isPerson hC R W hp)]
      rw [if_pos c]
    · unfold m12_prove
      simp (config := { maxSteps := 1000000 }) (disch := first | assumption | exact W.i _ _ | exact sLine_i W _ _ _ | exact W1.i _ _ | exact hg _ _ | exact W3.i _ _ | (refine ⟨?_, ?_⟩ <;> omega) | omega | (simp only [sW_1, sW_2, sW_3, sW_4, sW_5, sW_8] <;> first | assumption | omega | (refine ⟨?_, ?_⟩ <;> omega)) | (simp only [sT_1, sT_2, sT_3, sT_4, sT_5, sT_8] <;> first | assumption | omega | (refine ⟨?_, ?_⟩ <;> omega))) only [Int.reduceEq, Int.reduceLT, Int.reduceLE, Int.reduceNeg, Int.reduceAdd, Int.reduceSub, Int.reduceMul, if_true, if_false, not_true, not_false_eq_true, false_or, or_false, true_or, or_true, true_and, and_true, false_and, and_false, iI_on, iI_mul, iI_add, iI_sub, iI_neg, ap_if, mp_eq, mz_0, mz_1, mz_b, b2_0, b2_1, iI_lt, iI_le, iI_inj, mb_div, mb_rem, hM.m, hM.a1, hM.a2, hM.a3, hM.a4, hM.a5, hM.a6, hM.a7, hM.a8, hM.a9, hM.a10, hM.a11, hM.a12, hM.a13, hM.a14, hM.a15, hM.a16, hM.a17, hM.a18, hM.a19, hM.a20, hM.a21, hM.a22, hM.a23, hM.a24, hM.a25, hM.a26, hM.a27, hM.a28, hM.l1, hM.l2, hM.l3, hM.l4, hM.l5, hM.l6, hM.l7, hM.l8, hM.l9, hM.l10, hM.l11, hM.l12, hM.l13, hM.l14, hM.l15, hM.l16, hM.l17, hM.l18, hM.l19, hM.l20, hM.l21, hM.l22, hM.l23, hM.l24, hM.l25, hM.l26, hM.l27, hM.l28, hM.c10, hM.c11, hM.c12, hM.c13, hM.c14, hM.c15, hM.c19, hM.c20, hM.c23, hM.c27, hM.c36, hM.c37, hM.c38, hM.c40, hM.c41, hM.c42, hM.c44, mb_eq (B_isPerson hM W hp)]
      rw [if_pos c]
theorem T_alterRow (I : Inv sg rho h) {i w v : Int} (hi : i32 i) (hw : i32 w) (hv : i32 v) : Both (m11_alterRow 0 (iI i) (iI w) (iI v)) (m12_alterRow 55 (iI i) (iI w) (iI v)) rho h := by
  have hC := I.1.1
  have hg := I.1.2.2.1
  have C := I.1.2.2.2.2.2.2.1
  have W := I.2.1
  have X := I.2.2.1
  have n27 := X.1
  by_cases c : isRw sg i w
  · have e := C.2 (3 * i + w) (by omega) (by omega)
    have e2 : i * 3 + w = 3 * i + w := by omega
    have eb : b2 (isRw sg i w) = 1 := b2_t c
    refine both_of (r := iI (oRow sg i w)) (rho' := s3 rho 39 (3 * i + w) v) (sg' := uAlter sg i w v) I ?_ ?_ (hG.rf h) (fun H hM => B_alterRow hM X hi hw) ?_ ?_ ?_
    · unfold m11_alterRow oRow
      rw [if_pos c]
      simp (config := { maxSteps := 1000000 }) (disch := first | assumption | exact W.i _ _ | exact sLine_i W _ _ _ | exact W1.i _ _ | exact hg _ _ | exact W3.i _ _ | (refine ⟨?_, ?_⟩ <;> omega) | omega | (simp only [sW_1, sW_2, sW_3, sW_4, sW_5, sW_8] <;> first | assumption | omega | (refine ⟨?_, ?_⟩ <;> omega)) | (simp only [sT_1, sT_2, sT_3, sT_4, sT_5, sT_8] <;> first | assumption | omega | (refine ⟨?_, ?_⟩ <;> omega))) only [Int.reduceEq, Int.reduceLT, Int.reduceLE, Int.reduceNeg, Int.reduceAdd, Int.reduceSub, Int.reduceMul, if_true, if_false, not_true, not_false_eq_true, false_or, or_false, true_or, or_true, true_and, and_true, false_and, and_false, iI_on, iI_mul, iI_add, iI_sub, iI_neg, ap_if, mp_eq, mz_0, mz_1, mz_b, b2_0, b2_1, iI_lt, iI_le, iI_inj, mb_div, mb_rem, hC.g0_4, hC.m38, mb_eq (C_isCell hC C X hi hw), eb, mb_eq (C_get hC (Or.inr ⟨rfl, rfl⟩) _ _), e2, e, mb_eq (C_set hC (Or.inr ⟨rfl, rfl⟩) _ _)]
    · unfold uAlter
      rw [if_pos c]
      obtain ⟨x1, x2, x3, x4, x5⟩ := I.1.2.2.2.2.2.2
      refine I.1.ho (fun q q0 q1 => s3_o (by omega)) (s3_o (by omega)) rfl (fun q hq => s3_o (by omega)) (hg.s hv) ⟨x1.1, fun j j0 j1 => ?_⟩ ?_ ?_ ?_ ?_
      · by_cases z : j = 3 * i + w
        · rw [z, s3_at, s3_at]
        · rw [s3_nj z, s3_nj z]
          exact x1.2 j j0 j1
      · exact x2
      · intro s s0 s1
        rw [s3_o (show 43 + s.toNat ≠ 39 by omega)]
        exact x3 s s0 s1
      · exact x4
      · exact x5
    · unfold uAlter
      rw [if_pos c]
      exact WD_out W (by omega) hv
    · unfold uAlter
      rw [if_pos c]
      exact X
    · unfold uAlter
      rw [if_pos c]
      exact I.2.2.2.1.o ⟨rfl, rfl⟩ (fun q q0 q1 => s3_o (by omega)) (s3_o (by omega)) (s3_o (by omega))
  · have eb : b2 (isRw sg i w) = 0 := b2_f c
    refine both_q (r := iI (oRow sg i w)) I ?_ (fun H hM => ?_)
    · unfold m11_alterRow oRow
      rw [if_neg c]
      simp (config := { maxSteps := 1000000 }) (disch := first | assumption | exact W.i _ _ | exact sLine_i W _ _ _ | exact W1.i _ _ | exact hg _ _ | exact W3.i _ _ | (refine ⟨?_, ?_⟩ <;> omega) | omega | (simp only [sW_1, sW_2, sW_3, sW_4, sW_5, sW_8] <;> first | assumption | omega | (refine ⟨?_, ?_⟩ <;> omega)) | (simp only [sT_1, sT_2, sT_3, sT_4, sT_5, sT_8] <;> first | assumption | omega | (refine ⟨?_, ?_⟩ <;> omega))) only [Int.reduceEq, Int.reduceLT, Int.reduceLE, Int.reduceNeg, Int.reduceAdd, Int.reduceSub, Int.reduceMul, if_true, if_false, not_true, not_false_eq_true, false_or, or_false, true_or, or_true, true_and, and_true, false_and, and_false, iI_on, iI_mul, iI_add, iI_sub, iI_neg, ap_if, mp_eq, mz_0, mz_1, mz_b, b2_0, b2_1, iI_lt, iI_le, iI_inj, mb_div, mb_rem, hC.g0_4, hC.m38, mb_eq (C_isCell hC C X hi hw), eb]
    · have := B_alterRow (h := H) (v := v) hM X hi hw
      unfold uAlter at this
      rw [if_neg c] at this
      exact this
end PROVE

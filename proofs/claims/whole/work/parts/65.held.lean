/-! ===== days held: stretch by stretch, and day by day ===== -/
section HELD
variable {sg rho : Nat → Int → Int} {h : gH}
/-- the stretch i is of p, and ends at x or behind -/
abbrev hRel (sg : Nat → Int → Int) (p x i : Int) : Prop := sg 9 (3 * i) = p ∧ x ≤ sg 9 (3 * i + 2)
def mx (a b : Int) : Int := if a < b then b else a
def mn (a b : Int) : Int := if b < a then b else a
/-- a pass: the earliest stretch left -/
def hIn (sg : Nat → Int → Int) (p day from_ : Int) : Int × Int → Int → Int × Int := fun x i => if hRel sg p from_ i ∧ mx (sg 9 (3 * i + 1)) from_ < x.1 then (mx (sg 9 (3 * i + 1)) from_, mn (sg 9 (3 * i + 2) + 1) day) else x
def hOne (sg : Nat → Int → Int) (p day from_ : Int) : Int × Int := fo (hIn sg p day from_) (sg 1 6).toNat (day, day) 0
/-- what a pass finds -/
def hFnd (sg : Nat → Int → Int) (p day from_ : Int) (n : Int) (x : Int × Int) : Prop := from_ ≤ x.1 ∧ x.1 ≤ day ∧ (∀ i, 0 ≤ i → i < n → hRel sg p from_ i → x.1 ≤ mx (sg 9 (3 * i + 1)) from_) ∧ (x = (day, day) ∨ ∃ i, 0 ≤ i ∧ i < n ∧ hRel sg p from_ i ∧ mx (sg 9 (3 * i + 1)) from_ = x.1 ∧ x.1 < day ∧ x.2 = mn (sg 9 (3 * i + 2) + 1) day)
theorem hIn_ok {p day from_ : Int} (_ : 0 ≤ from_) {x : Int × Int} {i : Int} (hi : 0 ≤ i) (hx : hFnd sg p day from_ i x) : hFnd sg p day from_ (i + 1) (hIn sg p day from_ x i) := by
  obtain ⟨a, b, c, d⟩ := hx
  unfold hIn
  by_cases q : hRel sg p from_ i ∧ mx (sg 9 (3 * i + 1)) from_ < x.1
  · rw [if_pos q]
    have m1 : from_ ≤ mx (sg 9 (3 * i + 1)) from_ := by unfold mx; split <;> omega
    refine ⟨m1, by dsimp only; omega, fun j j0 j1 jr => ?_, Or.inr ⟨i, hi, by omega, q.1, rfl, by dsimp only; omega, rfl⟩⟩
    by_cases e : j = i
    · subst e; exact Int.le_refl _
    · have := c j j0 (by omega) jr
      dsimp only
      omega
  · rw [if_neg q]
    refine ⟨a, b, fun j j0 j1 jr => ?_, ?_⟩
    · by_cases e : j = i
      · subst e
        rcases Int.lt_or_le (mx (sg 9 (3 * j + 1)) from_) x.1 with z | z
        · exact absurd ⟨jr, z⟩ q
        · exact z
      · exact c j j0 (by omega) jr
    · rcases d with d | ⟨j, d1, d2, d3⟩
      · exact Or.inl d
      · exact Or.inr ⟨j, d1, by omega, d3⟩
theorem hOne_ok (W : WD sg) {p day from_ : Int} (h0 : 0 ≤ from_) (h1 : from_ ≤ day) : hFnd sg p day from_ (sg 1 6) (hOne sg p day from_) := by
  have n6 := W.n6
  have key : ∀ m : Nat, hFnd sg p day from_ m (fo (hIn sg p day from_) m (day, day) 0) := by
    intro m
    induction m with
    | zero => exact ⟨h1, Int.le_refl _, fun i i0 i1 => by omega, Or.inl rfl⟩
    | succ m ih =>
      rw [fo_succ, Int.zero_add]
      have := hIn_ok h0 (i := m) (by omega) ih
      exact this
  have := key (sg 1 6).toNat
  have e : ((sg 1 6).toNat : Int) = sg 1 6 := by omega
  rw [e] at this
  exact this
def hCnt (sg : Nat → Int → Int) (p x : Int) : Int := sumN (fun d => b2 (sCov sg p d)) x.toNat
theorem sumN_split (f : Int → Int) (a : Nat) : ∀ b : Nat, sumN f (a + b) = sumN f a + sumN (fun i => f (a + i)) b
  | 0 => by rw [sumN_0]; simp
  | b + 1 => by
    rw [show a + (b + 1) = (a + b) + 1 from rfl, sumN_s, sumN_split f a b, sumN_s]
    have e : ((a + b : Nat) : Int) = a + b := by omega
    rw [e]; omega
theorem sumN_k {f : Int → Int} {c : Int} : ∀ {n : Nat}, (∀ i : Int, 0 ≤ i → i < n → f i = c) → sumN f n = c * n
  | 0, _ => by rw [sumN_0]; simp
  | n + 1, h => by
    rw [sumN_s, sumN_k (n := n) (fun i h0 h1 => h i h0 (by omega)), h n (by omega) (by omega)]
    rw [Int.natCast_add, Int.mul_add]; simp
theorem hCnt_seg {p x y c : Int} (hx : 0 ≤ x) (hxy : x ≤ y) (hc : ∀ d, x ≤ d → d < y → b2 (sCov sg p d) = c) : hCnt sg p y = hCnt sg p x + c * (y - x) := by
  unfold hCnt
  have e : y.toNat = x.toNat + (y - x).toNat := by omega
  have k := sumN_k (f := fun i => b2 (sCov sg p ((x.toNat : Int) + i))) (c := c) (n := (y - x).toNat) (fun i h0 h1 => hc _ (by omega) (by omega))
  have e2 : ((y - x).toNat : Int) = y - x := by omega
  rw [e2] at k
  rw [e, sumN_split, k]
theorem cov_of {p d i : Int} (h0 : 0 ≤ i) (h1 : i < sg 1 6) (h2 : sg 9 (3 * i) = p) (h3 : sg 9 (3 * i + 1) ≤ d) (h4 : d ≤ sg 9 (3 * i + 2)) : sCov sg p d := by
  show 0 ≤ lst _ _
  rcases Int.lt_or_le (lst (fun h => sg 9 (3 * h) = p ∧ sg 9 (3 * h + 1) ≤ d ∧ d ≤ sg 9 (3 * h + 2)) (sg 1 6).toNat) 0 with q | q
  · exact absurd (show sg 9 (3 * i) = p ∧ sg 9 (3 * i + 1) ≤ d ∧ d ≤ sg 9 (3 * i + 2) from ⟨h2, h3, h4⟩) (lst_no (fun h => sg 9 (3 * h) = p ∧ sg 9 (3 * h + 1) ≤ d ∧ d ≤ sg 9 (3 * h + 2)) (sg 1 6).toNat i (Int.lt_of_lt_of_le q h0) h0 (by omega))
  · exact q
theorem cov_ex (W : WD sg) {p d : Int} (hc : sCov sg p d) : ∃ i, 0 ≤ i ∧ i < sg 1 6 ∧ sg 9 (3 * i) = p ∧ sg 9 (3 * i + 1) ≤ d ∧ d ≤ sg 9 (3 * i + 2) := by
  have n6 := W.n6
  have a := lst_ok (fun h => sg 9 (3 * h) = p ∧ sg 9 (3 * h + 1) ≤ d ∧ d ≤ sg 9 (3 * h + 2)) (sg 1 6).toNat hc
  have b := lst_le (fun h => sg 9 (3 * h) = p ∧ sg 9 (3 * h + 1) ≤ d ∧ d ≤ sg 9 (3 * h + 2)) (sg 1 6).toNat
  exact ⟨_, hc, by omega, a⟩
/-- stretches that are left -/
def hMs (sg : Nat → Int → Int) (p x : Int) : Int := sumN (fun i => b2 (hRel sg p x i)) (sg 1 6).toNat
theorem sumN_le {f g : Int → Int} : ∀ {n : Nat}, (∀ i : Int, 0 ≤ i → i < n → f i ≤ g i) → sumN f n ≤ sumN g n
  | 0, _ => Int.le_refl _
  | n + 1, h => by
    have h1 := sumN_le (n := n) (fun i h0 h1 => h i h0 (by omega))
    have h2 := h n (by omega) (by omega)
    rw [sumN_s, sumN_s]; omega
theorem sumN_lt {f g : Int → Int} {t : Int} : ∀ {n : Nat}, (∀ i : Int, 0 ≤ i → i < n → f i ≤ g i) → 0 ≤ t → t < n → f t < g t → sumN f n < sumN g n
  | 0, _, h0, h1, _ => by omega
  | n + 1, h, h0, h1, ht => by
    have h3 := h n (by omega) (by omega)
    rw [sumN_s, sumN_s]
    by_cases e : t = n
    · subst e
      have := sumN_le (f := f) (g := g) (n := n) (fun i h0 h1 => h i h0 (by omega))
      omega
    · have := sumN_lt (n := n) (fun i h0 h1 => h i h0 (by omega)) h0 (by omega) ht
      omega
/-- a pass counts on -/
theorem hStep (W : WD sg) {p day from_ : Int} (h0 : 0 ≤ from_) (h1 : from_ ≤ day) :
    from_ ≤ (hOne sg p day from_).1 ∧ (hOne sg p day from_).1 ≤ (hOne sg p day from_).2 ∧ (hOne sg p day from_).2 ≤ day ∧ hCnt sg p (hOne sg p day from_).2 = hCnt sg p from_ + ((hOne sg p day from_).2 - (hOne sg p day from_).1) ∧ ((hOne sg p day from_).2 = day ∨ hMs sg p (hOne sg p day from_).2 < hMs sg p from_) := by
  obtain ⟨a, b, c, d⟩ := hOne_ok W (p := p) h0 h1
  generalize hOne sg p day from_ = x at a b c d
  have n6 := W.n6
  have gap : hCnt sg p x.1 = hCnt sg p from_ + 0 * (x.1 - from_) := hCnt_seg h0 a (fun q q0 q1 => b2_f (fun hc => by
    obtain ⟨i, i0, i1, i2, i3, i4⟩ := cov_ex W hc
    have := c i i0 i1 ⟨i2, by omega⟩
    unfold mx at this
    split at this <;> omega))
  rcases d with d | ⟨i, d1, d2, d3, d4, d5, d6⟩
  · subst d
    refine ⟨h1, Int.le_refl _, Int.le_refl _, ?_, Or.inl rfl⟩
    dsimp only at gap ⊢
    omega
  · have ti := W.ti i d1 d2
    have e2 : x.1 < x.2 := by
      rw [d6]
      unfold mn
      unfold mx at d4
      split <;> split at d4 <;> omega
    have e3 : x.2 ≤ day := by
      rw [d6]
      unfold mn
      split <;> omega
    have seg : hCnt sg p x.2 = hCnt sg p x.1 + 1 * (x.2 - x.1) := hCnt_seg (by omega) (by omega) (fun q q0 q1 => b2_t (cov_of d1 d2 d3.1 (by unfold mx at d4; split at d4 <;> omega) (by
      rw [d6] at q1
      unfold mn at q1
      split at q1 <;> omega)))
    refine ⟨a, by omega, e3, by omega, ?_⟩
    by_cases cd : x.2 = day
    · exact Or.inl cd
    · have e4 : x.2 = sg 9 (3 * i + 2) + 1 := by
        rw [d6] at cd ⊢
        unfold mn at cd ⊢
        split <;> split at cd <;> omega
      refine Or.inr (sumN_lt (t := i) (fun j j0 j1 => ?_) d1 (by omega) ?_)
      · by_cases cr : hRel sg p x.2 j
        · have : hRel sg p from_ j := ⟨cr.1, by have := cr.2; omega⟩
          rw [b2_t cr, b2_t this]
          exact Int.le_refl _
        · rw [b2_f cr]
          exact (b2_i _).1
      · have f1 : ¬ hRel sg p x.2 i := fun q => by have := q.2; omega
        rw [b2_f f1, b2_t d3]
        omega
theorem C_heldAhead (hC : OKC h) (R : RDs 1 sg rho h) (W : WD sg) {p day : Int} (hp : i32 p) (hd : 0 ≤ day ∧ day ≤ 9999) : m1_heldAhead 1 (iI p) (iI day) (cK rho h) = some (iI (sHeld sg p day), cK rho h) := by
  have n6 := W.n6
  have n0 := W.n0
  unfold m1_heldAhead
  simp (config := { maxSteps := 1000000 }) (disch := first | assumption | exact W.i _ _ | exact sLine_i W _ _ _ | exact W1.i _ _ | exact hg _ _ | exact W3.i _ _ | (refine ⟨?_, ?_⟩ <;> omega) | omega | (simp only [sW_1, sW_2, sW_3, sW_4, sW_5, sW_8] <;> first | assumption | omega | (refine ⟨?_, ?_⟩ <;> omega)) | (simp only [sT_1, sT_2, sT_3, sT_4, sT_5, sT_8] <;> first | assumption | omega | (refine ⟨?_, ?_⟩ <;> omega))) only [Int.reduceEq, Int.reduceLT, Int.reduceLE, Int.reduceNeg, Int.reduceAdd, Int.reduceSub, Int.reduceMul, if_true, if_false, not_true, not_false_eq_true, false_or, or_false, true_or, or_true, true_and, and_true, false_and, and_false, iI_on, iI_mul, iI_add, iI_sub, iI_neg, ap_if, mp_eq, mz_0, mz_1, mz_b, b2_0, b2_1, iI_lt, iI_le, iI_inj, mb_div, mb_rem]
  have key := lop (F := fun n (x : Int × Int) i => m1_heldAhead_p8 n 1 (iI p) (iI day) (iI x.1) (iI x.2) (iI i) (cK rho h)) (K := fun x => some (iI x.1, cK rho h)) (N := sg 1 6) (st := fun x _ => (x.1 + ((hOne sg p day x.2).2 - (hOne sg p day x.2).1), (hOne sg p day x.2).2)) (I := fun x i => 0 ≤ x.2 ∧ x.2 ≤ day ∧ x.1 = hCnt sg p x.2 ∧ (x.2 = day ∨ hMs sg p x.2 + i ≤ sg 1 6)) (fun n x hx => ?_) (fun n x i hx h2 h3 => ⟨?_, ?_⟩) (sg 1 6).toNat FU (0, 0) 0 ⟨Int.le_refl _, hd.1, rfl, Or.inr ?_⟩ (by omega) (by omega) (FU_lt (by omega))
  · obtain ⟨e, a, b, c, d⟩ := key
    refine e.trans ?_
    generalize fo _ _ _ _ = x at a b c d
    have fin : x.1 = sHeld sg p day := by
      rw [c]
      rcases d with d | d
      · rw [d]; rfl
      · have ms : hMs sg p x.2 ≤ 0 := by omega
        have := hCnt_seg (sg := sg) (p := p) (x := x.2) (y := day) (c := 0) a b (fun q q0 q1 => b2_f (fun hc => by
          obtain ⟨i, i0, i1, i2, i3, i4⟩ := cov_ex W hc
          have hr : hRel sg p x.2 i := ⟨i2, by omega⟩
          have := sumN_lt (f := fun _ => 0) (g := fun i => b2 (hRel sg p x.2 i)) (t := i) (n := (sg 1 6).toNat) (fun j _ _ => (b2_i _).1) i0 (by omega) (by rw [b2_t hr]; omega)
          rw [sumN_z (fun _ _ _ => rfl)] at this
          have e2 : hMs sg p x.2 = sumN (fun i => b2 (hRel sg p x.2 i)) (sg 1 6).toNat := rfl
          omega))
        have e3 : sHeld sg p day = hCnt sg p day := rfl
        omega
    rw [fin]
  · show m1_heldAhead_p8 (n + 1) 1 (iI p) (iI day) (iI x.1) (iI x.2) (iI (sg 1 6)) (cK rho h) = some (iI x.1, cK rho h)
    rw [m1_heldAhead_p8]
    simp (config := { maxSteps := 1000000 }) (disch := first | assumption | exact W.i _ _ | exact sLine_i W _ _ _ | exact W1.i _ _ | exact hg _ _ | exact W3.i _ _ | (refine ⟨?_, ?_⟩ <;> omega) | omega | (simp only [sW_1, sW_2, sW_3, sW_4, sW_5, sW_8] <;> first | assumption | omega | (refine ⟨?_, ?_⟩ <;> omega)) | (simp only [sT_1, sT_2, sT_3, sT_4, sT_5, sT_8] <;> first | assumption | omega | (refine ⟨?_, ?_⟩ <;> omega))) only [Int.reduceEq, Int.reduceLT, Int.reduceLE, Int.reduceNeg, Int.reduceAdd, Int.reduceSub, Int.reduceMul, if_true, if_false, not_true, not_false_eq_true, false_or, or_false, true_or, or_true, true_and, and_true, false_and, and_false, iI_on, iI_mul, iI_add, iI_sub, iI_neg, ap_if, mp_eq, mz_0, mz_1, mz_b, b2_0, b2_1, iI_lt, iI_le, iI_inj, mb_div, mb_rem, hC.m0, hC.m1, hC.m13, hC.m15, hC.m27, hC.m29, hC.m38, hC.m40, hC.g0_0, hC.g0_1, hC.g0_3, hC.g0_4, hC.g0_5, hC.g0_6, hC.g0_7, hC.g0_8, hC.g0_9, hC.g0_10, hC.g0_11, hC.g0_12, hC.g0_13, hC.g0_14, hC.g1_2, hC.g1_3, hC.g1_5, hC.g1_7, hC.g1_9, hC.g1_11, hC.g1_12, hC.g1_14, hC.g1_15, hC.g1_16, hC.g1_17, hC.g1_18, hC.g13_0, hC.g15_2, hC.g15_3, hC.g15_5, hC.g15_7, hC.g15_9, hC.g15_11, hC.g15_12, hC.g15_14, hC.g15_15, hC.g15_16, hC.g15_17, hC.g15_18, hC.g27_0, hC.g29_3, hC.g29_4, hC.g29_5, hC.g29_6, hC.g29_7, hC.g29_8, hC.g29_9, hC.g29_10, hC.g38_0, hC.g40_0, hC.s0_2, hC.s1_0, hC.s1_1, hC.s1_4, hC.s1_6, hC.s1_8, hC.s1_10, hC.s1_13, hC.s13_1, hC.s15_0, hC.s15_1, hC.s15_4, hC.s15_6, hC.s15_8, hC.s15_10, hC.s15_13, hC.s27_1, hC.s29_0, hC.s29_1, hC.s29_2, hC.s29_11, hC.s29_12, hC.s38_1, hC.s40_1, hC.s40_2, hC.l2, hC.l3, hC.l8, hC.l9, hC.l10, hC.l11, hC.l12, hC.l14, hC.l16, hC.l17, hC.l22, hC.l23, hC.l24, hC.l25, hC.l26, hC.l28, hC.l30, hC.l31, hC.l32, hC.l33, hC.l34, hC.l36, hC.l37, hC.l39, hC.l41, hC.l43, hC.l44, hC.l45, hC.l46, hC.l47, hC.l48, hC.l49, hC.l50, hC.l51, hC.l52, hC.l53, hC.l54, hC.l35, hC.n33, hC.n36, hC.dl R W, hC.fl R W, hC.ll R W, hC.tl R W, R.d1, R.d2, R.d3, R.d4, R.dn, R.da, R.f1, R.f2, R.f3, R.f4, R.fn, R.fa, R.t1, R.t2, R.t3, R.t4, R.t5, R.tn, R.ta, R.l0, R.l1, R.l2, R.l3, R.l7, R.ln, R.lv, R.r5, R.r6, R.r8, R.r13, R.r4, R.r10, R.r11, R.r12, R.r9, R.mt, R.ml, R.lg, R.lp, R.lr, R.lo W, R.ls W, R.1.1, R.1.2.1, R.1.2.2.1, R.1.2.2.2.1, R.1.2.2.2.2.1, R.1.2.2.2.2.2.1, R.1.2.2.2.2.2.2, R.born, R.good, R.unw, R.hp, R.hf, R.ht]
    rw [if_pos (by omega)]
  · show m1_heldAhead_p8 (n + 1) 1 (iI p) (iI day) (iI x.1) (iI x.2) (iI i) (cK rho h) = m1_heldAhead_p8 n 1 (iI p) (iI day) (iI (x.1 + ((hOne sg p day x.2).2 - (hOne sg p day x.2).1))) (iI (hOne sg p day x.2).2) (iI (i + 1)) (cK rho h)
    rw [m1_heldAhead_p8]
    simp (config := { maxSteps := 1000000 }) (disch := first | assumption | exact W.i _ _ | exact sLine_i W _ _ _ | exact W1.i _ _ | exact hg _ _ | exact W3.i _ _ | (refine ⟨?_, ?_⟩ <;> omega) | omega | (simp only [sW_1, sW_2, sW_3, sW_4, sW_5, sW_8] <;> first | assumption | omega | (refine ⟨?_, ?_⟩ <;> omega)) | (simp only [sT_1, sT_2, sT_3, sT_4, sT_5, sT_8] <;> first | assumption | omega | (refine ⟨?_, ?_⟩ <;> omega))) only [Int.reduceEq, Int.reduceLT, Int.reduceLE, Int.reduceNeg, Int.reduceAdd, Int.reduceSub, Int.reduceMul, if_true, if_false, not_true, not_false_eq_true, false_or, or_false, true_or, or_true, true_and, and_true, false_and, and_false, iI_on, iI_mul, iI_add, iI_sub, iI_neg, ap_if, mp_eq, mz_0, mz_1, mz_b, b2_0, b2_1, iI_lt, iI_le, iI_inj, mb_div, mb_rem, hC.m0, hC.m1, hC.m13, hC.m15, hC.m27, hC.m29, hC.m38, hC.m40, hC.g0_0, hC.g0_1, hC.g0_3, hC.g0_4, hC.g0_5, hC.g0_6, hC.g0_7, hC.g0_8, hC.g0_9, hC.g0_10, hC.g0_11, hC.g0_12, hC.g0_13, hC.g0_14, hC.g1_2, hC.g1_3, hC.g1_5, hC.g1_7, hC.g1_9, hC.g1_11, hC.g1_12, hC.g1_14, hC.g1_15, hC.g1_16, hC.g1_17, hC.g1_18, hC.g13_0, hC.g15_2, hC.g15_3, hC.g15_5, hC.g15_7, hC.g15_9, hC.g15_11, hC.g15_12, hC.g15_14, hC.g15_15, hC.g15_16, hC.g15_17, hC.g15_18, hC.g27_0, hC.g29_3, hC.g29_4, hC.g29_5, hC.g29_6, hC.g29_7, hC.g29_8, hC.g29_9, hC.g29_10, hC.g38_0, hC.g40_0, hC.s0_2, hC.s1_0, hC.s1_1, hC.s1_4, hC.s1_6, hC.s1_8, hC.s1_10, hC.s1_13, hC.s13_1, hC.s15_0, hC.s15_1, hC.s15_4, hC.s15_6, hC.s15_8, hC.s15_10, hC.s15_13, hC.s27_1, hC.s29_0, hC.s29_1, hC.s29_2, hC.s29_11, hC.s29_12, hC.s38_1, hC.s40_1, hC.s40_2, hC.l2, hC.l3, hC.l8, hC.l9, hC.l10, hC.l11, hC.l12, hC.l14, hC.l16, hC.l17, hC.l22, hC.l23, hC.l24, hC.l25, hC.l26, hC.l28, hC.l30, hC.l31, hC.l32, hC.l33, hC.l34, hC.l36, hC.l37, hC.l39, hC.l41, hC.l43, hC.l44, hC.l45, hC.l46, hC.l47, hC.l48, hC.l49, hC.l50, hC.l51, hC.l52, hC.l53, hC.l54, hC.l35, hC.n33, hC.n36, hC.dl R W, hC.fl R W, hC.ll R W, hC.tl R W, R.d1, R.d2, R.d3, R.d4, R.dn, R.da, R.f1, R.f2, R.f3, R.f4, R.fn, R.fa, R.t1, R.t2, R.t3, R.t4, R.t5, R.tn, R.ta, R.l0, R.l1, R.l2, R.l3, R.l7, R.ln, R.lv, R.r5, R.r6, R.r8, R.r13, R.r4, R.r10, R.r11, R.r12, R.r9, R.mt, R.ml, R.lg, R.lp, R.lr, R.lo W, R.ls W, R.1.1, R.1.2.1, R.1.2.2.1, R.1.2.2.2.1, R.1.2.2.2.2.1, R.1.2.2.2.2.2.1, R.1.2.2.2.2.2.2, R.born, R.good, R.unw, R.hp, R.hf, R.ht, show ¬ sg 1 6 ≤ i by omega]
    obtain ⟨a, b, c, d⟩ := hx
    have ky := (lop (F := fun n' (y : Int × Int) j => m1_heldAhead_p26 (m1_heldAhead_p8 n) n' 1 (iI p) (iI day) (iI x.1) (iI x.2) (iI i) (iI y.1) (iI y.2) (iI j) (cK rho h)) (K := fun y => m1_heldAhead_p8 n 1 (iI p) (iI day) (iI (x.1 + (y.2 - y.1))) (iI y.2) (iI (i + 1)) (cK rho h)) (N := sg 1 6) (st := hIn sg p day x.2) (I := fun y _ => 0 ≤ y.1 ∧ y.1 ≤ 9999) (fun n' y hy => ?_) (fun n' y j hy j0 j1 => ⟨?_, ?_⟩) (sg 1 6).toNat FU (day, day) 0 hd (by omega) (by omega) (FU_lt (by omega))).1
    · exact ky
    · show m1_heldAhead_p26 (m1_heldAhead_p8 n) (n' + 1) 1 (iI p) (iI day) (iI x.1) (iI x.2) (iI i) (iI y.1) (iI y.2) (iI (sg 1 6)) (cK rho h) = m1_heldAhead_p8 n 1 (iI p) (iI day) (iI (x.1 + (y.2 - y.1))) (iI y.2) (iI (i + 1)) (cK rho h)
      rw [m1_heldAhead_p26]
      simp (config := { maxSteps := 1000000 }) (disch := first | assumption | exact W.i _ _ | exact sLine_i W _ _ _ | exact W1.i _ _ | exact hg _ _ | exact W3.i _ _ | (refine ⟨?_, ?_⟩ <;> omega) | omega | (simp only [sW_1, sW_2, sW_3, sW_4, sW_5, sW_8] <;> first | assumption | omega | (refine ⟨?_, ?_⟩ <;> omega)) | (simp only [sT_1, sT_2, sT_3, sT_4, sT_5, sT_8] <;> first | assumption | omega | (refine ⟨?_, ?_⟩ <;> omega))) only [Int.reduceEq, Int.reduceLT, Int.reduceLE, Int.reduceNeg, Int.reduceAdd, Int.reduceSub, Int.reduceMul, if_true, if_false, not_true, not_false_eq_true, false_or, or_false, true_or, or_true, true_and, and_true, false_and, and_false, iI_on, iI_mul, iI_add, iI_sub, iI_neg, ap_if, mp_eq, mz_0, mz_1, mz_b, b2_0, b2_1, iI_lt, iI_le, iI_inj, mb_div, mb_rem, hC.m0, hC.m1, hC.m13, hC.m15, hC.m27, hC.m29, hC.m38, hC.m40, hC.g0_0, hC.g0_1, hC.g0_3, hC.g0_4, hC.g0_5, hC.g0_6, hC.g0_7, hC.g0_8, hC.g0_9, hC.g0_10, hC.g0_11, hC.g0_12, hC.g0_13, hC.g0_14, hC.g1_2, hC.g1_3, hC.g1_5, hC.g1_7, hC.g1_9, hC.g1_11, hC.g1_12, hC.g1_14, hC.g1_15, hC.g1_16, hC.g1_17, hC.g1_18, hC.g13_0, hC.g15_2, hC.g15_3, hC.g15_5, hC.g15_7, hC.g15_9, hC.g15_11, hC.g15_12, hC.g15_14, hC.g15_15, hC.g15_16, hC.g15_17, hC.g15_18, hC.g27_0, hC.g29_3, hC.g29_4, hC.g29_5, hC.g29_6, hC.g29_7, hC.g29_8, hC.g29_9, hC.g29_10, hC.g38_0, hC.g40_0, hC.s0_2, hC.s1_0, hC.s1_1, hC.s1_4, hC.s1_6, hC.s1_8, hC.s1_10, hC.s1_13, hC.s13_1, hC.s15_0, hC.s15_1, hC.s15_4, hC.s15_6, hC.s15_8, hC.s15_10, hC.s15_13, hC.s27_1, hC.s29_0, hC.s29_1, hC.s29_2, hC.s29_11, hC.s29_12, hC.s38_1, hC.s40_1, hC.s40_2, hC.l2, hC.l3, hC.l8, hC.l9, hC.l10, hC.l11, hC.l12, hC.l14, hC.l16, hC.l17, hC.l22, hC.l23, hC.l24, hC.l25, hC.l26, hC.l28, hC.l30, hC.l31, hC.l32, hC.l33, hC.l34, hC.l36, hC.l37, hC.l39, hC.l41, hC.l43, hC.l44, hC.l45, hC.l46, hC.l47, hC.l48, hC.l49, hC.l50, hC.l51, hC.l52, hC.l53, hC.l54, hC.l35, hC.n33, hC.n36, hC.dl R W, hC.fl R W, hC.ll R W, hC.tl R W, R.d1, R.d2, R.d3, R.d4, R.dn, R.da, R.f1, R.f2, R.f3, R.f4, R.fn, R.fa, R.t1, R.t2, R.t3, R.t4, R.t5, R.tn, R.ta, R.l0, R.l1, R.l2, R.l3, R.l7, R.ln, R.lv, R.r5, R.r6, R.r8, R.r13, R.r4, R.r10, R.r11, R.r12, R.r9, R.mt, R.ml, R.lg, R.lp, R.lr, R.lo W, R.ls W, R.1.1, R.1.2.1, R.1.2.2.1, R.1.2.2.2.1, R.1.2.2.2.2.1, R.1.2.2.2.2.2.1, R.1.2.2.2.2.2.2, R.born, R.good, R.unw, R.hp, R.hf, R.ht]
      rw [if_pos (by omega)]
    · show m1_heldAhead_p26 (m1_heldAhead_p8 n) (n' + 1) 1 (iI p) (iI day) (iI x.1) (iI x.2) (iI i) (iI y.1) (iI y.2) (iI j) (cK rho h) = m1_heldAhead_p26 (m1_heldAhead_p8 n) n' 1 (iI p) (iI day) (iI x.1) (iI x.2) (iI i) (iI (hIn sg p day x.2 y j).1) (iI (hIn sg p day x.2 y j).2) (iI (j + 1)) (cK rho h)
      have ti := W.ti j j0 j1
      have emx : imax (iI (sg 9 (3 * j + 1))) (iI x.2) = iI (mx (sg 9 (3 * j + 1)) x.2) := imax_i ⟨by omega, by omega⟩ ⟨by omega, by omega⟩
      have emn : imin (iI (sg 9 (3 * j + 2) + 1)) (iI day) = iI (mn (sg 9 (3 * j + 2) + 1) day) := imin_i ⟨by omega, by omega⟩ ⟨by omega, by omega⟩
      have bm : 0 ≤ mx (sg 9 (3 * j + 1)) x.2 ∧ mx (sg 9 (3 * j + 1)) x.2 ≤ 9999 := by
        unfold mx
        split <;> omega
      rw [m1_heldAhead_p26]
      unfold hIn
      (repeat' (first | simp (config := { maxSteps := 1000000 }) (disch := first | assumption | exact W.i _ _ | exact sLine_i W _ _ _ | exact W1.i _ _ | exact hg _ _ | exact W3.i _ _ | (refine ⟨?_, ?_⟩ <;> omega) | omega | (simp only [sW_1, sW_2, sW_3, sW_4, sW_5, sW_8] <;> first | assumption | omega | (refine ⟨?_, ?_⟩ <;> omega)) | (simp only [sT_1, sT_2, sT_3, sT_4, sT_5, sT_8] <;> first | assumption | omega | (refine ⟨?_, ?_⟩ <;> omega))) only [Int.reduceEq, Int.reduceLT, Int.reduceLE, Int.reduceNeg, Int.reduceAdd, Int.reduceSub, Int.reduceMul, if_true, if_false, not_true, not_false_eq_true, false_or, or_false, true_or, or_true, true_and, and_true, false_and, and_false, iI_on, iI_mul, iI_add, iI_sub, iI_neg, ap_if, mp_eq, mz_0, mz_1, mz_b, b2_0, b2_1, iI_lt, iI_le, iI_inj, mb_div, mb_rem, hC.m0, hC.m1, hC.m13, hC.m15, hC.m27, hC.m29, hC.m38, hC.m40, hC.g0_0, hC.g0_1, hC.g0_3, hC.g0_4, hC.g0_5, hC.g0_6, hC.g0_7, hC.g0_8, hC.g0_9, hC.g0_10, hC.g0_11, hC.g0_12, hC.g0_13, hC.g0_14, hC.g1_2, hC.g1_3, hC.g1_5, hC.g1_7, hC.g1_9, hC.g1_11, hC.g1_12, hC.g1_14, hC.g1_15, hC.g1_16, hC.g1_17, hC.g1_18, hC.g13_0, hC.g15_2, hC.g15_3, hC.g15_5, hC.g15_7, hC.g15_9, hC.g15_11, hC.g15_12, hC.g15_14, hC.g15_15, hC.g15_16, hC.g15_17, hC.g15_18, hC.g27_0, hC.g29_3, hC.g29_4, hC.g29_5, hC.g29_6, hC.g29_7, hC.g29_8, hC.g29_9, hC.g29_10, hC.g38_0, hC.g40_0, hC.s0_2, hC.s1_0, hC.s1_1, hC.s1_4, hC.s1_6, hC.s1_8, hC.s1_10, hC.s1_13, hC.s13_1, hC.s15_0, hC.s15_1, hC.s15_4, hC.s15_6, hC.s15_8, hC.s15_10, hC.s15_13, hC.s27_1, hC.s29_0, hC.s29_1, hC.s29_2, hC.s29_11, hC.s29_12, hC.s38_1, hC.s40_1, hC.s40_2, hC.l2, hC.l3, hC.l8, hC.l9, hC.l10, hC.l11, hC.l12, hC.l14, hC.l16, hC.l17, hC.l22, hC.l23, hC.l24, hC.l25, hC.l26, hC.l28, hC.l30, hC.l31, hC.l32, hC.l33, hC.l34, hC.l36, hC.l37, hC.l39, hC.l41, hC.l43, hC.l44, hC.l45, hC.l46, hC.l47, hC.l48, hC.l49, hC.l50, hC.l51, hC.l52, hC.l53, hC.l54, hC.l35, hC.n33, hC.n36, hC.dl R W, hC.fl R W, hC.ll R W, hC.tl R W, R.d1, R.d2, R.d3, R.d4, R.dn, R.da, R.f1, R.f2, R.f3, R.f4, R.fn, R.fa, R.t1, R.t2, R.t3, R.t4, R.t5, R.tn, R.ta, R.l0, R.l1, R.l2, R.l3, R.l7, R.ln, R.lv, R.r5, R.r6, R.r8, R.r13, R.r4, R.r10, R.r11, R.r12, R.r9, R.mt, R.ml, R.lg, R.lp, R.lr, R.lo W, R.ls W, R.1.1, R.1.2.1, R.1.2.2.1, R.1.2.2.2.1, R.1.2.2.2.2.1, R.1.2.2.2.2.2.1, R.1.2.2.2.2.2.2, R.born, R.good, R.unw, R.hp, R.hf, R.ht, m1_heldAhead_p104, emx, emn] | split)) <;> (first | with_reducible rfl | omega | rfl | (subst_vars; rfl) | (simp only [*, Int.add_zero]; done) | (rw [b2_t (by omega)]; done) | (rw [b2_f (by omega)]; done) | (rw [b2_f (by omega), Int.add_zero]))
    · show 0 ≤ (hIn sg p day x.2 y j).1 ∧ (hIn sg p day x.2 y j).1 ≤ 9999
      have ti := W.ti j j0 j1
      have bm : 0 ≤ mx (sg 9 (3 * j + 1)) x.2 ∧ mx (sg 9 (3 * j + 1)) x.2 ≤ 9999 := by
        unfold mx
        split <;> omega
      unfold hIn
      split
      · exact bm
      · exact hy
  · obtain ⟨a, b, c, d⟩ := hx
    obtain ⟨s1, s2, s3, s4, s5⟩ := hStep W (p := p) a b
    refine ⟨?_, s3, ?_, ?_⟩
    · show 0 ≤ (hOne sg p day x.2).2
      omega
    · show x.1 + _ = hCnt sg p (hOne sg p day x.2).2
      omega
    · show (hOne sg p day x.2).2 = day ∨ hMs sg p (hOne sg p day x.2).2 + (i + 1) ≤ sg 1 6
      rcases d with d | d
      · left; omega
      · rcases s5 with s5 | s5
        · exact Or.inl s5
        · right; omega
  · have := sumN_b (f := fun i => b2 (hRel sg p 0 i)) (c := 0) (d := 1) (n := (sg 1 6).toNat) (fun i _ _ => b2_i _)
    show hMs sg p 0 + 0 ≤ sg 1 6
    unfold hMs
    omega
end HELD

/-! ===== a call on both: spread ===== -/
section SPREAD
variable {M : Nat} {sg rho : Nat → Int → Int} {h : gH}
def aM (sg : Nat → Int → Int) (k : Int) (t : Nat) : Int := sumN (fun i => b2 (drw sg i k)) t
def aN (sg : Nat → Int → Int) (c k : Int) (t : Nat) : Int := sumN (fun i => b2 (drw sg i k ∧ sg 8 (7 * i + 1) = c)) t
def aO (sg : Nat → Int → Int) (c k : Int) (t : Nat) : Int := sumN (fun i => if drw sg i k ∧ sg 8 (7 * i + 1) = c then sg 8 (7 * i + 2) else 0) t
def aA (sg : Nat → Int → Int) (k : Int) (t : Nat) : Int := sumN (fun i => if drw sg i k then sg 8 (7 * i + 2) else 0) t
theorem aM_s (k : Int) (t : Nat) : aM sg k (t + 1) = aM sg k t + b2 (drw sg t k) := sumN_s _ _
theorem aN_s (c k : Int) (t : Nat) : aN sg c k (t + 1) = aN sg c k t + b2 (drw sg t k ∧ sg 8 (7 * (t : Int) + 1) = c) := sumN_s _ _
theorem aO_s (c k : Int) (t : Nat) : aO sg c k (t + 1) = aO sg c k t + if drw sg t k ∧ sg 8 (7 * (t : Int) + 1) = c then sg 8 (7 * (t : Int) + 2) else 0 := sumN_s _ _
theorem aA_s (k : Int) (t : Nat) : aA sg k (t + 1) = aA sg k t + if drw sg t k then sg 8 (7 * (t : Int) + 2) else 0 := sumN_s _ _
theorem agg_1 {c k : Int} {t : Nat} (d : drw sg t k) (e : sg 8 (7 * (t : Int) + 1) = c) : aN sg c k (t + 1) = aN sg c k t + 1 ∧ aM sg k (t + 1) = aM sg k t + 1 ∧ aO sg c k (t + 1) = aO sg c k t + sg 8 (7 * (t : Int) + 2) ∧ aA sg k (t + 1) = aA sg k t + sg 8 (7 * (t : Int) + 2) :=
  ⟨by rw [aN_s, b2_t ⟨d, e⟩], by rw [aM_s, b2_t d], by rw [aO_s, if_pos (⟨d, e⟩ : drw sg t k ∧ _)], by rw [aA_s, if_pos d]⟩
theorem agg_2 {c k : Int} {t : Nat} (d : drw sg t k) (e : ¬ sg 8 (7 * (t : Int) + 1) = c) : aN sg c k (t + 1) = aN sg c k t ∧ aM sg k (t + 1) = aM sg k t + 1 ∧ aO sg c k (t + 1) = aO sg c k t ∧ aA sg k (t + 1) = aA sg k t + sg 8 (7 * (t : Int) + 2) := by
  have h1 : ¬ (drw sg t k ∧ sg 8 (7 * (t : Int) + 1) = c) := fun z => e z.2
  exact ⟨by rw [aN_s, b2_f h1, Int.add_zero], by rw [aM_s, b2_t d], by rw [aO_s, if_neg h1, Int.add_zero], by rw [aA_s, if_pos d]⟩
theorem agg_3 {c k : Int} {t : Nat} (d : ¬ drw sg t k) : aN sg c k (t + 1) = aN sg c k t ∧ aM sg k (t + 1) = aM sg k t ∧ aO sg c k (t + 1) = aO sg c k t ∧ aA sg k (t + 1) = aA sg k t := by
  have h1 : ¬ (drw sg t k ∧ sg 8 (7 * (t : Int) + 1) = c) := fun z => d z.1
  exact ⟨by rw [aN_s, b2_f h1, Int.add_zero], by rw [aM_s, b2_f d, Int.add_zero], by rw [aO_s, if_neg h1, Int.add_zero], by rw [aA_s, if_neg d, Int.add_zero]⟩
theorem agg_b (W : WD sg) (c k : Int) : ∀ t : Nat, (t : Int) ≤ sg 1 5 → (0 ≤ aN sg c k t ∧ aN sg c k t ≤ aM sg k t ∧ aM sg k t ≤ t) ∧ (0 ≤ aO sg c k t ∧ aO sg c k t ≤ aA sg k t ∧ aA sg k t ≤ 240 * t)
  | 0, _ => by
    show ((0 : Int) ≤ 0 ∧ (0 : Int) ≤ 0 ∧ (0 : Int) ≤ 0) ∧ (0 : Int) ≤ 0 ∧ (0 : Int) ≤ 0 ∧ (0 : Int) ≤ 240 * 0
    omega
  | t + 1, h => by
    have ih := agg_b W c k t (by omega)
    have nt := W.te t (by omega) (by omega)
    by_cases d : drw sg t k
    · by_cases e : sg 8 (7 * (t : Int) + 1) = c
      · obtain ⟨z1, z2, z3, z4⟩ := agg_1 d e
        rw [z1, z2, z3, z4]
        omega
      · obtain ⟨z1, z2, z3, z4⟩ := agg_2 d e
        rw [z1, z2, z3, z4]
        omega
    · obtain ⟨z1, z2, z3, z4⟩ := agg_3 (c := c) d
      rw [z1, z2, z3, z4]
      omega
theorem aM_len (W : WD sg) (k : Int) : ∀ t : Nat, (t : Int) ≤ sg 1 5 → aM sg k t = ((rlD (drE sg k) t).length : Int)
  | 0, _ => rfl
  | t + 1, h => by
    have nt := W.te t (by omega) (by omega)
    rw [aM_s, aM_len W k t (by omega)]
    by_cases d : drw sg t k
    · have e : drE sg k t = sg 8 (7 * t + 2) := by unfold drE; rw [if_pos d]
      have e2 : rlD (drE sg k) (t + 1) = drE sg k t :: rlD (drE sg k) t := if_pos (by omega)
      rw [b2_t d, e2]
      rfl
    · have e : drE sg k t = -1 := by unfold drE; rw [if_neg d]
      have e2 : rlD (drE sg k) (t + 1) = rlD (drE sg k) t := if_neg (by omega)
      rw [b2_f d, e2]
      omega
theorem rlD_b {e : Int → Int} : ∀ (t : Nat), (∀ i : Nat, i < t → e i ≤ 240) → ∀ x, x ∈ rlD e t → 0 ≤ x ∧ x ≤ 240
  | 0, _, x, hx => by cases hx
  | t + 1, he, x, hx => by
    by_cases q : 0 ≤ e t
    · have e3 : rlD e (t + 1) = e t :: rlD e t := if_pos q
      rw [e3] at hx
      rcases List.mem_cons.mp hx with z | z
      · rw [z]; exact ⟨q, he t (by omega)⟩
      · exact rlD_b t (fun i hi => he i (by omega)) x z
    · have e3 : rlD e (t + 1) = rlD e t := if_neg q
      rw [e3] at hx
      exact rlD_b t (fun i hi => he i (by omega)) x hx
theorem yWay_all : ∀ (r : List Int) (n : Nat) (a : Int), (∀ x, x ∈ r → 0 ≤ x) → a ≤ 0 → yWay r n a = (bC r.length n : Int)
  | r, 0, a, _, h => by
    rw [yWay_0, bC_0, if_pos h]
    rfl
  | [], n + 1, a, _, h => rfl
  | x :: r, n + 1, a, hr, h => by
    have hx := hr x List.mem_cons_self
    have i1 := yWay_all r (n + 1) a (fun y hy => hr y (List.mem_cons_of_mem _ hy)) h
    have i2 := yWay_all r n (a - x) (fun y hy => hr y (List.mem_cons_of_mem _ hy)) (by omega)
    show yWay r (n + 1) a + yWay r n (a - x) = ((bC r.length (n + 1) + bC r.length n : Nat) : Int)
    rw [i1, i2]
    omega
/-- what spread answers -/
def oSpread (sg : Nat → Int → Int) (c k w : Int) : Int :=
  let T := (sg 1 5).toNat
  if (0 ≤ c ∧ c ≤ 4) ∧ inD k ∧ (0 ≤ w ∧ w ≤ 4) then
    if w = 0 then aN sg c k T else if w = 1 then aM sg k T else if aN sg c k T < 2 ∨ aM sg k T - aN sg c k T < 2 then -4
    else if w = 2 then 1000000 + aO sg c k T * (aM sg k T - aN sg c k T) - (aA sg k T - aO sg c k T) * aN sg c k T
    else yWay (rlD (drE sg k) T) (aN sg c k T).toNat (if w = 3 then aO sg c k T else 0)
  else -1
theorem R_spr (hM : OKM M h) (W : WD sg) {c k w : Int} (hc : i32 c) (hk : i32 k) (hw : i32 w) : ∀ (m fu t : Nat), (t : Int) + m = sg 1 5 → m < fu →
    ∃ fu', m12_spread_p42 fu M (iI c) (iI k) (iI w) (iI (aN sg c k t)) (iI (aM sg k t)) (iI (aO sg c k t)) (iI (aA sg k t)) (iI (t : Int)) (mK M sg h) = m12_spread_p42 (fu' + 1) M (iI c) (iI k) (iI w) (iI (aN sg c k (sg 1 5).toNat)) (iI (aM sg k (sg 1 5).toNat)) (iI (aO sg c k (sg 1 5).toNat)) (iI (aA sg k (sg 1 5).toNat)) (iI (sg 1 5)) (mK M sg h)
  | 0, fu + 1, t, h0, h1 => by
    have e : (sg 1 5).toNat = t := by omega
    have e2 : sg 1 5 = (t : Int) := by omega
    refine ⟨fu, ?_⟩
    rw [e, e2]
  | m + 1, fu + 1, t, h0, h1 => by
    have n5 := W.n5
    have q : ¬ sg 1 5 ≤ (t : Int) := by omega
    have nt := W.te t (by omega) (by omega)
    obtain ⟨fu', ih⟩ := R_spr hM W hc hk hw m fu (t + 1) (by omega) (by omega)
    refine ⟨fu', ?_⟩
    have et : ((t + 1 : Nat) : Int) = (t : Int) + 1 := by omega
    have dr := B_isDrawn hM W (t := (t : Int)) (by omega) (by omega) hk
    have i32t : i32 (t : Int) := ⟨by omega, by omega⟩
    by_cases d : drw sg t k
    · rw [b2_t d] at dr
      by_cases e : sg 8 (7 * (t : Int) + 1) = c
      · obtain ⟨z1, z2, z3, z4⟩ := agg_1 d e
        rw [← ih, z1, z2, z3, z4, et, m12_spread_p42]
        simp (config := { maxSteps := 1000000 }) (disch := first | assumption | exact W.i _ _ | exact sLine_i W _ _ _ | exact W1.i _ _ | exact hg _ _ | exact W3.i _ _ | (refine ⟨?_, ?_⟩ <;> omega) | omega | (simp only [sW_1, sW_2, sW_3, sW_4, sW_5, sW_8] <;> first | assumption | omega | (refine ⟨?_, ?_⟩ <;> omega)) | (simp only [sT_1, sT_2, sT_3, sT_4, sT_5, sT_8] <;> first | assumption | omega | (refine ⟨?_, ?_⟩ <;> omega)) | (simp only [List.length_append, List.length_cons, List.length_nil, Nat.reduceAdd] <;> omega)) only [Int.reduceEq, Int.reduceLT, Int.reduceLE, Int.reduceNeg, Int.reduceAdd, Int.reduceSub, Int.reduceMul, if_true, if_false, not_true, not_false_eq_true, false_or, or_false, true_or, or_true, true_and, and_true, false_and, and_false, iI_on, iI_mul, iI_add, iI_sub, iI_neg, ap_if, mp_eq, mz_0, mz_1, mz_b, b2_0, b2_1, iI_lt, iI_le, iI_inj, mb_div, mb_rem, hM.m, hM.a1, hM.a2, hM.a3, hM.a4, hM.a5, hM.a6, hM.a7, hM.a8, hM.a9, hM.a10, hM.a11, hM.a12, hM.a13, hM.a14, hM.a15, hM.a16, hM.a17, hM.a18, hM.a19, hM.a20, hM.a21, hM.a22, hM.a23, hM.a24, hM.a25, hM.a26, hM.a27, hM.a28, hM.l1, hM.l2, hM.l3, hM.l4, hM.l5, hM.l6, hM.l7, hM.l8, hM.l9, hM.l10, hM.l11, hM.l12, hM.l13, hM.l14, hM.l15, hM.l16, hM.l17, hM.l18, hM.l19, hM.l20, hM.l21, hM.l22, hM.l23, hM.l24, hM.l25, hM.l26, hM.l27, hM.l28, hM.c10, hM.c11, hM.c12, hM.c13, hM.c14, hM.c15, hM.c19, hM.c20, hM.c23, hM.c27, hM.c36, hM.c37, hM.c38, hM.c40, hM.c41, hM.c42, hM.c44, q, mb_eq dr, mb_eq (B_of hM _ _), e, m12_spread_p79, m12_spread_p93, m12_spread_p117, m12_spread_p132]
      · obtain ⟨z1, z2, z3, z4⟩ := agg_2 d e
        rw [← ih, z1, z2, z3, z4, et, m12_spread_p42]
        simp (config := { maxSteps := 1000000 }) (disch := first | assumption | exact W.i _ _ | exact sLine_i W _ _ _ | exact W1.i _ _ | exact hg _ _ | exact W3.i _ _ | (refine ⟨?_, ?_⟩ <;> omega) | omega | (simp only [sW_1, sW_2, sW_3, sW_4, sW_5, sW_8] <;> first | assumption | omega | (refine ⟨?_, ?_⟩ <;> omega)) | (simp only [sT_1, sT_2, sT_3, sT_4, sT_5, sT_8] <;> first | assumption | omega | (refine ⟨?_, ?_⟩ <;> omega)) | (simp only [List.length_append, List.length_cons, List.length_nil, Nat.reduceAdd] <;> omega)) only [Int.reduceEq, Int.reduceLT, Int.reduceLE, Int.reduceNeg, Int.reduceAdd, Int.reduceSub, Int.reduceMul, if_true, if_false, not_true, not_false_eq_true, false_or, or_false, true_or, or_true, true_and, and_true, false_and, and_false, iI_on, iI_mul, iI_add, iI_sub, iI_neg, ap_if, mp_eq, mz_0, mz_1, mz_b, b2_0, b2_1, iI_lt, iI_le, iI_inj, mb_div, mb_rem, hM.m, hM.a1, hM.a2, hM.a3, hM.a4, hM.a5, hM.a6, hM.a7, hM.a8, hM.a9, hM.a10, hM.a11, hM.a12, hM.a13, hM.a14, hM.a15, hM.a16, hM.a17, hM.a18, hM.a19, hM.a20, hM.a21, hM.a22, hM.a23, hM.a24, hM.a25, hM.a26, hM.a27, hM.a28, hM.l1, hM.l2, hM.l3, hM.l4, hM.l5, hM.l6, hM.l7, hM.l8, hM.l9, hM.l10, hM.l11, hM.l12, hM.l13, hM.l14, hM.l15, hM.l16, hM.l17, hM.l18, hM.l19, hM.l20, hM.l21, hM.l22, hM.l23, hM.l24, hM.l25, hM.l26, hM.l27, hM.l28, hM.c10, hM.c11, hM.c12, hM.c13, hM.c14, hM.c15, hM.c19, hM.c20, hM.c23, hM.c27, hM.c36, hM.c37, hM.c38, hM.c40, hM.c41, hM.c42, hM.c44, q, mb_eq dr, mb_eq (B_of hM _ _), e, m12_spread_p79, m12_spread_p93, m12_spread_p117, m12_spread_p132, Int.add_zero]
    · obtain ⟨z1, z2, z3, z4⟩ := agg_3 (c := c) d
      rw [b2_f d] at dr
      rw [← ih, z1, z2, z3, z4, et, m12_spread_p42]
      simp (config := { maxSteps := 1000000 }) (disch := first | assumption | exact W.i _ _ | exact sLine_i W _ _ _ | exact W1.i _ _ | exact hg _ _ | exact W3.i _ _ | (refine ⟨?_, ?_⟩ <;> omega) | omega | (simp only [sW_1, sW_2, sW_3, sW_4, sW_5, sW_8] <;> first | assumption | omega | (refine ⟨?_, ?_⟩ <;> omega)) | (simp only [sT_1, sT_2, sT_3, sT_4, sT_5, sT_8] <;> first | assumption | omega | (refine ⟨?_, ?_⟩ <;> omega)) | (simp only [List.length_append, List.length_cons, List.length_nil, Nat.reduceAdd] <;> omega)) only [Int.reduceEq, Int.reduceLT, Int.reduceLE, Int.reduceNeg, Int.reduceAdd, Int.reduceSub, Int.reduceMul, if_true, if_false, not_true, not_false_eq_true, false_or, or_false, true_or, or_true, true_and, and_true, false_and, and_false, iI_on, iI_mul, iI_add, iI_sub, iI_neg, ap_if, mp_eq, mz_0, mz_1, mz_b, b2_0, b2_1, iI_lt, iI_le, iI_inj, mb_div, mb_rem, hM.m, hM.a1, hM.a2, hM.a3, hM.a4, hM.a5, hM.a6, hM.a7, hM.a8, hM.a9, hM.a10, hM.a11, hM.a12, hM.a13, hM.a14, hM.a15, hM.a16, hM.a17, hM.a18, hM.a19, hM.a20, hM.a21, hM.a22, hM.a23, hM.a24, hM.a25, hM.a26, hM.a27, hM.a28, hM.l1, hM.l2, hM.l3, hM.l4, hM.l5, hM.l6, hM.l7, hM.l8, hM.l9, hM.l10, hM.l11, hM.l12, hM.l13, hM.l14, hM.l15, hM.l16, hM.l17, hM.l18, hM.l19, hM.l20, hM.l21, hM.l22, hM.l23, hM.l24, hM.l25, hM.l26, hM.l27, hM.l28, hM.c10, hM.c11, hM.c12, hM.c13, hM.c14, hM.c15, hM.c19, hM.c20, hM.c23, hM.c27, hM.c36, hM.c37, hM.c38, hM.c40, hM.c41, hM.c42, hM.c44, q, mb_eq dr, m12_spread_p132, Int.add_zero]
theorem s20_t (W : WD sg) {g : Int → Int} (hg : ∀ j, i32 (g j)) (H : gH) : RT M H sg (mK M (s20 sg g) H) := by
  refine ⟨s20 sg g, fun q j => ?_, ?_⟩
  · unfold s20
    split
    · exact hg j
    · exact W.i q j
  · refine congrArg (fun z => mK M z H) (funext fun q => ?_)
    unfold sT
    by_cases c2 : q = 15 ∨ q = 16 ∨ q = 17 ∨ q = 18 ∨ q = 20
    · rw [if_pos c2]
    · rw [if_neg c2]
      by_cases c3 : q = 0
      · rw [if_pos c3, c3, s20_o (by omega)]
        funext j
        split
        · rename_i c4
          rw [c4]
        · rfl
      · rw [if_neg c3, s20_o (by omega)]
theorem B_spread (hM : OKM M h) (W : WD sg) {c k w : Int} (hc : i32 c) (hk : i32 k) (hw : i32 w) : ∃ s', RT M h sg s' ∧ m12_spread M (iI c) (iI k) (iI w) (mK M sg h) = some (iI (oSpread sg c k w), s') := by
  have n5 := W.n5
  unfold oSpread
  by_cases q : (0 ≤ c ∧ c ≤ 4) ∧ inD k ∧ (0 ≤ w ∧ w ≤ 4)
  · obtain ⟨fu', e1⟩ := R_spr hM W hc hk hw (sg 1 5).toNat FU 0 (by omega) (FU_lt (by omega))
    have ag := agg_b W c k (sg 1 5).toNat (by omega)
    have st : m12_spread M (iI c) (iI k) (iI w) (mK M sg h) = m12_spread_p42 FU M (iI c) (iI k) (iI w) (iI (aN sg c k 0)) (iI (aM sg k 0)) (iI (aO sg c k 0)) (iI (aA sg k 0)) (iI ((0 : Nat) : Int)) (mK M sg h) := by
      have z1 : aN sg c k 0 = 0 := rfl
      have z2 : aM sg k 0 = 0 := rfl
      have z3 : aO sg c k 0 = 0 := rfl
      have z4 : aA sg k 0 = 0 := rfl
      have z5 : ((0 : Nat) : Int) = 0 := rfl
      rw [z1, z2, z3, z4, z5]
      unfold m12_spread
      simp (config := { maxSteps := 1000000 }) (disch := first | assumption | exact W.i _ _ | exact sLine_i W _ _ _ | exact W1.i _ _ | exact hg _ _ | exact W3.i _ _ | (refine ⟨?_, ?_⟩ <;> omega) | omega | (simp only [sW_1, sW_2, sW_3, sW_4, sW_5, sW_8] <;> first | assumption | omega | (refine ⟨?_, ?_⟩ <;> omega)) | (simp only [sT_1, sT_2, sT_3, sT_4, sT_5, sT_8] <;> first | assumption | omega | (refine ⟨?_, ?_⟩ <;> omega)) | (simp only [List.length_append, List.length_cons, List.length_nil, Nat.reduceAdd] <;> omega)) only [Int.reduceEq, Int.reduceLT, Int.reduceLE, Int.reduceNeg, Int.reduceAdd, Int.reduceSub, Int.reduceMul, if_true, if_false, not_true, not_false_eq_true, false_or, or_false, true_or, or_true, true_and, and_true, false_and, and_false, iI_on, iI_mul, iI_add, iI_sub, iI_neg, ap_if, mp_eq, mz_0, mz_1, mz_b, b2_0, b2_1, iI_lt, iI_le, iI_inj, mb_div, mb_rem, hM.m, hM.a1, hM.a2, hM.a3, hM.a4, hM.a5, hM.a6, hM.a7, hM.a8, hM.a9, hM.a10, hM.a11, hM.a12, hM.a13, hM.a14, hM.a15, hM.a16, hM.a17, hM.a18, hM.a19, hM.a20, hM.a21, hM.a22, hM.a23, hM.a24, hM.a25, hM.a26, hM.a27, hM.a28, hM.l1, hM.l2, hM.l3, hM.l4, hM.l5, hM.l6, hM.l7, hM.l8, hM.l9, hM.l10, hM.l11, hM.l12, hM.l13, hM.l14, hM.l15, hM.l16, hM.l17, hM.l18, hM.l19, hM.l20, hM.l21, hM.l22, hM.l23, hM.l24, hM.l25, hM.l26, hM.l27, hM.l28, hM.c10, hM.c11, hM.c12, hM.c13, hM.c14, hM.c15, hM.c19, hM.c20, hM.c23, hM.c27, hM.c36, hM.c37, hM.c38, hM.c40, hM.c41, hM.c42, hM.c44, mb_eq (B_in _ _ _ _), mb_eq (B_isDay _ _), b2_t q.1, b2_t q.2.1, b2_t q.2.2, q.1.1, q.1.2, q.2.1.1, q.2.1.2, q.2.2.1, q.2.2.2]
    rw [st, e1]
    dsimp only
    rw [if_pos q]
    have eA := aM_len W k (sg 1 5).toNat (by omega)
    generalize aN sg c k (sg 1 5).toNat = n at *
    generalize aM sg k (sg 1 5).toNat = m at *
    generalize aO sg c k (sg 1 5).toNat = o at *
    generalize aA sg k (sg 1 5).toNat = a at *
    have i1 : i32 n := ⟨by omega, by omega⟩
    have i2 : i32 m := ⟨by omega, by omega⟩
    have i3 : i32 (m - n) := ⟨by omega, by omega⟩
    have w5 : w = 0 ∨ w = 1 ∨ w = 2 ∨ w = 3 ∨ w = 4 := by omega
    have t5 : sg 1 5 ≤ sg 1 5 := Int.le_refl _
    rw [m12_spread_p42]
    unfold m12_spread_p170 m12_spread_p154
    rcases w5 with rfl | rfl | rfl | rfl | rfl
    · refine ⟨_, RT.self W, ?_⟩
      simp (config := { maxSteps := 1000000 }) (disch := first | assumption | exact W.i _ _ | exact sLine_i W _ _ _ | exact W1.i _ _ | exact hg _ _ | exact W3.i _ _ | (refine ⟨?_, ?_⟩ <;> omega) | omega | (simp only [sW_1, sW_2, sW_3, sW_4, sW_5, sW_8] <;> first | assumption | omega | (refine ⟨?_, ?_⟩ <;> omega)) | (simp only [sT_1, sT_2, sT_3, sT_4, sT_5, sT_8] <;> first | assumption | omega | (refine ⟨?_, ?_⟩ <;> omega)) | (simp only [List.length_append, List.length_cons, List.length_nil, Nat.reduceAdd] <;> omega)) only [Int.reduceEq, Int.reduceLT, Int.reduceLE, Int.reduceNeg, Int.reduceAdd, Int.reduceSub, Int.reduceMul, if_true, if_false, not_true, not_false_eq_true, false_or, or_false, true_or, or_true, true_and, and_true, false_and, and_false, iI_on, iI_mul, iI_add, iI_sub, iI_neg, ap_if, mp_eq, mz_0, mz_1, mz_b, b2_0, b2_1, iI_lt, iI_le, iI_inj, mb_div, mb_rem, hM.m, hM.a1, hM.a2, hM.a3, hM.a4, hM.a5, hM.a6, hM.a7, hM.a8, hM.a9, hM.a10, hM.a11, hM.a12, hM.a13, hM.a14, hM.a15, hM.a16, hM.a17, hM.a18, hM.a19, hM.a20, hM.a21, hM.a22, hM.a23, hM.a24, hM.a25, hM.a26, hM.a27, hM.a28, hM.l1, hM.l2, hM.l3, hM.l4, hM.l5, hM.l6, hM.l7, hM.l8, hM.l9, hM.l10, hM.l11, hM.l12, hM.l13, hM.l14, hM.l15, hM.l16, hM.l17, hM.l18, hM.l19, hM.l20, hM.l21, hM.l22, hM.l23, hM.l24, hM.l25, hM.l26, hM.l27, hM.l28, hM.c10, hM.c11, hM.c12, hM.c13, hM.c14, hM.c15, hM.c19, hM.c20, hM.c23, hM.c27, hM.c36, hM.c37, hM.c38, hM.c40, hM.c41, hM.c42, hM.c44, t5]
    · refine ⟨_, RT.self W, ?_⟩
      simp (config := { maxSteps := 1000000 }) (disch := first | assumption | exact W.i _ _ | exact sLine_i W _ _ _ | exact W1.i _ _ | exact hg _ _ | exact W3.i _ _ | (refine ⟨?_, ?_⟩ <;> omega) | omega | (simp only [sW_1, sW_2, sW_3, sW_4, sW_5, sW_8] <;> first | assumption | omega | (refine ⟨?_, ?_⟩ <;> omega)) | (simp only [sT_1, sT_2, sT_3, sT_4, sT_5, sT_8] <;> first | assumption | omega | (refine ⟨?_, ?_⟩ <;> omega)) | (simp only [List.length_append, List.length_cons, List.length_nil, Nat.reduceAdd] <;> omega)) only [Int.reduceEq, Int.reduceLT, Int.reduceLE, Int.reduceNeg, Int.reduceAdd, Int.reduceSub, Int.reduceMul, if_true, if_false, not_true, not_false_eq_true, false_or, or_false, true_or, or_true, true_and, and_true, false_and, and_false, iI_on, iI_mul, iI_add, iI_sub, iI_neg, ap_if, mp_eq, mz_0, mz_1, mz_b, b2_0, b2_1, iI_lt, iI_le, iI_inj, mb_div, mb_rem, hM.m, hM.a1, hM.a2, hM.a3, hM.a4, hM.a5, hM.a6, hM.a7, hM.a8, hM.a9, hM.a10, hM.a11, hM.a12, hM.a13, hM.a14, hM.a15, hM.a16, hM.a17, hM.a18, hM.a19, hM.a20, hM.a21, hM.a22, hM.a23, hM.a24, hM.a25, hM.a26, hM.a27, hM.a28, hM.l1, hM.l2, hM.l3, hM.l4, hM.l5, hM.l6, hM.l7, hM.l8, hM.l9, hM.l10, hM.l11, hM.l12, hM.l13, hM.l14, hM.l15, hM.l16, hM.l17, hM.l18, hM.l19, hM.l20, hM.l21, hM.l22, hM.l23, hM.l24, hM.l25, hM.l26, hM.l27, hM.l28, hM.c10, hM.c11, hM.c12, hM.c13, hM.c14, hM.c15, hM.c19, hM.c20, hM.c23, hM.c27, hM.c36, hM.c37, hM.c38, hM.c40, hM.c41, hM.c42, hM.c44, t5]
    · refine ⟨_, RT.self W, ?_⟩
      by_cases c1 : n < 2
      · simp (config := { maxSteps := 1000000 }) (disch := first | assumption | exact W.i _ _ | exact sLine_i W _ _ _ | exact W1.i _ _ | exact hg _ _ | exact W3.i _ _ | (refine ⟨?_, ?_⟩ <;> omega) | omega | (simp only [sW_1, sW_2, sW_3, sW_4, sW_5, sW_8] <;> first | assumption | omega | (refine ⟨?_, ?_⟩ <;> omega)) | (simp only [sT_1, sT_2, sT_3, sT_4, sT_5, sT_8] <;> first | assumption | omega | (refine ⟨?_, ?_⟩ <;> omega)) | (simp only [List.length_append, List.length_cons, List.length_nil, Nat.reduceAdd] <;> omega)) only [Int.reduceEq, Int.reduceLT, Int.reduceLE, Int.reduceNeg, Int.reduceAdd, Int.reduceSub, Int.reduceMul, if_true, if_false, not_true, not_false_eq_true, false_or, or_false, true_or, or_true, true_and, and_true, false_and, and_false, iI_on, iI_mul, iI_add, iI_sub, iI_neg, ap_if, mp_eq, mz_0, mz_1, mz_b, b2_0, b2_1, iI_lt, iI_le, iI_inj, mb_div, mb_rem, hM.m, hM.a1, hM.a2, hM.a3, hM.a4, hM.a5, hM.a6, hM.a7, hM.a8, hM.a9, hM.a10, hM.a11, hM.a12, hM.a13, hM.a14, hM.a15, hM.a16, hM.a17, hM.a18, hM.a19, hM.a20, hM.a21, hM.a22, hM.a23, hM.a24, hM.a25, hM.a26, hM.a27, hM.a28, hM.l1, hM.l2, hM.l3, hM.l4, hM.l5, hM.l6, hM.l7, hM.l8, hM.l9, hM.l10, hM.l11, hM.l12, hM.l13, hM.l14, hM.l15, hM.l16, hM.l17, hM.l18, hM.l19, hM.l20, hM.l21, hM.l22, hM.l23, hM.l24, hM.l25, hM.l26, hM.l27, hM.l28, hM.c10, hM.c11, hM.c12, hM.c13, hM.c14, hM.c15, hM.c19, hM.c20, hM.c23, hM.c27, hM.c36, hM.c37, hM.c38, hM.c40, hM.c41, hM.c42, hM.c44, t5, c1]
      · by_cases c2 : 2 ≤ m - n
        · have c3 : ¬ m - n < 2 := by omega
          simp (config := { maxSteps := 1000000 }) (disch := first | assumption | exact W.i _ _ | exact sLine_i W _ _ _ | exact W1.i _ _ | exact hg _ _ | exact W3.i _ _ | (refine ⟨?_, ?_⟩ <;> omega) | omega | (simp only [sW_1, sW_2, sW_3, sW_4, sW_5, sW_8] <;> first | assumption | omega | (refine ⟨?_, ?_⟩ <;> omega)) | (simp only [sT_1, sT_2, sT_3, sT_4, sT_5, sT_8] <;> first | assumption | omega | (refine ⟨?_, ?_⟩ <;> omega)) | (simp only [List.length_append, List.length_cons, List.length_nil, Nat.reduceAdd] <;> omega)) only [Int.reduceEq, Int.reduceLT, Int.reduceLE, Int.reduceNeg, Int.reduceAdd, Int.reduceSub, Int.reduceMul, if_true, if_false, not_true, not_false_eq_true, false_or, or_false, true_or, or_true, true_and, and_true, false_and, and_false, iI_on, iI_mul, iI_add, iI_sub, iI_neg, ap_if, mp_eq, mz_0, mz_1, mz_b, b2_0, b2_1, iI_lt, iI_le, iI_inj, mb_div, mb_rem, hM.m, hM.a1, hM.a2, hM.a3, hM.a4, hM.a5, hM.a6, hM.a7, hM.a8, hM.a9, hM.a10, hM.a11, hM.a12, hM.a13, hM.a14, hM.a15, hM.a16, hM.a17, hM.a18, hM.a19, hM.a20, hM.a21, hM.a22, hM.a23, hM.a24, hM.a25, hM.a26, hM.a27, hM.a28, hM.l1, hM.l2, hM.l3, hM.l4, hM.l5, hM.l6, hM.l7, hM.l8, hM.l9, hM.l10, hM.l11, hM.l12, hM.l13, hM.l14, hM.l15, hM.l16, hM.l17, hM.l18, hM.l19, hM.l20, hM.l21, hM.l22, hM.l23, hM.l24, hM.l25, hM.l26, hM.l27, hM.l28, hM.c10, hM.c11, hM.c12, hM.c13, hM.c14, hM.c15, hM.c19, hM.c20, hM.c23, hM.c27, hM.c36, hM.c37, hM.c38, hM.c40, hM.c41, hM.c42, hM.c44, t5, c1, c2, c3]
        · have c3 : m - n < 2 := by omega
          simp (config := { maxSteps := 1000000 }) (disch := first | assumption | exact W.i _ _ | exact sLine_i W _ _ _ | exact W1.i _ _ | exact hg _ _ | exact W3.i _ _ | (refine ⟨?_, ?_⟩ <;> omega) | omega | (simp only [sW_1, sW_2, sW_3, sW_4, sW_5, sW_8] <;> first | assumption | omega | (refine ⟨?_, ?_⟩ <;> omega)) | (simp only [sT_1, sT_2, sT_3, sT_4, sT_5, sT_8] <;> first | assumption | omega | (refine ⟨?_, ?_⟩ <;> omega)) | (simp only [List.length_append, List.length_cons, List.length_nil, Nat.reduceAdd] <;> omega)) only [Int.reduceEq, Int.reduceLT, Int.reduceLE, Int.reduceNeg, Int.reduceAdd, Int.reduceSub, Int.reduceMul, if_true, if_false, not_true, not_false_eq_true, false_or, or_false, true_or, or_true, true_and, and_true, false_and, and_false, iI_on, iI_mul, iI_add, iI_sub, iI_neg, ap_if, mp_eq, mz_0, mz_1, mz_b, b2_0, b2_1, iI_lt, iI_le, iI_inj, mb_div, mb_rem, hM.m, hM.a1, hM.a2, hM.a3, hM.a4, hM.a5, hM.a6, hM.a7, hM.a8, hM.a9, hM.a10, hM.a11, hM.a12, hM.a13, hM.a14, hM.a15, hM.a16, hM.a17, hM.a18, hM.a19, hM.a20, hM.a21, hM.a22, hM.a23, hM.a24, hM.a25, hM.a26, hM.a27, hM.a28, hM.l1, hM.l2, hM.l3, hM.l4, hM.l5, hM.l6, hM.l7, hM.l8, hM.l9, hM.l10, hM.l11, hM.l12, hM.l13, hM.l14, hM.l15, hM.l16, hM.l17, hM.l18, hM.l19, hM.l20, hM.l21, hM.l22, hM.l23, hM.l24, hM.l25, hM.l26, hM.l27, hM.l28, hM.c10, hM.c11, hM.c12, hM.c13, hM.c14, hM.c15, hM.c19, hM.c20, hM.c23, hM.c27, hM.c36, hM.c37, hM.c38, hM.c40, hM.c41, hM.c42, hM.c44, t5, c1, c2, c3]
    · by_cases c1 : n < 2
      · refine ⟨_, RT.self W, ?_⟩
        simp (config := { maxSteps := 1000000 }) (disch := first | assumption | exact W.i _ _ | exact sLine_i W _ _ _ | exact W1.i _ _ | exact hg _ _ | exact W3.i _ _ | (refine ⟨?_, ?_⟩ <;> omega) | omega | (simp only [sW_1, sW_2, sW_3, sW_4, sW_5, sW_8] <;> first | assumption | omega | (refine ⟨?_, ?_⟩ <;> omega)) | (simp only [sT_1, sT_2, sT_3, sT_4, sT_5, sT_8] <;> first | assumption | omega | (refine ⟨?_, ?_⟩ <;> omega)) | (simp only [List.length_append, List.length_cons, List.length_nil, Nat.reduceAdd] <;> omega)) only [Int.reduceEq, Int.reduceLT, Int.reduceLE, Int.reduceNeg, Int.reduceAdd, Int.reduceSub, Int.reduceMul, if_true, if_false, not_true, not_false_eq_true, false_or, or_false, true_or, or_true, true_and, and_true, false_and, and_false, iI_on, iI_mul, iI_add, iI_sub, iI_neg, ap_if, mp_eq, mz_0, mz_1, mz_b, b2_0, b2_1, iI_lt, iI_le, iI_inj, mb_div, mb_rem, hM.m, hM.a1, hM.a2, hM.a3, hM.a4, hM.a5, hM.a6, hM.a7, hM.a8, hM.a9, hM.a10, hM.a11, hM.a12, hM.a13, hM.a14, hM.a15, hM.a16, hM.a17, hM.a18, hM.a19, hM.a20, hM.a21, hM.a22, hM.a23, hM.a24, hM.a25, hM.a26, hM.a27, hM.a28, hM.l1, hM.l2, hM.l3, hM.l4, hM.l5, hM.l6, hM.l7, hM.l8, hM.l9, hM.l10, hM.l11, hM.l12, hM.l13, hM.l14, hM.l15, hM.l16, hM.l17, hM.l18, hM.l19, hM.l20, hM.l21, hM.l22, hM.l23, hM.l24, hM.l25, hM.l26, hM.l27, hM.l28, hM.c10, hM.c11, hM.c12, hM.c13, hM.c14, hM.c15, hM.c19, hM.c20, hM.c23, hM.c27, hM.c36, hM.c37, hM.c38, hM.c40, hM.c41, hM.c42, hM.c44, t5, c1]
      · by_cases c2 : 2 ≤ m - n
        · have c3 : ¬ m - n < 2 := by omega
          obtain ⟨g', hg', ew⟩ := B_waysOf hM W (N := n) (k := k) (tr := o) ⟨by omega, by omega⟩ hk ⟨by omega, by omega⟩
          refine ⟨_, s20_t W hg' h, ?_⟩
          simp (config := { maxSteps := 1000000 }) (disch := first | assumption | exact W.i _ _ | exact sLine_i W _ _ _ | exact W1.i _ _ | exact hg _ _ | exact W3.i _ _ | (refine ⟨?_, ?_⟩ <;> omega) | omega | (simp only [sW_1, sW_2, sW_3, sW_4, sW_5, sW_8] <;> first | assumption | omega | (refine ⟨?_, ?_⟩ <;> omega)) | (simp only [sT_1, sT_2, sT_3, sT_4, sT_5, sT_8] <;> first | assumption | omega | (refine ⟨?_, ?_⟩ <;> omega)) | (simp only [List.length_append, List.length_cons, List.length_nil, Nat.reduceAdd] <;> omega)) only [Int.reduceEq, Int.reduceLT, Int.reduceLE, Int.reduceNeg, Int.reduceAdd, Int.reduceSub, Int.reduceMul, if_true, if_false, not_true, not_false_eq_true, false_or, or_false, true_or, or_true, true_and, and_true, false_and, and_false, iI_on, iI_mul, iI_add, iI_sub, iI_neg, ap_if, mp_eq, mz_0, mz_1, mz_b, b2_0, b2_1, iI_lt, iI_le, iI_inj, mb_div, mb_rem, hM.m, hM.a1, hM.a2, hM.a3, hM.a4, hM.a5, hM.a6, hM.a7, hM.a8, hM.a9, hM.a10, hM.a11, hM.a12, hM.a13, hM.a14, hM.a15, hM.a16, hM.a17, hM.a18, hM.a19, hM.a20, hM.a21, hM.a22, hM.a23, hM.a24, hM.a25, hM.a26, hM.a27, hM.a28, hM.l1, hM.l2, hM.l3, hM.l4, hM.l5, hM.l6, hM.l7, hM.l8, hM.l9, hM.l10, hM.l11, hM.l12, hM.l13, hM.l14, hM.l15, hM.l16, hM.l17, hM.l18, hM.l19, hM.l20, hM.l21, hM.l22, hM.l23, hM.l24, hM.l25, hM.l26, hM.l27, hM.l28, hM.c10, hM.c11, hM.c12, hM.c13, hM.c14, hM.c15, hM.c19, hM.c20, hM.c23, hM.c27, hM.c36, hM.c37, hM.c38, hM.c40, hM.c41, hM.c42, hM.c44, t5, c1, c2, c3, m12_spread_p215, mb_eq ew]
        · have c3 : m - n < 2 := by omega
          refine ⟨_, RT.self W, ?_⟩
          simp (config := { maxSteps := 1000000 }) (disch := first | assumption | exact W.i _ _ | exact sLine_i W _ _ _ | exact W1.i _ _ | exact hg _ _ | exact W3.i _ _ | (refine ⟨?_, ?_⟩ <;> omega) | omega | (simp only [sW_1, sW_2, sW_3, sW_4, sW_5, sW_8] <;> first | assumption | omega | (refine ⟨?_, ?_⟩ <;> omega)) | (simp only [sT_1, sT_2, sT_3, sT_4, sT_5, sT_8] <;> first | assumption | omega | (refine ⟨?_, ?_⟩ <;> omega)) | (simp only [List.length_append, List.length_cons, List.length_nil, Nat.reduceAdd] <;> omega)) only [Int.reduceEq, Int.reduceLT, Int.reduceLE, Int.reduceNeg, Int.reduceAdd, Int.reduceSub, Int.reduceMul, if_true, if_false, not_true, not_false_eq_true, false_or, or_false, true_or, or_true, true_and, and_true, false_and, and_false, iI_on, iI_mul, iI_add, iI_sub, iI_neg, ap_if, mp_eq, mz_0, mz_1, mz_b, b2_0, b2_1, iI_lt, iI_le, iI_inj, mb_div, mb_rem, hM.m, hM.a1, hM.a2, hM.a3, hM.a4, hM.a5, hM.a6, hM.a7, hM.a8, hM.a9, hM.a10, hM.a11, hM.a12, hM.a13, hM.a14, hM.a15, hM.a16, hM.a17, hM.a18, hM.a19, hM.a20, hM.a21, hM.a22, hM.a23, hM.a24, hM.a25, hM.a26, hM.a27, hM.a28, hM.l1, hM.l2, hM.l3, hM.l4, hM.l5, hM.l6, hM.l7, hM.l8, hM.l9, hM.l10, hM.l11, hM.l12, hM.l13, hM.l14, hM.l15, hM.l16, hM.l17, hM.l18, hM.l19, hM.l20, hM.l21, hM.l22, hM.l23, hM.l24, hM.l25, hM.l26, hM.l27, hM.l28, hM.c10, hM.c11, hM.c12, hM.c13, hM.c14, hM.c15, hM.c19, hM.c20, hM.c23, hM.c27, hM.c36, hM.c37, hM.c38, hM.c40, hM.c41, hM.c42, hM.c44, t5, c1, c2, c3]
    · by_cases c1 : n < 2
      · refine ⟨_, RT.self W, ?_⟩
        simp (config := { maxSteps := 1000000 }) (disch := first | assumption | exact W.i _ _ | exact sLine_i W _ _ _ | exact W1.i _ _ | exact hg _ _ | exact W3.i _ _ | (refine ⟨?_, ?_⟩ <;> omega) | omega | (simp only [sW_1, sW_2, sW_3, sW_4, sW_5, sW_8] <;> first | assumption | omega | (refine ⟨?_, ?_⟩ <;> omega)) | (simp only [sT_1, sT_2, sT_3, sT_4, sT_5, sT_8] <;> first | assumption | omega | (refine ⟨?_, ?_⟩ <;> omega)) | (simp only [List.length_append, List.length_cons, List.length_nil, Nat.reduceAdd] <;> omega)) only [Int.reduceEq, Int.reduceLT, Int.reduceLE, Int.reduceNeg, Int.reduceAdd, Int.reduceSub, Int.reduceMul, if_true, if_false, not_true, not_false_eq_true, false_or, or_false, true_or, or_true, true_and, and_true, false_and, and_false, iI_on, iI_mul, iI_add, iI_sub, iI_neg, ap_if, mp_eq, mz_0, mz_1, mz_b, b2_0, b2_1, iI_lt, iI_le, iI_inj, mb_div, mb_rem, hM.m, hM.a1, hM.a2, hM.a3, hM.a4, hM.a5, hM.a6, hM.a7, hM.a8, hM.a9, hM.a10, hM.a11, hM.a12, hM.a13, hM.a14, hM.a15, hM.a16, hM.a17, hM.a18, hM.a19, hM.a20, hM.a21, hM.a22, hM.a23, hM.a24, hM.a25, hM.a26, hM.a27, hM.a28, hM.l1, hM.l2, hM.l3, hM.l4, hM.l5, hM.l6, hM.l7, hM.l8, hM.l9, hM.l10, hM.l11, hM.l12, hM.l13, hM.l14, hM.l15, hM.l16, hM.l17, hM.l18, hM.l19, hM.l20, hM.l21, hM.l22, hM.l23, hM.l24, hM.l25, hM.l26, hM.l27, hM.l28, hM.c10, hM.c11, hM.c12, hM.c13, hM.c14, hM.c15, hM.c19, hM.c20, hM.c23, hM.c27, hM.c36, hM.c37, hM.c38, hM.c40, hM.c41, hM.c42, hM.c44, t5, c1]
      · by_cases c2 : 2 ≤ m - n
        · have c3 : ¬ m - n < 2 := by omega
          obtain ⟨g', hg', ew⟩ := B_waysOf hM W (N := n) (k := k) (tr := 0) ⟨by omega, by omega⟩ hk ⟨by omega, by omega⟩
          refine ⟨_, s20_t W hg' h, ?_⟩
          simp (config := { maxSteps := 1000000 }) (disch := first | assumption | exact W.i _ _ | exact sLine_i W _ _ _ | exact W1.i _ _ | exact hg _ _ | exact W3.i _ _ | (refine ⟨?_, ?_⟩ <;> omega) | omega | (simp only [sW_1, sW_2, sW_3, sW_4, sW_5, sW_8] <;> first | assumption | omega | (refine ⟨?_, ?_⟩ <;> omega)) | (simp only [sT_1, sT_2, sT_3, sT_4, sT_5, sT_8] <;> first | assumption | omega | (refine ⟨?_, ?_⟩ <;> omega)) | (simp only [List.length_append, List.length_cons, List.length_nil, Nat.reduceAdd] <;> omega)) only [Int.reduceEq, Int.reduceLT, Int.reduceLE, Int.reduceNeg, Int.reduceAdd, Int.reduceSub, Int.reduceMul, if_true, if_false, not_true, not_false_eq_true, false_or, or_false, true_or, or_true, true_and, and_true, false_and, and_false, iI_on, iI_mul, iI_add, iI_sub, iI_neg, ap_if, mp_eq, mz_0, mz_1, mz_b, b2_0, b2_1, iI_lt, iI_le, iI_inj, mb_div, mb_rem, hM.m, hM.a1, hM.a2, hM.a3, hM.a4, hM.a5, hM.a6, hM.a7, hM.a8, hM.a9, hM.a10, hM.a11, hM.a12, hM.a13, hM.a14, hM.a15, hM.a16, hM.a17, hM.a18, hM.a19, hM.a20, hM.a21, hM.a22, hM.a23, hM.a24, hM.a25, hM.a26, hM.a27, hM.a28, hM.l1, hM.l2, hM.l3, hM.l4, hM.l5, hM.l6, hM.l7, hM.l8, hM.l9, hM.l10, hM.l11, hM.l12, hM.l13, hM.l14, hM.l15, hM.l16, hM.l17, hM.l18, hM.l19, hM.l20, hM.l21, hM.l22, hM.l23, hM.l24, hM.l25, hM.l26, hM.l27, hM.l28, hM.c10, hM.c11, hM.c12, hM.c13, hM.c14, hM.c15, hM.c19, hM.c20, hM.c23, hM.c27, hM.c36, hM.c37, hM.c38, hM.c40, hM.c41, hM.c42, hM.c44, t5, c1, c2, c3, m12_spread_p215, mb_eq ew]
        · have c3 : m - n < 2 := by omega
          refine ⟨_, RT.self W, ?_⟩
          simp (config := { maxSteps := 1000000 }) (disch := first | assumption | exact W.i _ _ | exact sLine_i W _ _ _ | exact W1.i _ _ | exact hg _ _ | exact W3.i _ _ | (refine ⟨?_, ?_⟩ <;> omega) | omega | (simp only [sW_1, sW_2, sW_3, sW_4, sW_5, sW_8] <;> first | assumption | omega | (refine ⟨?_, ?_⟩ <;> omega)) | (simp only [sT_1, sT_2, sT_3, sT_4, sT_5, sT_8] <;> first | assumption | omega | (refine ⟨?_, ?_⟩ <;> omega)) | (simp only [List.length_append, List.length_cons, List.length_nil, Nat.reduceAdd] <;> omega)) only [Int.reduceEq, Int.reduceLT, Int.reduceLE, Int.reduceNeg, Int.reduceAdd, Int.reduceSub, Int.reduceMul, if_true, if_false, not_true, not_false_eq_true, false_or, or_false, true_or, or_true, true_and, and_true, false_and, and_false, iI_on, iI_mul, iI_add, iI_sub, iI_neg, ap_if, mp_eq, mz_0, mz_1, mz_b, b2_0, b2_1, iI_lt, iI_le, iI_inj, mb_div, mb_rem, hM.m, hM.a1, hM.a2, hM.a3, hM.a4, hM.a5, hM.a6, hM.a7, hM.a8, hM.a9, hM.a10, hM.a11, hM.a12, hM.a13, hM.a14, hM.a15, hM.a16, hM.a17, hM.a18, hM.a19, hM.a20, hM.a21, hM.a22, hM.a23, hM.a24, hM.a25, hM.a26, hM.a27, hM.a28, hM.l1, hM.l2, hM.l3, hM.l4, hM.l5, hM.l6, hM.l7, hM.l8, hM.l9, hM.l10, hM.l11, hM.l12, hM.l13, hM.l14, hM.l15, hM.l16, hM.l17, hM.l18, hM.l19, hM.l20, hM.l21, hM.l22, hM.l23, hM.l24, hM.l25, hM.l26, hM.l27, hM.l28, hM.c10, hM.c11, hM.c12, hM.c13, hM.c14, hM.c15, hM.c19, hM.c20, hM.c23, hM.c27, hM.c36, hM.c37, hM.c38, hM.c40, hM.c41, hM.c42, hM.c44, t5, c1, c2, c3]
  · refine ⟨_, RT.self W, ?_⟩
    dsimp only
    rw [if_neg q]
    unfold m12_spread m12_spread_p25
    simp (config := { maxSteps := 1000000 }) (disch := first | assumption | exact W.i _ _ | exact sLine_i W _ _ _ | exact W1.i _ _ | exact hg _ _ | exact W3.i _ _ | (refine ⟨?_, ?_⟩ <;> omega) | omega | (simp only [sW_1, sW_2, sW_3, sW_4, sW_5, sW_8] <;> first | assumption | omega | (refine ⟨?_, ?_⟩ <;> omega)) | (simp only [sT_1, sT_2, sT_3, sT_4, sT_5, sT_8] <;> first | assumption | omega | (refine ⟨?_, ?_⟩ <;> omega)) | (simp only [List.length_append, List.length_cons, List.length_nil, Nat.reduceAdd] <;> omega)) only [Int.reduceEq, Int.reduceLT, Int.reduceLE, Int.reduceNeg, Int.reduceAdd, Int.reduceSub, Int.reduceMul, if_true, if_false, not_true, not_false_eq_true, false_or, or_false, true_or, or_true, true_and, and_true, false_and, and_false, iI_on, iI_mul, iI_add, iI_sub, iI_neg, ap_if, mp_eq, mz_0, mz_1, mz_b, b2_0, b2_1, iI_lt, iI_le, iI_inj, mb_div, mb_rem, hM.m, hM.a1, hM.a2, hM.a3, hM.a4, hM.a5, hM.a6, hM.a7, hM.a8, hM.a9, hM.a10, hM.a11, hM.a12, hM.a13, hM.a14, hM.a15, hM.a16, hM.a17, hM.a18, hM.a19, hM.a20, hM.a21, hM.a22, hM.a23, hM.a24, hM.a25, hM.a26, hM.a27, hM.a28, hM.l1, hM.l2, hM.l3, hM.l4, hM.l5, hM.l6, hM.l7, hM.l8, hM.l9, hM.l10, hM.l11, hM.l12, hM.l13, hM.l14, hM.l15, hM.l16, hM.l17, hM.l18, hM.l19, hM.l20, hM.l21, hM.l22, hM.l23, hM.l24, hM.l25, hM.l26, hM.l27, hM.l28, hM.c10, hM.c11, hM.c12, hM.c13, hM.c14, hM.c15, hM.c19, hM.c20, hM.c23, hM.c27, hM.c36, hM.c37, hM.c38, hM.c40, hM.c41, hM.c42, hM.c44, mb_eq (B_in _ _ _ _), mb_eq (B_isDay _ _)]
    (repeat' split) <;> first | with_reducible rfl | omega
/-! the class: the months drawn -/
def s53 (rho : Nat → Int → Int) (g : Int → Int) : Nat → Int → Int := fun q => if q = 53 then g else rho q
theorem s53_o {g : Int → Int} {q : Nat} (hq : q ≠ 53) : s53 rho g q = rho q := by unfold s53; rw [if_neg hq]
theorem s53_at {g : Int → Int} : s53 rho g 53 = g := by unfold s53; rw [if_pos rfl]
theorem s53_s {g : Int → Int} {j v : Int} : s3 (s53 rho g) 53 j v = s53 rho (fun j' => if j' = j then v else g j') := by
  funext q j'
  unfold s3 s53
  by_cases c : q = 53
  · subst c
    simp
  · simp [c]
theorem s53_cS (g : Int → Int) : cS rho (s53 rho g) := fun q j _ _ _ h4 _ => by rw [s53_o h4]
theorem C_isDrawn (R : RDs 1 sg rho h) {r : Nat → Int → Int} {t : Int} (h0 : 0 ≤ t) (h1 : t < sg 1 5) (f : Int32 → gM Int32) : mb (gVk (tP h t) [(7, m8_isDrawn (tP h t)), (2, m2_isDrawn (tP h t))]) f (cK r h) = f (iI (b2 (sg 8 (7 * t + 4) = 1))) (cK r h) := by
  have H := (R.te h0 h1).2.2.1
  by_cases c : sg 8 (7 * t + 4) = 1
  · rw [if_pos c] at H
    rw [b2_t c, vk_miss H (by omega), vk_hit H]
    exact mb_eq rfl
  · rw [if_neg c] at H
    rw [b2_f c, vk_hit H]
    exact mb_eq rfl
/-- what has been drawn so far lies in its row, from the first on -/
def drn (e : Int → Int) (t : Nat) (g : Int → Int) : Prop := (∀ j : Nat, j < (rlD e t).length → g j = (rlD e t).getD ((rlD e t).length - 1 - j) 0) ∧ ∀ j, i32 (g j)
theorem drn_step {e : Int → Int} {t : Nat} {g : Int → Int} (H : drn e t g) (m0 : 0 ≤ e t) (m1 : e t ≤ 240) {a : Int} (ha : a = ((rlD e t).length : Int)) : drn e (t + 1) (fun j => if j = a then e t else g j) := by
  have e3 : rlD e (t + 1) = e t :: rlD e t := if_pos m0
  refine ⟨fun j hj => ?_, fun j => ?_⟩
  · rw [e3] at hj ⊢
    have hj : j < (rlD e t).length + 1 := hj
    have el : (e t :: rlD e t).length - 1 - j = (rlD e t).length - j := by
      show (rlD e t).length + 1 - 1 - j = _
      omega
    show (if (j : Int) = a then e t else g j) = _
    rw [el]
    by_cases c : (j : Int) = a
    · have : (rlD e t).length - j = 0 := by omega
      rw [if_pos c, this]
      rfl
    · have : (rlD e t).length - j = (rlD e t).length - 1 - j + 1 := by omega
      rw [if_neg c, this, H.1 j (by omega)]
      rfl
  · show i32 (if j = a then e t else g j)
    split
    · exact ⟨by omega, by omega⟩
    · exact H.2 j
theorem drn_skip {e : Int → Int} {t : Nat} {g : Int → Int} (H : drn e t g) (m0 : e t < 0) : drn e (t + 1) g := by
  have e3 : rlD e (t + 1) = rlD e t := if_neg (by omega)
  unfold drn
  rw [e3]
  exact H
theorem rlD_len (e : Int → Int) : ∀ t, (rlD e t).length ≤ t
  | 0 => Nat.le_refl 0
  | t + 1 => by
    have := rlD_len e t
    show (if 0 ≤ e t then e t :: rlD e t else rlD e t).length ≤ t + 1
    split
    · exact Nat.succ_le_succ this
    · omega
theorem C_spr (hC : OKC h) (hL : LB h) (R : RDs 1 sg rho h) (W : WD sg) {c k w : Int} (hc : i32 c) (hk : 0 ≤ k ∧ k ≤ 9999) (hw : i32 w) : ∀ (m fu t : Nat) (g : Int → Int), (t : Int) + m = sg 1 5 → drn (drE sg k) t g → m < fu →
    ∃ fu' g', drn (drE sg k) (sg 1 5).toNat g' ∧ m11_spread_p40 fu 0 (iI c) (iI k) (iI w) (iI (aM sg k t)) (iI (aN sg c k t)) (iI (aA sg k t)) (iI (aO sg c k t)) (iI (t : Int)) (cK (s53 rho g) h) = m11_spread_p40 (fu' + 1) 0 (iI c) (iI k) (iI w) (iI (aM sg k (sg 1 5).toNat)) (iI (aN sg c k (sg 1 5).toNat)) (iI (aA sg k (sg 1 5).toNat)) (iI (aO sg c k (sg 1 5).toNat)) (iI (sg 1 5)) (cK (s53 rho g') h)
  | 0, fu + 1, t, g, h0, H, h1 => by
    have e : (sg 1 5).toNat = t := by omega
    have e2 : sg 1 5 = (t : Int) := by omega
    refine ⟨fu, g, by rw [e]; exact H, ?_⟩
    rw [e, e2]
  | m + 1, fu + 1, t, g, h0, H, h1 => by
    have n5 := W.n5
    have q : ¬ sg 1 5 ≤ (t : Int) := by omega
    have nt := W.te t (by omega) (by omega)
    have t0 : (0 : Int) ≤ t := by omega
    have t1 : (t : Int) < sg 1 5 := by omega
    have et : ((t + 1 : Nat) : Int) = (t : Int) + 1 := by omega
    have i32t : i32 (t : Int) := ⟨by omega, by omega⟩
    have R' : RDs 1 sg (s53 rho g) h := R.hs (Or.inl rfl) hL (s53_cS g) (hS.rf _)
    have est := C_stands hC R' W t0 t1 hk
    have ts : mb (gGetI [1] 1 10) = fun f : Int32 → gM Int32 => mb (gGetI [1] 1 10) f := rfl
    have e10 : s53 rho g 1 10 = sg 1 5 := R'.1.2.2.2.2.2.1
    have al := aM_len W k t (by omega)
    have ll := rlD_len (drE sg k) t
    have edr := C_isDrawn R (r := s53 rho g) t0 t1
    by_cases d1 : sg 8 (7 * (t : Int) + 4) = 1
    · rw [b2_t d1] at edr
      by_cases d2 : sStands sg t k
      · have d : drw sg t k := ⟨d1, d2⟩
        have ed : drE sg k t = sg 8 (7 * t + 2) := by unfold drE; rw [if_pos d]
        rw [b2_t d2] at est
        obtain ⟨fu', g', H', ih⟩ := C_spr hC hL R W hc hk hw m fu (t + 1) _ (by omega) (drn_step H (by omega) (by omega) al) (by omega)
        refine ⟨fu', g', H', ?_⟩
        rw [← ih]
        by_cases e : sg 8 (7 * (t : Int) + 1) = c
        · obtain ⟨z1, z2, z3, z4⟩ := agg_1 d e
          rw [z1, z2, z3, z4, et, ← s53_s, m11_spread_p40, ed]
          simp (config := { maxSteps := 1000000 }) (disch := first | assumption | exact W.i _ _ | exact sLine_i W _ _ _ | exact W1.i _ _ | exact hg _ _ | exact W3.i _ _ | (refine ⟨?_, ?_⟩ <;> omega) | omega | (simp only [sW_1, sW_2, sW_3, sW_4, sW_5, sW_8] <;> first | assumption | omega | (refine ⟨?_, ?_⟩ <;> omega)) | (simp only [sT_1, sT_2, sT_3, sT_4, sT_5, sT_8] <;> first | assumption | omega | (refine ⟨?_, ?_⟩ <;> omega)) | (simp only [List.length_append, List.length_cons, List.length_nil, Nat.reduceAdd] <;> omega)) only [Int.reduceEq, Int.reduceLT, Int.reduceLE, Int.reduceNeg, Int.reduceAdd, Int.reduceSub, Int.reduceMul, if_true, if_false, not_true, not_false_eq_true, false_or, or_false, true_or, or_true, true_and, and_true, false_and, and_false, iI_on, iI_mul, iI_add, iI_sub, iI_neg, ap_if, mp_eq, mz_0, mz_1, mz_b, b2_0, b2_1, iI_lt, iI_le, iI_inj, mb_div, mb_rem, hC.g0_0, hC.s1_10, e10, q, hC.g1_11, hC.tl R W t0 t1, edr, hC.m1, mb_eq est, hC.g0_13, R.t1 t0 t1, R.t3 t0 t1, hC.w53, e, m11_spread_p138]
        · obtain ⟨z1, z2, z3, z4⟩ := agg_2 d e
          rw [z1, z2, z3, z4, et, ← s53_s, m11_spread_p40, ed]
          simp (config := { maxSteps := 1000000 }) (disch := first | assumption | exact W.i _ _ | exact sLine_i W _ _ _ | exact W1.i _ _ | exact hg _ _ | exact W3.i _ _ | (refine ⟨?_, ?_⟩ <;> omega) | omega | (simp only [sW_1, sW_2, sW_3, sW_4, sW_5, sW_8] <;> first | assumption | omega | (refine ⟨?_, ?_⟩ <;> omega)) | (simp only [sT_1, sT_2, sT_3, sT_4, sT_5, sT_8] <;> first | assumption | omega | (refine ⟨?_, ?_⟩ <;> omega)) | (simp only [List.length_append, List.length_cons, List.length_nil, Nat.reduceAdd] <;> omega)) only [Int.reduceEq, Int.reduceLT, Int.reduceLE, Int.reduceNeg, Int.reduceAdd, Int.reduceSub, Int.reduceMul, if_true, if_false, not_true, not_false_eq_true, false_or, or_false, true_or, or_true, true_and, and_true, false_and, and_false, iI_on, iI_mul, iI_add, iI_sub, iI_neg, ap_if, mp_eq, mz_0, mz_1, mz_b, b2_0, b2_1, iI_lt, iI_le, iI_inj, mb_div, mb_rem, hC.g0_0, hC.s1_10, e10, q, hC.g1_11, hC.tl R W t0 t1, edr, hC.m1, mb_eq est, hC.g0_13, R.t1 t0 t1, R.t3 t0 t1, hC.w53, e, m11_spread_p138, Int.add_zero]
      · have d : ¬ drw sg t k := fun z => d2 z.2
        have ed : drE sg k t = -1 := by unfold drE; rw [if_neg d]
        rw [b2_f d2] at est
        obtain ⟨fu', g', H', ih⟩ := C_spr hC hL R W hc hk hw m fu (t + 1) g (by omega) (drn_skip H (by omega)) (by omega)
        refine ⟨fu', g', H', ?_⟩
        obtain ⟨z1, z2, z3, z4⟩ := agg_3 (c := c) d
        rw [← ih, z1, z2, z3, z4, et, m11_spread_p40]
        simp (config := { maxSteps := 1000000 }) (disch := first | assumption | exact W.i _ _ | exact sLine_i W _ _ _ | exact W1.i _ _ | exact hg _ _ | exact W3.i _ _ | (refine ⟨?_, ?_⟩ <;> omega) | omega | (simp only [sW_1, sW_2, sW_3, sW_4, sW_5, sW_8] <;> first | assumption | omega | (refine ⟨?_, ?_⟩ <;> omega)) | (simp only [sT_1, sT_2, sT_3, sT_4, sT_5, sT_8] <;> first | assumption | omega | (refine ⟨?_, ?_⟩ <;> omega)) | (simp only [List.length_append, List.length_cons, List.length_nil, Nat.reduceAdd] <;> omega)) only [Int.reduceEq, Int.reduceLT, Int.reduceLE, Int.reduceNeg, Int.reduceAdd, Int.reduceSub, Int.reduceMul, if_true, if_false, not_true, not_false_eq_true, false_or, or_false, true_or, or_true, true_and, and_true, false_and, and_false, iI_on, iI_mul, iI_add, iI_sub, iI_neg, ap_if, mp_eq, mz_0, mz_1, mz_b, b2_0, b2_1, iI_lt, iI_le, iI_inj, mb_div, mb_rem, hC.g0_0, hC.s1_10, e10, q, hC.g1_11, hC.tl R W t0 t1, edr, hC.m1, mb_eq est, m11_spread_p138, Int.add_zero]
    · have d : ¬ drw sg t k := fun z => d1 z.1
      have ed : drE sg k t = -1 := by unfold drE; rw [if_neg d]
      rw [b2_f d1] at edr
      obtain ⟨fu', g', H', ih⟩ := C_spr hC hL R W hc hk hw m fu (t + 1) g (by omega) (drn_skip H (by omega)) (by omega)
      refine ⟨fu', g', H', ?_⟩
      obtain ⟨z1, z2, z3, z4⟩ := agg_3 (c := c) d
      rw [← ih, z1, z2, z3, z4, et, m11_spread_p40]
      simp (config := { maxSteps := 1000000 }) (disch := first | assumption | exact W.i _ _ | exact sLine_i W _ _ _ | exact W1.i _ _ | exact hg _ _ | exact W3.i _ _ | (refine ⟨?_, ?_⟩ <;> omega) | omega | (simp only [sW_1, sW_2, sW_3, sW_4, sW_5, sW_8] <;> first | assumption | omega | (refine ⟨?_, ?_⟩ <;> omega)) | (simp only [sT_1, sT_2, sT_3, sT_4, sT_5, sT_8] <;> first | assumption | omega | (refine ⟨?_, ?_⟩ <;> omega)) | (simp only [List.length_append, List.length_cons, List.length_nil, Nat.reduceAdd] <;> omega)) only [Int.reduceEq, Int.reduceLT, Int.reduceLE, Int.reduceNeg, Int.reduceAdd, Int.reduceSub, Int.reduceMul, if_true, if_false, not_true, not_false_eq_true, false_or, or_false, true_or, or_true, true_and, and_true, false_and, and_false, iI_on, iI_mul, iI_add, iI_sub, iI_neg, ap_if, mp_eq, mz_0, mz_1, mz_b, b2_0, b2_1, iI_lt, iI_le, iI_inj, mb_div, mb_rem, hC.g0_0, hC.s1_10, e10, q, hC.g1_11, hC.tl R W t0 t1, edr, m11_spread_p138, Int.add_zero]
/-! the class: the sums of the halves -/
def s54 (rho : Nat → Int → Int) (g : Int → Int) : Nat → Int → Int := fun q => if q = 54 then g else rho q
theorem s54_o {g : Int → Int} {q : Nat} (hq : q ≠ 54) : s54 rho g q = rho q := by unfold s54; rw [if_neg hq]
theorem s54_at {g : Int → Int} : s54 rho g 54 = g := by unfold s54; rw [if_pos rfl]
theorem s54_s {g : Int → Int} {j v : Int} : s3 (s54 rho g) 54 j v = s54 rho (fun j' => if j' = j then v else g j') := by
  funext q j'
  unfold s3 s54
  by_cases c : q = 54
  · subst c
    simp
  · simp [c]
/-- both tables, below x -/
def hvs (d : Nat → Int) (x : Nat) (g : Int → Int) : Prop := (∀ y : Nat, y < x → g y = bSum d 8 y ∧ g (256 + (y : Int)) = bSum (fun j => d (8 + j)) 8 y) ∧ ∀ j, i32 (g j)
theorem bSum_less8 {d : Nat → Int} {x : Nat} (h0 : 0 < x) (h1 : x < 256) : bSum d 8 x = bSum d 8 (clN x) + d (nLz x) := by
  obtain ⟨_, _, c3, c4, c5⟩ := cl_k ⟨x, h1⟩ h0
  have := bSum_less (d := d) c4 8 (fun j hj => c5 ⟨j, hj⟩) 8 (Nat.le_refl 8)
  rw [if_pos c3] at this
  exact this
theorem bSum_b {d : Nat → Int} (x : Nat) : ∀ m, (∀ j, j < m → 0 ≤ d j ∧ d j ≤ 240) → 0 ≤ bSum d m x ∧ bSum d m x ≤ 240 * (m : Int)
  | 0, _ => by
    show (0 : Int) ≤ 0 ∧ (0 : Int) ≤ 240 * 0
    omega
  | m + 1, h => by
    have := bSum_b x m (fun j hj => h j (by omega))
    have := h m (by omega)
    show 0 ≤ bSum d m x + (if x.testBit m then d m else 0) ∧ bSum d m x + (if x.testBit m then d m else 0) ≤ _
    split <;> omega
theorem hvs_step {d : Nat → Int} {x : Nat} {g : Int → Int} (h0 : 0 < x) (h1 : x < 256) (H : hvs d x g) (hd : ∀ j, 0 ≤ d j ∧ d j ≤ 240) : hvs d (x + 1) (fun j' => if j' = 256 + (x : Int) then g (256 + (clN x : Int)) + d (8 + nLz x) else if j' = (x : Int) then g (clN x) + d (nLz x) else g j') := by
  obtain ⟨_, c2, c3, _, _⟩ := cl_k ⟨x, h1⟩ h0
  have c2 : clN x < x := c2
  have b1 := bSum_less8 (d := d) h0 h1
  have b2' := bSum_less8 (d := fun j => d (8 + j)) h0 h1
  have g1 := H.1 (clN x) c2
  refine ⟨fun y hy => ?_, fun j => ?_⟩
  · by_cases e : y = x
    · subst e
      refine ⟨?_, ?_⟩
      · show (if (y : Int) = 256 + (y : Int) then _ else if (y : Int) = (y : Int) then _ else _) = _
        rw [if_neg (by omega), if_pos rfl, b1, g1.1]
      · show (if 256 + (y : Int) = 256 + (y : Int) then _ else _) = _
        rw [if_pos rfl, b2', g1.2]
    · have g2 := H.1 y (by omega)
      refine ⟨?_, ?_⟩
      · show (if (y : Int) = 256 + (x : Int) then _ else if (y : Int) = (x : Int) then _ else _) = _
        rw [if_neg (by omega), if_neg (by omega), g2.1]
      · show (if 256 + (y : Int) = 256 + (x : Int) then _ else if 256 + (y : Int) = (x : Int) then _ else _) = _
        rw [if_neg (by omega), if_neg (by omega), g2.2]
  · show i32 (if j = 256 + (x : Int) then g (256 + (clN x : Int)) + d (8 + nLz x) else if j = (x : Int) then g (clN x) + d (nLz x) else g j)
    split
    · have q := bSum_b (d := fun j => d (8 + j)) (clN x) 8 (fun j _ => hd (8 + j))
      have := hd (8 + nLz x)
      rw [g1.2]
      exact ⟨by omega, by omega⟩
    · split
      · have q := bSum_b (d := d) (clN x) 8 (fun j _ => hd j)
        have := hd (nLz x)
        rw [g1.1]
        exact ⟨by omega, by omega⟩
      · exact H.2 j
theorem C_half (hC : OKC h) {a : Int} (ha : 0 ≤ a ∧ a ≤ 16) {d : Nat → Int} (hd : ∀ j, 0 ≤ d j ∧ d j ≤ 240) (hd1 : ∀ j : Nat, (j : Int) < a → rho 53 j = d j) (hd2 : ∀ j : Nat, a ≤ (j : Int) → d j = 0) : ∀ (m fu x : Nat) (g : Int → Int), x + m = 256 → 0 < x → hvs d x g → m < fu → ∃ g', hvs d 256 g' ∧ (g' 0 = g 0 ∧ g' 256 = g 256) ∧ m11_fillHalfSums_p2 fu 0 (iI a) (iI (x : Int)) (cK (s54 rho g) h) = some ((), cK (s54 rho g') h)
  | 0, fu + 1, x, g, h0, h1, H, h2 => by
    have e : x = 256 := by omega
    subst e
    refine ⟨g, H, ⟨rfl, rfl⟩, ?_⟩
    have q : (256 : Int) ≤ ((256 : Nat) : Int) := by omega
    rw [m11_fillHalfSums_p2]
    simp (config := { maxSteps := 1000000 }) (disch := first | assumption | exact W.i _ _ | exact sLine_i W _ _ _ | exact W1.i _ _ | exact hg _ _ | exact W3.i _ _ | (refine ⟨?_, ?_⟩ <;> omega) | omega | (simp only [sW_1, sW_2, sW_3, sW_4, sW_5, sW_8] <;> first | assumption | omega | (refine ⟨?_, ?_⟩ <;> omega)) | (simp only [sT_1, sT_2, sT_3, sT_4, sT_5, sT_8] <;> first | assumption | omega | (refine ⟨?_, ?_⟩ <;> omega)) | (simp only [List.length_append, List.length_cons, List.length_nil, Nat.reduceAdd] <;> omega)) only [Int.reduceEq, Int.reduceLT, Int.reduceLE, Int.reduceNeg, Int.reduceAdd, Int.reduceSub, Int.reduceMul, if_true, if_false, not_true, not_false_eq_true, false_or, or_false, true_or, or_true, true_and, and_true, false_and, and_false, iI_on, iI_mul, iI_add, iI_sub, iI_neg, ap_if, mp_eq, mz_0, mz_1, mz_b, b2_0, b2_1, iI_lt, iI_le, iI_inj, mb_div, mb_rem, q]
  | m + 1, fu + 1, x, g, h0, h1, H, h2 => by
    have hx : x < 256 := by omega
    have q : ¬ (256 : Int) ≤ (x : Int) := by omega
    obtain ⟨c1, c2, c3, _, _⟩ := cl_k ⟨x, hx⟩ h1
    have c1 : iI (x : Int) &&& (iI (x : Int) - 1) = iI (clN x : Int) := c1
    have c2 : clN x < x := c2
    have c3 : nLz x < 8 := c3
    have c1' : iI (x : Int) &&& iI ((x : Int) - 1) = iI (clN x : Int) := by
      rw [← c1, iI_1, iI_sub]
    obtain ⟨g', H', ⟨z1, z2⟩, ih⟩ := C_half hC ha hd hd1 hd2 m fu (x + 1) _ (by omega) (by omega) (hvs_step h1 hx H hd) (by omega)
    refine ⟨g', H', ⟨z1.trans ?_, z2.trans ?_⟩, ?_⟩
    · show (if (0 : Int) = 256 + (x : Int) then _ else if (0 : Int) = (x : Int) then _ else g 0) = g 0
      rw [if_neg (by omega), if_neg (by omega)]
    · show (if (256 : Int) = 256 + (x : Int) then _ else if (256 : Int) = (x : Int) then _ else g 256) = g 256
      rw [if_neg (by omega), if_neg (by omega)]
    have et : ((x + 1 : Nat) : Int) = (x : Int) + 1 := by omega
    have r0 : s54 rho g 54 = g := s54_at
    have r1 : s54 rho g 53 = rho 53 := s54_o (by omega)
    have nz := ntz_eq h1 (show x < 65536 by omega) (cK (s54 rho g) h)
    have x0 : (0 : Int) ≤ x := by omega
    have x1 : (x : Int) < 512 := by omega
    have y0 : (0 : Int) ≤ (clN x : Int) := by omega
    have y1 : (clN x : Int) < 512 := by omega
    have w0 : (0 : Int) ≤ 256 + (x : Int) := by omega
    have w1 : 256 + (x : Int) < 512 := by omega
    have v0 : (0 : Int) ≤ 256 + (clN x : Int) := by omega
    have v1 : 256 + (clN x : Int) < 512 := by omega
    have ne1 : 256 + (clN x : Int) ≠ (x : Int) := by omega
    rw [← s54_s, ← s54_s, et] at ih
    rw [← ih, m11_fillHalfSums_p2]
    have k8 : (8 : Int) + (nLz x : Int) = ((8 + nLz x : Nat) : Int) := by omega
    by_cases a1 : a ≤ (nLz x : Int)
    · have a2 : a ≤ (8 : Int) + (nLz x : Int) := by omega
      have e1 := hd2 (nLz x) a1
      have e2 := hd2 (8 + nLz x) (by omega)
      rw [e1, e2]
      simp (config := { maxSteps := 1000000 }) (disch := first | assumption | exact W.i _ _ | exact sLine_i W _ _ _ | exact W1.i _ _ | exact hg _ _ | exact W3.i _ _ | (refine ⟨?_, ?_⟩ <;> omega) | omega | (simp only [sW_1, sW_2, sW_3, sW_4, sW_5, sW_8] <;> first | assumption | omega | (refine ⟨?_, ?_⟩ <;> omega)) | (simp only [sT_1, sT_2, sT_3, sT_4, sT_5, sT_8] <;> first | assumption | omega | (refine ⟨?_, ?_⟩ <;> omega)) | (simp only [List.length_append, List.length_cons, List.length_nil, Nat.reduceAdd] <;> omega)) only [Int.reduceEq, Int.reduceLT, Int.reduceLE, Int.reduceNeg, Int.reduceAdd, Int.reduceSub, Int.reduceMul, if_true, if_false, not_true, not_false_eq_true, false_or, or_false, true_or, or_true, true_and, and_true, false_and, and_false, iI_on, iI_mul, iI_add, iI_sub, iI_neg, ap_if, mp_eq, mz_0, mz_1, mz_b, b2_0, b2_1, iI_lt, iI_le, iI_inj, mb_div, mb_rem, q, mb_eq nz, hC.g0_14, c1', hC.l54, r0, a1, a2, m11_fillHalfSums_p48, m11_fillHalfSums_p91, hC.w54, s3_nj ne1]
    · by_cases a2 : a ≤ (8 : Int) + (nLz x : Int)
      · have e1 := hd1 (nLz x) (by omega)
        have e2 := hd2 (8 + nLz x) (by omega)
        have u1 : (nLz x : Int) < 16 := by omega
        rw [e2, ← e1]
        simp (config := { maxSteps := 1000000 }) (disch := first | assumption | exact W.i _ _ | exact sLine_i W _ _ _ | exact W1.i _ _ | exact hg _ _ | exact W3.i _ _ | (refine ⟨?_, ?_⟩ <;> omega) | omega | (simp only [sW_1, sW_2, sW_3, sW_4, sW_5, sW_8] <;> first | assumption | omega | (refine ⟨?_, ?_⟩ <;> omega)) | (simp only [sT_1, sT_2, sT_3, sT_4, sT_5, sT_8] <;> first | assumption | omega | (refine ⟨?_, ?_⟩ <;> omega)) | (simp only [List.length_append, List.length_cons, List.length_nil, Nat.reduceAdd] <;> omega)) only [Int.reduceEq, Int.reduceLT, Int.reduceLE, Int.reduceNeg, Int.reduceAdd, Int.reduceSub, Int.reduceMul, if_true, if_false, not_true, not_false_eq_true, false_or, or_false, true_or, or_true, true_and, and_true, false_and, and_false, iI_on, iI_mul, iI_add, iI_sub, iI_neg, ap_if, mp_eq, mz_0, mz_1, mz_b, b2_0, b2_1, iI_lt, iI_le, iI_inj, mb_div, mb_rem, q, mb_eq nz, hC.g0_14, hC.g0_13, c1', hC.l54, hC.l53, r0, r1, a1, a2, m11_fillHalfSums_p48, m11_fillHalfSums_p91, hC.w54, s3_nj ne1]
      · have e1 := hd1 (nLz x) (by omega)
        have e2 := hd1 (8 + nLz x) (by omega)
        have u1 : (nLz x : Int) < 16 := by omega
        have u2 : (8 : Int) + (nLz x : Int) < 16 := by omega
        have r2 : s3 (s54 rho g) 54 (x : Int) (g (clN x) + rho 53 (nLz x)) 53 = rho 53 := (s3_o (by omega)).trans r1
        rw [← e1, ← e2, ← k8]
        simp (config := { maxSteps := 1000000 }) (disch := first | assumption | exact W.i _ _ | exact sLine_i W _ _ _ | exact W1.i _ _ | exact hg _ _ | exact W3.i _ _ | (refine ⟨?_, ?_⟩ <;> omega) | omega | (simp only [sW_1, sW_2, sW_3, sW_4, sW_5, sW_8] <;> first | assumption | omega | (refine ⟨?_, ?_⟩ <;> omega)) | (simp only [sT_1, sT_2, sT_3, sT_4, sT_5, sT_8] <;> first | assumption | omega | (refine ⟨?_, ?_⟩ <;> omega)) | (simp only [List.length_append, List.length_cons, List.length_nil, Nat.reduceAdd] <;> omega)) only [Int.reduceEq, Int.reduceLT, Int.reduceLE, Int.reduceNeg, Int.reduceAdd, Int.reduceSub, Int.reduceMul, if_true, if_false, not_true, not_false_eq_true, false_or, or_false, true_or, or_true, true_and, and_true, false_and, and_false, iI_on, iI_mul, iI_add, iI_sub, iI_neg, ap_if, mp_eq, mz_0, mz_1, mz_b, b2_0, b2_1, iI_lt, iI_le, iI_inj, mb_div, mb_rem, q, mb_eq nz, hC.g0_14, hC.g0_13, c1', hC.l54, hC.l53, r0, r1, r2, a1, a2, m11_fillHalfSums_p48, m11_fillHalfSums_p91, hC.w54, s3_nj ne1]
/-- the class runs through all sets -/
theorem C_waysRun (hC : OKC h) {d : Nat → Int} (hd : ∀ j, 0 ≤ d j ∧ d j ≤ 240) {g : Int → Int} (H : hvs d 256 g) {m n : Nat} (hm : m ≤ 16) (hn : n ≤ m) (n1 : 0 < n) {le : Int} (hl : 0 ≤ le ∧ le ≤ 3840) : ∀ (j fu i : Nat), i + j = bC m n → j < fu →
    m11_waysAtLeast_p25 fu 0 (iI le) (iI (sI (fun x => if le ≤ bSum d 16 x then 1 else 0) i (2 ^ n - 1))) (iI (bC m n : Int)) (iI (itNx i (2 ^ n - 1) : Int)) (iI (i : Int)) (cK (s54 rho g) h) = some (iI (sI (fun x => if le ≤ bSum d 16 x then 1 else 0) (bC m n) (2 ^ n - 1)), cK (s54 rho g) h)
  | 0, fu + 1, i, h0, h1 => by
    have e : i = bC m n := by omega
    have b1 := bC_le m n
    have b2' := tw_le hm
    have b3 : (2 : Nat) ^ 16 = 65536 := rfl
    subst e
    have q : (bC m n : Int) ≤ (bC m n : Int) := Int.le_refl _
    rw [m11_waysAtLeast_p25]
    simp (config := { maxSteps := 1000000 }) (disch := first | assumption | exact W.i _ _ | exact sLine_i W _ _ _ | exact W1.i _ _ | exact hg _ _ | exact W3.i _ _ | (refine ⟨?_, ?_⟩ <;> omega) | omega | (simp only [sW_1, sW_2, sW_3, sW_4, sW_5, sW_8] <;> first | assumption | omega | (refine ⟨?_, ?_⟩ <;> omega)) | (simp only [sT_1, sT_2, sT_3, sT_4, sT_5, sT_8] <;> first | assumption | omega | (refine ⟨?_, ?_⟩ <;> omega)) | (simp only [List.length_append, List.length_cons, List.length_nil, Nat.reduceAdd] <;> omega)) only [Int.reduceEq, Int.reduceLT, Int.reduceLE, Int.reduceNeg, Int.reduceAdd, Int.reduceSub, Int.reduceMul, if_true, if_false, not_true, not_false_eq_true, false_or, or_false, true_or, or_true, true_and, and_true, false_and, and_false, iI_on, iI_mul, iI_add, iI_sub, iI_neg, ap_if, mp_eq, mz_0, mz_1, mz_b, b2_0, b2_1, iI_lt, iI_le, iI_inj, mb_div, mb_rem, q]
  | j + 1, fu + 1, i, h0, h1 => by
    have b1 := bC_le m n
    have b2' := tw_le hm
    have b3 : (2 : Nat) ^ 16 = 65536 := rfl
    have q : ¬ (bC m n : Int) ≤ (i : Int) := by omega
    have A := (ch_all m hm n hn).1 i (by omega)
    have ih := C_waysRun hC hd H hm hn n1 hl j fu (i + 1) (by omega) (by omega)
    have eS : sI (fun x => if le ≤ bSum d 16 x then 1 else 0) (i + 1) (2 ^ n - 1) = sI (fun x => if le ≤ bSum d 16 x then 1 else 0) i (2 ^ n - 1) + if le ≤ bSum d 16 (itNx i (2 ^ n - 1)) then 1 else 0 := rfl
    have eN : itNx (i + 1) (2 ^ n - 1) = nXt (itNx i (2 ^ n - 1)) := rfl
    have et : ((i + 1 : Nat) : Int) = (i : Int) + 1 := by omega
    rw [eS, eN, et] at ih
    have x0 := A.2 n1
    have x1 : itNx i (2 ^ n - 1) < 65536 := by omega
    generalize itNx i (2 ^ n - 1) = x at *
    generalize sI (fun x => if le ≤ bSum d 16 x then 1 else 0) i (2 ^ n - 1) = acc at *
    have hb := bSum_half d x
    have p1 := H.1 (x % 256) (by omega)
    have p2 := H.1 (x / 256 % 256) (by omega)
    have r0 : s54 rho g 54 = g := s54_at
    have l8 := low8 x1
    have l8' : iI (x : Int) &&& iI 255 = iI ((x % 256 : Nat) : Int) := l8
    have s8 := shr8 x1
    have s8' : iI (x : Int) >>> (iI 8 &&& iI 31) = iI ((x / 256 : Nat) : Int) := s8
    have l82 : iI ((x / 256 : Nat) : Int) &&& iI 255 = iI ((x / 256 % 256 : Nat) : Int) := low8 (by omega)
    have nx := nextSet_eq x0 x1 (cK (s54 rho g) h)
    have u0 : (0 : Int) ≤ ((x % 256 : Nat) : Int) := by omega
    have u1 : ((x % 256 : Nat) : Int) < 512 := by omega
    have u2 : (0 : Int) ≤ 256 + ((x / 256 % 256 : Nat) : Int) := by omega
    have u3 : 256 + ((x / 256 % 256 : Nat) : Int) < 512 := by omega
    have B1 := bSum_b (d := d) (x % 256) 8 (fun j _ => hd j)
    have B2 := bSum_b (d := fun j => d (8 + j)) (x / 256 % 256) 8 (fun j _ => hd (8 + j))
    have is : i32 (bSum d 8 (x % 256) + bSum (fun j => d (8 + j)) 8 (x / 256 % 256)) := ⟨by omega, by omega⟩
    rw [← ih, m11_waysAtLeast_p25, hb]
    by_cases c : le ≤ bSum d 8 (x % 256) + bSum (fun j => d (8 + j)) 8 (x / 256 % 256)
    · have c' : ¬ bSum d 8 (x % 256) + bSum (fun j => d (8 + j)) 8 (x / 256 % 256) < le := by omega
      rw [if_pos c]
      simp (config := { maxSteps := 1000000 }) (disch := first | assumption | exact W.i _ _ | exact sLine_i W _ _ _ | exact W1.i _ _ | exact hg _ _ | exact W3.i _ _ | (refine ⟨?_, ?_⟩ <;> omega) | omega | (simp only [sW_1, sW_2, sW_3, sW_4, sW_5, sW_8] <;> first | assumption | omega | (refine ⟨?_, ?_⟩ <;> omega)) | (simp only [sT_1, sT_2, sT_3, sT_4, sT_5, sT_8] <;> first | assumption | omega | (refine ⟨?_, ?_⟩ <;> omega)) | (simp only [List.length_append, List.length_cons, List.length_nil, Nat.reduceAdd] <;> omega)) only [Int.reduceEq, Int.reduceLT, Int.reduceLE, Int.reduceNeg, Int.reduceAdd, Int.reduceSub, Int.reduceMul, if_true, if_false, not_true, not_false_eq_true, false_or, or_false, true_or, or_true, true_and, and_true, false_and, and_false, iI_on, iI_mul, iI_add, iI_sub, iI_neg, ap_if, mp_eq, mz_0, mz_1, mz_b, b2_0, b2_1, iI_lt, iI_le, iI_inj, mb_div, mb_rem, q, hC.g0_14, l8', s8', l82, hC.l54, r0, p1.1, p2.2, c', m11_waysAtLeast_p77, mb_eq nx]
    · have c' : bSum d 8 (x % 256) + bSum (fun j => d (8 + j)) 8 (x / 256 % 256) < le := by omega
      rw [if_neg c]
      simp (config := { maxSteps := 1000000 }) (disch := first | assumption | exact W.i _ _ | exact sLine_i W _ _ _ | exact W1.i _ _ | exact hg _ _ | exact W3.i _ _ | (refine ⟨?_, ?_⟩ <;> omega) | omega | (simp only [sW_1, sW_2, sW_3, sW_4, sW_5, sW_8] <;> first | assumption | omega | (refine ⟨?_, ?_⟩ <;> omega)) | (simp only [sT_1, sT_2, sT_3, sT_4, sT_5, sT_8] <;> first | assumption | omega | (refine ⟨?_, ?_⟩ <;> omega)) | (simp only [List.length_append, List.length_cons, List.length_nil, Nat.reduceAdd] <;> omega)) only [Int.reduceEq, Int.reduceLT, Int.reduceLE, Int.reduceNeg, Int.reduceAdd, Int.reduceSub, Int.reduceMul, if_true, if_false, not_true, not_false_eq_true, false_or, or_false, true_or, or_true, true_and, and_true, false_and, and_false, iI_on, iI_mul, iI_add, iI_sub, iI_neg, ap_if, mp_eq, mz_0, mz_1, mz_b, b2_0, b2_1, iI_lt, iI_le, iI_inj, mb_div, mb_rem, q, hC.g0_14, l8', s8', l82, hC.l54, r0, p1.1, p2.2, c', m11_waysAtLeast_p77, mb_eq nx, Int.add_zero]
theorem shl_k : ∀ n : Fin 15, ((1 : Int32) <<< (iI (n.val : Int) &&& 31)) - 1 = iI ((2 ^ n.val - 1 : Nat) : Int) := by decide +kernel
theorem C_waysAtLeast (hC : OKC h) (hg : okG rho) (hz : rho 54 0 = 0 ∧ rho 54 256 = 0) {r : List Int} (hr : ∀ x, x ∈ r → 0 ≤ x ∧ x ≤ 240) (hl : r.length ≤ 16) (hd : ∀ j : Nat, j < r.length → rho 53 j = r.getD (r.length - 1 - j) 0) {n : Nat} (n0 : 2 ≤ n) (n1 : n ≤ 14) (n2 : n ≤ r.length) {le : Int} (h0 : 0 ≤ le ∧ le ≤ 3840) :
    ∃ g', (∀ j, i32 (g' j)) ∧ (g' 0 = 0 ∧ g' 256 = 0) ∧ m11_waysAtLeast 0 (iI (r.length : Int)) (iI (n : Int)) (iI le) (cK rho h) = some (iI (yWay r n le), cK (s54 rho g') h) := by
  have e0 : s54 rho (rho 54) = rho := by
    funext q
    unfold s54
    split
    · rename_i c; rw [c]
    · rfl
  have hdd : ∀ j : Nat, 0 ≤ r.getD j 0 ∧ r.getD j 0 ≤ 240 := fun j => by
    rw [List.getD_eq_getElem?_getD]
    by_cases c : j < r.length
    · rw [List.getElem?_eq_getElem c]
      exact hr _ (List.getElem_mem c)
    · rw [List.getElem?_eq_none (by omega)]
      exact ⟨by decide, by decide⟩
  let d : Nat → Int := fun j => if j < r.length then r.getD (r.length - 1 - j) 0 else 0
  have hd0 : ∀ j, 0 ≤ d j ∧ d j ≤ 240 := fun j => by
    show 0 ≤ (if j < r.length then r.getD (r.length - 1 - j) 0 else 0) ∧ (if j < r.length then r.getD (r.length - 1 - j) 0 else 0) ≤ 240
    split
    · exact hdd _
    · omega
  have hd1 : ∀ j : Nat, (j : Int) < (r.length : Int) → rho 53 j = d j := fun j hj => by
    show _ = if j < r.length then r.getD (r.length - 1 - j) 0 else 0
    rw [if_pos (by omega), hd j (by omega)]
  have hd2 : ∀ j : Nat, (r.length : Int) ≤ (j : Int) → d j = 0 := fun j hj => if_neg (by omega)
  have H1 : hvs d 1 (rho 54) := ⟨fun y hy => by
    have : y = 0 := by omega
    subst this
    rw [bSum_0, bSum_0]
    exact hz, fun j => hg 54 j⟩
  obtain ⟨g', H', z, eh⟩ := C_half (rho := rho) hC (a := (r.length : Int)) ⟨by omega, by omega⟩ hd0 hd1 hd2 255 FU 1 (rho 54) (by omega) (by omega) H1 (FU_lt (by omega))
  rw [e0] at eh
  have eh : m11_fillHalfSums 0 (iI (r.length : Int)) (cK rho h) = some ((), cK (s54 rho g') h) := eh
  refine ⟨g', H'.2, ⟨z.1.trans hz.1, z.2.trans hz.2⟩, ?_⟩
  have run := C_waysRun (rho := rho) hC hd0 H' hl n2 (by omega) h0 (bC r.length n) FU 0 (by omega) (FU_lt (by
    have b1 := bC_le r.length n
    have b2' := tw_le hl
    have b3 : (2 : Nat) ^ 16 = 65536 := rfl
    omega))
  have eG : sI (fun x => if le ≤ bSum d 16 x then 1 else 0) (bC r.length n) (2 ^ n - 1) = yWay r n le := by
    rw [sI_gG r.length hl n _ n2]
    exact gG_way r n le hl (fun j hj => if_pos hj)
  rw [eG] at run
  have ew := C_ways (a := r.length) (c := n) hl n2 (cK (s54 rho g') h)
  have es := shl_k ⟨n, by omega⟩
  have es : ((1 : Int32) <<< (iI (n : Int) &&& 31)) - 1 = iI ((2 ^ n - 1 : Nat) : Int) := es
  rw [← run]
  unfold m11_waysAtLeast
  rw [hC.m0, mb_eq eh, mb_eq ew, es]
  rfl
theorem C_spread (hC : OKC h) (hL : LB h) (R : RDs 1 sg rho h) (W : WD sg) (hg : okG rho) (hz : rho 54 0 = 0 ∧ rho 54 256 = 0) {c k w : Int} (hc : i32 c) (hk : i32 k) (hw : i32 w) : ∃ s', CS rho h s' ∧ m11_spread 0 (iI c) (iI k) (iI w) (cK rho h) = some (iI (oSpread sg c k w), s') := by
  have n5 := W.n5
  unfold oSpread
  by_cases q : (0 ≤ c ∧ c ≤ 4) ∧ inD k ∧ (0 ≤ w ∧ w ≤ 4)
  · have e0 : s53 rho (rho 53) = rho := by
      funext q
      unfold s53
      split
      · rename_i c; rw [c]
      · rfl
    obtain ⟨fu', g, H, e1⟩ := C_spr hC hL R W hc (show 0 ≤ k ∧ k ≤ 9999 from q.2.1) hw (sg 1 5).toNat FU 0 (rho 53) (by omega) ⟨fun j hj => absurd hj (Nat.not_lt_zero _), fun j => hg 53 j⟩ (FU_lt (by omega))
    rw [e0] at e1
    have ag := agg_b W c k (sg 1 5).toNat (by omega)
    have st : m11_spread 0 (iI c) (iI k) (iI w) (cK rho h) = m11_spread_p40 FU 0 (iI c) (iI k) (iI w) (iI (aM sg k 0)) (iI (aN sg c k 0)) (iI (aA sg k 0)) (iI (aO sg c k 0)) (iI ((0 : Nat) : Int)) (cK rho h) := by
      have z1 : aN sg c k 0 = 0 := rfl
      have z2 : aM sg k 0 = 0 := rfl
      have z3 : aO sg c k 0 = 0 := rfl
      have z4 : aA sg k 0 = 0 := rfl
      have z5 : ((0 : Nat) : Int) = 0 := rfl
      have z6 : ¬ w < 0 := by omega
      rw [z1, z2, z3, z4, z5]
      unfold m11_spread
      simp (config := { maxSteps := 1000000 }) (disch := first | assumption | exact W.i _ _ | exact sLine_i W _ _ _ | exact W1.i _ _ | exact hg _ _ | exact W3.i _ _ | (refine ⟨?_, ?_⟩ <;> omega) | omega | (simp only [sW_1, sW_2, sW_3, sW_4, sW_5, sW_8] <;> first | assumption | omega | (refine ⟨?_, ?_⟩ <;> omega)) | (simp only [sT_1, sT_2, sT_3, sT_4, sT_5, sT_8] <;> first | assumption | omega | (refine ⟨?_, ?_⟩ <;> omega)) | (simp only [List.length_append, List.length_cons, List.length_nil, Nat.reduceAdd] <;> omega)) only [Int.reduceEq, Int.reduceLT, Int.reduceLE, Int.reduceNeg, Int.reduceAdd, Int.reduceSub, Int.reduceMul, if_true, if_false, not_true, not_false_eq_true, false_or, or_false, true_or, or_true, true_and, and_true, false_and, and_false, iI_on, iI_mul, iI_add, iI_sub, iI_neg, ap_if, mp_eq, mz_0, mz_1, mz_b, b2_0, b2_1, iI_lt, iI_le, iI_inj, mb_div, mb_rem, mb_eq (C_isCourt _ _), mb_eq (C_isDay _ _), b2_t q.1, b2_t q.2.1, q.1.1, q.1.2, q.2.1.1, q.2.1.2, z6, q.2.2.2]
    rw [st, e1]
    dsimp only
    rw [if_pos q]
    have eA := aM_len W k (sg 1 5).toNat (by omega)
    have hr := rlD_b (e := drE sg k) (sg 1 5).toNat (fun i hi => (drE_b W (by omega) (by omega)).2)
    have gr : okG (s53 rho g) := fun q j => by
      unfold s53
      split
      · exact H.2 j
      · exact hg q j
    have cs0 : CS rho h (cK (s53 rho g) h) := ⟨_, h, s53_cS g, hS.rf _, gr, rfl⟩
    have R' : RDs 1 sg (s53 rho g) h := R.hs (Or.inl rfl) hL (s53_cS g) (hS.rf _)
    have e10 : s53 rho g 1 10 = sg 1 5 := R'.1.2.2.2.2.2.1
    generalize aN sg c k (sg 1 5).toNat = n at *
    generalize aO sg c k (sg 1 5).toNat = o at *
    generalize aA sg k (sg 1 5).toNat = a at *
    have H1 := H.1
    generalize rlD (drE sg k) (sg 1 5).toNat = r at *
    rw [eA] at ag ⊢
    have i1 : i32 n := ⟨by omega, by omega⟩
    have i2 : i32 ((r.length : Nat) : Int) := ⟨by omega, by omega⟩
    have i3 : i32 (((r.length : Nat) : Int) - n) := ⟨by omega, by omega⟩
    have w5 : w = 0 ∨ w = 1 ∨ w = 2 ∨ w = 3 ∨ w = 4 := by omega
    have t5 : sg 1 5 ≤ sg 1 5 := Int.le_refl _
    rw [m11_spread_p40]
    unfold m11_spread_p174 m11_spread_p229
    rcases w5 with rfl | rfl | rfl | rfl | rfl
    · refine ⟨_, cs0, ?_⟩
      simp (config := { maxSteps := 1000000 }) (disch := first | assumption | exact W.i _ _ | exact sLine_i W _ _ _ | exact W1.i _ _ | exact hg _ _ | exact W3.i _ _ | (refine ⟨?_, ?_⟩ <;> omega) | omega | (simp only [sW_1, sW_2, sW_3, sW_4, sW_5, sW_8] <;> first | assumption | omega | (refine ⟨?_, ?_⟩ <;> omega)) | (simp only [sT_1, sT_2, sT_3, sT_4, sT_5, sT_8] <;> first | assumption | omega | (refine ⟨?_, ?_⟩ <;> omega)) | (simp only [List.length_append, List.length_cons, List.length_nil, Nat.reduceAdd] <;> omega)) only [Int.reduceEq, Int.reduceLT, Int.reduceLE, Int.reduceNeg, Int.reduceAdd, Int.reduceSub, Int.reduceMul, if_true, if_false, not_true, not_false_eq_true, false_or, or_false, true_or, or_true, true_and, and_true, false_and, and_false, iI_on, iI_mul, iI_add, iI_sub, iI_neg, ap_if, mp_eq, mz_0, mz_1, mz_b, b2_0, b2_1, iI_lt, iI_le, iI_inj, mb_div, mb_rem, hC.g0_0, hC.s1_10, e10, t5]
    · refine ⟨_, cs0, ?_⟩
      simp (config := { maxSteps := 1000000 }) (disch := first | assumption | exact W.i _ _ | exact sLine_i W _ _ _ | exact W1.i _ _ | exact hg _ _ | exact W3.i _ _ | (refine ⟨?_, ?_⟩ <;> omega) | omega | (simp only [sW_1, sW_2, sW_3, sW_4, sW_5, sW_8] <;> first | assumption | omega | (refine ⟨?_, ?_⟩ <;> omega)) | (simp only [sT_1, sT_2, sT_3, sT_4, sT_5, sT_8] <;> first | assumption | omega | (refine ⟨?_, ?_⟩ <;> omega)) | (simp only [List.length_append, List.length_cons, List.length_nil, Nat.reduceAdd] <;> omega)) only [Int.reduceEq, Int.reduceLT, Int.reduceLE, Int.reduceNeg, Int.reduceAdd, Int.reduceSub, Int.reduceMul, if_true, if_false, not_true, not_false_eq_true, false_or, or_false, true_or, or_true, true_and, and_true, false_and, and_false, iI_on, iI_mul, iI_add, iI_sub, iI_neg, ap_if, mp_eq, mz_0, mz_1, mz_b, b2_0, b2_1, iI_lt, iI_le, iI_inj, mb_div, mb_rem, hC.g0_0, hC.s1_10, e10, t5]
    · refine ⟨_, cs0, ?_⟩
      by_cases c1 : n < 2
      · simp (config := { maxSteps := 1000000 }) (disch := first | assumption | exact W.i _ _ | exact sLine_i W _ _ _ | exact W1.i _ _ | exact hg _ _ | exact W3.i _ _ | (refine ⟨?_, ?_⟩ <;> omega) | omega | (simp only [sW_1, sW_2, sW_3, sW_4, sW_5, sW_8] <;> first | assumption | omega | (refine ⟨?_, ?_⟩ <;> omega)) | (simp only [sT_1, sT_2, sT_3, sT_4, sT_5, sT_8] <;> first | assumption | omega | (refine ⟨?_, ?_⟩ <;> omega)) | (simp only [List.length_append, List.length_cons, List.length_nil, Nat.reduceAdd] <;> omega)) only [Int.reduceEq, Int.reduceLT, Int.reduceLE, Int.reduceNeg, Int.reduceAdd, Int.reduceSub, Int.reduceMul, if_true, if_false, not_true, not_false_eq_true, false_or, or_false, true_or, or_true, true_and, and_true, false_and, and_false, iI_on, iI_mul, iI_add, iI_sub, iI_neg, ap_if, mp_eq, mz_0, mz_1, mz_b, b2_0, b2_1, iI_lt, iI_le, iI_inj, mb_div, mb_rem, hC.g0_0, hC.s1_10, e10, t5, c1]
      · by_cases c2 : 2 ≤ ((r.length : Nat) : Int) - n
        · have c3 : ¬ ((r.length : Nat) : Int) - n < 2 := by omega
          simp (config := { maxSteps := 1000000 }) (disch := first | assumption | exact W.i _ _ | exact sLine_i W _ _ _ | exact W1.i _ _ | exact hg _ _ | exact W3.i _ _ | (refine ⟨?_, ?_⟩ <;> omega) | omega | (simp only [sW_1, sW_2, sW_3, sW_4, sW_5, sW_8] <;> first | assumption | omega | (refine ⟨?_, ?_⟩ <;> omega)) | (simp only [sT_1, sT_2, sT_3, sT_4, sT_5, sT_8] <;> first | assumption | omega | (refine ⟨?_, ?_⟩ <;> omega)) | (simp only [List.length_append, List.length_cons, List.length_nil, Nat.reduceAdd] <;> omega)) only [Int.reduceEq, Int.reduceLT, Int.reduceLE, Int.reduceNeg, Int.reduceAdd, Int.reduceSub, Int.reduceMul, if_true, if_false, not_true, not_false_eq_true, false_or, or_false, true_or, or_true, true_and, and_true, false_and, and_false, iI_on, iI_mul, iI_add, iI_sub, iI_neg, ap_if, mp_eq, mz_0, mz_1, mz_b, b2_0, b2_1, iI_lt, iI_le, iI_inj, mb_div, mb_rem, hC.g0_0, hC.s1_10, e10, t5, c1, c2, c3]
        · have c3 : ((r.length : Nat) : Int) - n < 2 := by omega
          simp (config := { maxSteps := 1000000 }) (disch := first | assumption | exact W.i _ _ | exact sLine_i W _ _ _ | exact W1.i _ _ | exact hg _ _ | exact W3.i _ _ | (refine ⟨?_, ?_⟩ <;> omega) | omega | (simp only [sW_1, sW_2, sW_3, sW_4, sW_5, sW_8] <;> first | assumption | omega | (refine ⟨?_, ?_⟩ <;> omega)) | (simp only [sT_1, sT_2, sT_3, sT_4, sT_5, sT_8] <;> first | assumption | omega | (refine ⟨?_, ?_⟩ <;> omega)) | (simp only [List.length_append, List.length_cons, List.length_nil, Nat.reduceAdd] <;> omega)) only [Int.reduceEq, Int.reduceLT, Int.reduceLE, Int.reduceNeg, Int.reduceAdd, Int.reduceSub, Int.reduceMul, if_true, if_false, not_true, not_false_eq_true, false_or, or_false, true_or, or_true, true_and, and_true, false_and, and_false, iI_on, iI_mul, iI_add, iI_sub, iI_neg, ap_if, mp_eq, mz_0, mz_1, mz_b, b2_0, b2_1, iI_lt, iI_le, iI_inj, mb_div, mb_rem, hC.g0_0, hC.s1_10, e10, t5, c1, c2, c3]
    · by_cases c1 : n < 2
      · refine ⟨_, cs0, ?_⟩
        simp (config := { maxSteps := 1000000 }) (disch := first | assumption | exact W.i _ _ | exact sLine_i W _ _ _ | exact W1.i _ _ | exact hg _ _ | exact W3.i _ _ | (refine ⟨?_, ?_⟩ <;> omega) | omega | (simp only [sW_1, sW_2, sW_3, sW_4, sW_5, sW_8] <;> first | assumption | omega | (refine ⟨?_, ?_⟩ <;> omega)) | (simp only [sT_1, sT_2, sT_3, sT_4, sT_5, sT_8] <;> first | assumption | omega | (refine ⟨?_, ?_⟩ <;> omega)) | (simp only [List.length_append, List.length_cons, List.length_nil, Nat.reduceAdd] <;> omega)) only [Int.reduceEq, Int.reduceLT, Int.reduceLE, Int.reduceNeg, Int.reduceAdd, Int.reduceSub, Int.reduceMul, if_true, if_false, not_true, not_false_eq_true, false_or, or_false, true_or, or_true, true_and, and_true, false_and, and_false, iI_on, iI_mul, iI_add, iI_sub, iI_neg, ap_if, mp_eq, mz_0, mz_1, mz_b, b2_0, b2_1, iI_lt, iI_le, iI_inj, mb_div, mb_rem, hC.g0_0, hC.s1_10, e10, t5, c1]
      · by_cases c2 : 2 ≤ ((r.length : Nat) : Int) - n
        · have c3 : ¬ ((r.length : Nat) : Int) - n < 2 := by omega
          have en : ((n.toNat : Nat) : Int) = n := by omega
          have hz' : s53 rho g 54 0 = 0 ∧ s53 rho g 54 256 = 0 := by rw [s53_o (by omega)]; exact hz
          obtain ⟨g', hg', zz, ew⟩ := C_waysAtLeast (rho := s53 rho g) (h := h) hC gr hz' hr (by omega) (fun j hj => by rw [s53_at]; exact H1 j hj) (n := n.toNat) (by omega) (by omega) (by omega) (le := o) ⟨by omega, by omega⟩
          rw [en] at ew
          have cs1 : CS rho h (cK (s54 (s53 rho g) g') h) := by
            refine ⟨_, h, fun q j h1 h2 h3 h4 h5 => ?_, hS.rf _, fun q j => ?_, rfl⟩
            · by_cases z : q = 54
              · subst z
                rw [s54_at]
                rcases h5 with h5 | h5 | h5
                · exact absurd rfl h5
                · rw [h5, zz.1, hz.1]
                · rw [h5, zz.2, hz.2]
              · rw [s54_o z, s53_o h4]
            · unfold s54
              split
              · exact hg' j
              · exact gr q j
          refine ⟨_, cs1, ?_⟩
          simp (config := { maxSteps := 1000000 }) (disch := first | assumption | exact W.i _ _ | exact sLine_i W _ _ _ | exact W1.i _ _ | exact hg _ _ | exact W3.i _ _ | (refine ⟨?_, ?_⟩ <;> omega) | omega | (simp only [sW_1, sW_2, sW_3, sW_4, sW_5, sW_8] <;> first | assumption | omega | (refine ⟨?_, ?_⟩ <;> omega)) | (simp only [sT_1, sT_2, sT_3, sT_4, sT_5, sT_8] <;> first | assumption | omega | (refine ⟨?_, ?_⟩ <;> omega)) | (simp only [List.length_append, List.length_cons, List.length_nil, Nat.reduceAdd] <;> omega)) only [Int.reduceEq, Int.reduceLT, Int.reduceLE, Int.reduceNeg, Int.reduceAdd, Int.reduceSub, Int.reduceMul, if_true, if_false, not_true, not_false_eq_true, false_or, or_false, true_or, or_true, true_and, and_true, false_and, and_false, iI_on, iI_mul, iI_add, iI_sub, iI_neg, ap_if, mp_eq, mz_0, mz_1, mz_b, b2_0, b2_1, iI_lt, iI_le, iI_inj, mb_div, mb_rem, hC.g0_0, hC.s1_10, e10, t5, c1, c2, c3, hC.m0, mb_eq ew]
        · have c3 : ((r.length : Nat) : Int) - n < 2 := by omega
          refine ⟨_, cs0, ?_⟩
          simp (config := { maxSteps := 1000000 }) (disch := first | assumption | exact W.i _ _ | exact sLine_i W _ _ _ | exact W1.i _ _ | exact hg _ _ | exact W3.i _ _ | (refine ⟨?_, ?_⟩ <;> omega) | omega | (simp only [sW_1, sW_2, sW_3, sW_4, sW_5, sW_8] <;> first | assumption | omega | (refine ⟨?_, ?_⟩ <;> omega)) | (simp only [sT_1, sT_2, sT_3, sT_4, sT_5, sT_8] <;> first | assumption | omega | (refine ⟨?_, ?_⟩ <;> omega)) | (simp only [List.length_append, List.length_cons, List.length_nil, Nat.reduceAdd] <;> omega)) only [Int.reduceEq, Int.reduceLT, Int.reduceLE, Int.reduceNeg, Int.reduceAdd, Int.reduceSub, Int.reduceMul, if_true, if_false, not_true, not_false_eq_true, false_or, or_false, true_or, or_true, true_and, and_true, false_and, and_false, iI_on, iI_mul, iI_add, iI_sub, iI_neg, ap_if, mp_eq, mz_0, mz_1, mz_b, b2_0, b2_1, iI_lt, iI_le, iI_inj, mb_div, mb_rem, hC.g0_0, hC.s1_10, e10, t5, c1, c2, c3]
    · refine ⟨_, cs0, ?_⟩
      by_cases c1 : n < 2
      · simp (config := { maxSteps := 1000000 }) (disch := first | assumption | exact W.i _ _ | exact sLine_i W _ _ _ | exact W1.i _ _ | exact hg _ _ | exact W3.i _ _ | (refine ⟨?_, ?_⟩ <;> omega) | omega | (simp only [sW_1, sW_2, sW_3, sW_4, sW_5, sW_8] <;> first | assumption | omega | (refine ⟨?_, ?_⟩ <;> omega)) | (simp only [sT_1, sT_2, sT_3, sT_4, sT_5, sT_8] <;> first | assumption | omega | (refine ⟨?_, ?_⟩ <;> omega)) | (simp only [List.length_append, List.length_cons, List.length_nil, Nat.reduceAdd] <;> omega)) only [Int.reduceEq, Int.reduceLT, Int.reduceLE, Int.reduceNeg, Int.reduceAdd, Int.reduceSub, Int.reduceMul, if_true, if_false, not_true, not_false_eq_true, false_or, or_false, true_or, or_true, true_and, and_true, false_and, and_false, iI_on, iI_mul, iI_add, iI_sub, iI_neg, ap_if, mp_eq, mz_0, mz_1, mz_b, b2_0, b2_1, iI_lt, iI_le, iI_inj, mb_div, mb_rem, hC.g0_0, hC.s1_10, e10, t5, c1]
      · by_cases c2 : 2 ≤ ((r.length : Nat) : Int) - n
        · have c3 : ¬ ((r.length : Nat) : Int) - n < 2 := by omega
          have en : ((n.toNat : Nat) : Int) = n := by omega
          have ew := C_ways (a := r.length) (c := n.toNat) (by omega) (by omega) (cK (s53 rho g) h)
          rw [en, ← yWay_all r n.toNat 0 (fun x hx => (hr x hx).1) (Int.le_refl 0)] at ew
          simp (config := { maxSteps := 1000000 }) (disch := first | assumption | exact W.i _ _ | exact sLine_i W _ _ _ | exact W1.i _ _ | exact hg _ _ | exact W3.i _ _ | (refine ⟨?_, ?_⟩ <;> omega) | omega | (simp only [sW_1, sW_2, sW_3, sW_4, sW_5, sW_8] <;> first | assumption | omega | (refine ⟨?_, ?_⟩ <;> omega)) | (simp only [sT_1, sT_2, sT_3, sT_4, sT_5, sT_8] <;> first | assumption | omega | (refine ⟨?_, ?_⟩ <;> omega)) | (simp only [List.length_append, List.length_cons, List.length_nil, Nat.reduceAdd] <;> omega)) only [Int.reduceEq, Int.reduceLT, Int.reduceLE, Int.reduceNeg, Int.reduceAdd, Int.reduceSub, Int.reduceMul, if_true, if_false, not_true, not_false_eq_true, false_or, or_false, true_or, or_true, true_and, and_true, false_and, and_false, iI_on, iI_mul, iI_add, iI_sub, iI_neg, ap_if, mp_eq, mz_0, mz_1, mz_b, b2_0, b2_1, iI_lt, iI_le, iI_inj, mb_div, mb_rem, hC.g0_0, hC.s1_10, e10, t5, c1, c2, c3, mb_eq ew]
        · have c3 : ((r.length : Nat) : Int) - n < 2 := by omega
          simp (config := { maxSteps := 1000000 }) (disch := first | assumption | exact W.i _ _ | exact sLine_i W _ _ _ | exact W1.i _ _ | exact hg _ _ | exact W3.i _ _ | (refine ⟨?_, ?_⟩ <;> omega) | omega | (simp only [sW_1, sW_2, sW_3, sW_4, sW_5, sW_8] <;> first | assumption | omega | (refine ⟨?_, ?_⟩ <;> omega)) | (simp only [sT_1, sT_2, sT_3, sT_4, sT_5, sT_8] <;> first | assumption | omega | (refine ⟨?_, ?_⟩ <;> omega)) | (simp only [List.length_append, List.length_cons, List.length_nil, Nat.reduceAdd] <;> omega)) only [Int.reduceEq, Int.reduceLT, Int.reduceLE, Int.reduceNeg, Int.reduceAdd, Int.reduceSub, Int.reduceMul, if_true, if_false, not_true, not_false_eq_true, false_or, or_false, true_or, or_true, true_and, and_true, false_and, and_false, iI_on, iI_mul, iI_add, iI_sub, iI_neg, ap_if, mp_eq, mz_0, mz_1, mz_b, b2_0, b2_1, iI_lt, iI_le, iI_inj, mb_div, mb_rem, hC.g0_0, hC.s1_10, e10, t5, c1, c2, c3]
  · refine ⟨_, CS.self hg, ?_⟩
    dsimp only
    rw [if_neg q]
    unfold m11_spread m11_spread_p23
    simp (config := { maxSteps := 1000000 }) (disch := first | assumption | exact W.i _ _ | exact sLine_i W _ _ _ | exact W1.i _ _ | exact hg _ _ | exact W3.i _ _ | (refine ⟨?_, ?_⟩ <;> omega) | omega | (simp only [sW_1, sW_2, sW_3, sW_4, sW_5, sW_8] <;> first | assumption | omega | (refine ⟨?_, ?_⟩ <;> omega)) | (simp only [sT_1, sT_2, sT_3, sT_4, sT_5, sT_8] <;> first | assumption | omega | (refine ⟨?_, ?_⟩ <;> omega)) | (simp only [List.length_append, List.length_cons, List.length_nil, Nat.reduceAdd] <;> omega)) only [Int.reduceEq, Int.reduceLT, Int.reduceLE, Int.reduceNeg, Int.reduceAdd, Int.reduceSub, Int.reduceMul, if_true, if_false, not_true, not_false_eq_true, false_or, or_false, true_or, or_true, true_and, and_true, false_and, and_false, iI_on, iI_mul, iI_add, iI_sub, iI_neg, ap_if, mp_eq, mz_0, mz_1, mz_b, b2_0, b2_1, iI_lt, iI_le, iI_inj, mb_div, mb_rem, mb_eq (C_isCourt _ _), mb_eq (C_isDay _ _)]
    (repeat' split) <;> first | with_reducible rfl | omega
theorem T_spread (I : Inv sg rho h) {c k w : Int} (hc : i32 c) (hk : i32 k) (hw : i32 w) : Both (m11_spread 0 (iI c) (iI k) (iI w)) (m12_spread 55 (iI c) (iI k) (iI w)) rho h :=
  both_s (r := iI (oSpread sg c k w)) I (C_spread I.1.1 I.1.2.1 I.1.2.2.2.2.1 I.2.1 I.1.2.2.1 I.1.2.2.2.2.2.2.2.2.2.2.2.2 hc hk hw) (fun H hM => B_spread hM I.2.1 hc hk hw)
end SPREAD

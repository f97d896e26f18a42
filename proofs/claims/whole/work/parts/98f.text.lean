/-! ===== a text: its lines ===== -/
/-- the lines of a text: whether it is right, where reading ends, where its lines begin -/
def tX (c : Int → Int) : Nat → Int → Bool × Int × List Int
  | 0, k => if c k = 3000 then (true, k, []) else (false, k, [])
  | n + 1, k => if c k = 3000 then (true, k, []) else if (lnX c k).1 = true then ((tX c n (lnX c k).2).1, (tX c n (lnX c k).2).2.1, k :: (tX c n (lnX c k).2).2.2) else (false, (lnX c k).2, [])
/-- the signs, and the codes, of the lines -/
def lnS (c : Int → Int) : List Int → List Int
  | [] => []
  | k :: ks => (condX c k).2.2.1 ++ lnS c ks
def lnC (c : Int → Int) : List Int → List Int
  | [] => []
  | k :: ks => (condX c k).2.2.2 ++ lnC c ks
/-- the lines' numbers, as the reference has laid them from line l on -/
def LFs (c : Int → Int) (t : Int → Int) : List Int → Int → Int → Prop
  | [], _, _ => True
  | k :: ks, l, n => LR c k ∧ LF c k l n (condX c k).2.2.1.length t ∧ LFs c t ks (l + 1) (n + (condX c k).2.2.1.length)
def LFcs (c : Int → Int) (t : Nat → Int → Int) : List Int → Int → Int → Prop
  | [], _, _ => True
  | k :: ks, l, n => LFc c k l n (n + (condX c k).2.2.2.length) t ∧ LFcs c t ks (l + 1) (n + (condX c k).2.2.2.length)
section TEXT
variable {c : Int → Int} {N k l : Int}
theorem bodyX_b (H : CN c N) {x : Cu} (h0 : 0 ≤ k) (h1 : k < N) (s : Int) : okX N (bodyX c s (k + 1)) ∧ k + 1 ≤ (bodyX c s (k + 1)).2 := by
  have x0 : okX N (true, k + 1) := ⟨by dsimp only; omega, by dsimp only; omega⟩
  have cb := H.2.2 (k + 1 + 2) (by omega)
  unfold bodyX
  split
  · have a := cN_b H (l := 0) (m := 5) (by omega) x0
    have b := cN_b H (l := 0) (m := 9) (by omega) a.1
    exact ⟨b.1, Int.le_trans a.2 b.2⟩
  · split
    · exact cN_b H (l := 0) (m := 90) (by omega) x0
    · split
      · have a := cN_b H (l := 0) (m := 4) (by omega) x0
        have b := cN_b H (l := 0) (m := 3) (by omega) a.1
        have d := cN_b H (l := 0) (m := 240) (by omega) b.1
        have e := cW_b H (v := 1017) (by omega) d.1
        have f := cN_b H (l := c (k + 1 + 2)) (m := 240) (by omega) e.1
        exact ⟨f.1, Int.le_trans a.2 (Int.le_trans b.2 (Int.le_trans d.2 (Int.le_trans e.2 f.2)))⟩
      · split
        · have a := cN_b H (l := 0) (m := 4) (by omega) x0
          have b := cW_b H (v := 1016) (by omega) a.1
          have d := cC_b H b.1
          exact ⟨d.1, Int.le_trans a.2 (Int.le_trans b.2 d.2)⟩
        · split
          · have b := cW_b H (v := 1016) (by omega) x0
            have d := cC_b H b.1
            exact ⟨d.1, Int.le_trans b.2 d.2⟩
          · exact ⟨x0, Int.le_refl _⟩
theorem lnX_b (H : CN c N) (h0 : 0 ≤ k) (h1 : k ≤ N) : (0 ≤ (lnX c k).2 ∧ (lnX c k).2 ≤ N) ∧ k ≤ (lnX c k).2 ∧ ((lnX c k).1 = true → k < N ∧ k < (lnX c k).2) := by
  unfold lnX
  by_cases c1 : 1000 ≤ c k ∧ c k ≤ 1007
  · rw [if_pos c1]
    have kN : k < N := by
      rcases Int.lt_or_le k N with q | q
      · exact q
      · have := H.2.1 _ q; omega
    have a := bodyX_b (x := (true, k)) H h0 kN (c k - 1000)
    have b := cW_b H (v := 2059) (by omega) a.1
    exact ⟨b.1, by omega, fun _ => ⟨kN, by omega⟩⟩
  · rw [if_neg c1]
    exact ⟨⟨h0, h1⟩, Int.le_refl _, fun z => by cases z⟩
/-- a line's condition lies within it -/
theorem condX_b (H : CN c N) (h0 : 0 ≤ k) (h1 : k ≤ N) (hg : (lnX c k).1 = true) : ((condX c k).2.2.1.length : Int) ≤ (lnX c k).2 - k ∧ ((condX c k).2.2.2.length : Int) ≤ (lnX c k).2 - k := by
  have kb := (lnX_b H h0 h1).2.2 hg
  have lr := lnX_t hg
  by_cases c1 : c k = 1004 ∨ c k = 1005
  · have e := lnX_45 c1
    have r1 := lr.2.2.2.2.1 c1
    rw [cN_v r1.1, show k + 1 + 1 = k + 2 by omega, cW_v r1.2, show k + 2 + 1 = k + 3 by omega] at e
    have hc := lr.2.2.2.2.2.2
    have k3 : k + 3 ≤ N := by
      rcases Int.lt_or_le (k + 2) N with q | q
      · omega
      · have := H.2.1 _ q; omega
    have rb := pC_b H 6 0 (k + 3) (by omega) k3
    unfold condX at hc ⊢
    rw [if_pos c1] at hc ⊢
    have ec : cC c (true, k + 3) = (true, (pC c 6 0 (k + 3)).2.1) := by
      unfold cC
      rw [if_pos rfl]
      exact Prod.ext hc rfl
    rw [ec] at e
    have b := (cW_b H (v := 2059) (by omega) (x := (true, (pC c 6 0 (k + 3)).2.1)) ⟨by dsimp only; omega, rb.2.1⟩).2
    rw [← e] at b
    dsimp only at b
    exact ⟨by omega, by omega⟩
  · by_cases c2 : c k = 1006
    · have e := lnX_6 c2
      have r1 := lr.2.2.2.2.2.1 c2
      rw [cW_v r1, show k + 1 + 1 = k + 2 by omega] at e
      have hc := lr.2.2.2.2.2.2
      have k3 : k + 2 ≤ N := by
        rcases Int.lt_or_le (k + 1) N with q | q
        · omega
        · have := H.2.1 _ q; omega
      have rb := pC_b H 6 0 (k + 2) (by omega) k3
      unfold condX at hc ⊢
      rw [if_neg c1, if_pos c2] at hc ⊢
      have ec : cC c (true, k + 2) = (true, (pC c 6 0 (k + 2)).2.1) := by
        unfold cC
        rw [if_pos rfl]
        exact Prod.ext hc rfl
      rw [ec] at e
      have b := (cW_b H (v := 2059) (by omega) (x := (true, (pC c 6 0 (k + 2)).2.1)) ⟨by dsimp only; omega, rb.2.1⟩).2
      rw [← e] at b
      dsimp only at b
      exact ⟨by omega, by omega⟩
    · unfold condX
      rw [if_neg c1, if_neg c2]
      exact ⟨by rw [List.length_nil]; omega, by rw [List.length_nil]; omega⟩
theorem tX_b (H : CN c N) : ∀ (n : Nat) (k : Int), 0 ≤ k → k ≤ N → (0 ≤ (tX c n k).2.1 ∧ (tX c n k).2.1 ≤ N) ∧ (tX c n k).2.2.length ≤ n
  | 0, k, h0, h1 => by
    rw [tX]
    split <;> exact ⟨⟨h0, h1⟩, Nat.le_refl _⟩
  | n + 1, k, h0, h1 => by
    have b := lnX_b H h0 h1
    rw [tX]
    split
    · exact ⟨⟨h0, h1⟩, Nat.zero_le _⟩
    · split
      · have ih := tX_b H n (lnX c k).2 b.1.1 b.1.2
        exact ⟨ih.1, Nat.succ_le_succ ih.2⟩
      · exact ⟨b.1, Nat.zero_le _⟩
theorem LF.fr {n0 n6 : Int} {t t' : Int → Int} (H : LF c k l n0 n6 t) (e : ∀ j, 7 * l ≤ j → j < 7 * l + 7 → t' j = t j) : LF c k l n0 n6 t' := by
  unfold LF at H ⊢
  rw [e (7 * l) (by omega) (by omega), e (7 * l + 1) (by omega) (by omega), e (7 * l + 2) (by omega) (by omega), e (7 * l + 3) (by omega) (by omega), e (7 * l + 4) (by omega) (by omega), e (7 * l + 5) (by omega) (by omega), e (7 * l + 6) (by omega) (by omega)]
  exact H
theorem LFc.fr {n0 n1 : Int} {t t' : Nat → Int → Int} (H : LFc c k l n0 n1 t) (e : t' 30 l = t 30 l ∧ t' 31 l = t 31 l ∧ t' 32 l = t 32 l) (e4 : ∀ j, 4 * l ≤ j → j < 4 * l + 4 → t' 34 j = t 34 j) : LFc c k l n0 n1 t' := by
  unfold LFc at H ⊢
  rw [e.1, e.2.1, e.2.2, e4 (4 * l) (by omega) (by omega), e4 (4 * l + 1) (by omega) (by omega), e4 (4 * l + 2) (by omega) (by omega), e4 (4 * l + 3) (by omega) (by omega)]
  exact H
end TEXT
section RTEXT
variable {M : Nat} {b b0 b' : Nat → Int → Int} {h s : gH} {g : Int → Int} {f k l : Int} {S w : List Int}
/-- what the reference comes to, before it keeps a text or says where it is wrong -/
def TxR (M : Nat) (b : Nat → Int → Int) (h : gH) (n : Nat) (k l : Int) (S : List Int) (r : Option (Int32 × gH)) : Prop := ∃ b' g' f' k' S' w' l', r = m12_read_p46 M (iI l') (mK M (rSt b' g' f' k' S' w') h) ∧ QR g' f' k' S' w' ∧ okG b' ∧ (∀ q, q ≠ 11 → b' q = b q) ∧ (∀ j, j < 7 * l → b' 11 j = b 11 j) ∧ ((tX (CD b) n k).1 = false → f' = pA0 b (tX (CD b) n k).2.1) ∧ ((tX (CD b) n k).1 = true → f' = -1 ∧ S' = S ++ lnS (CD b) (tX (CD b) n k).2.2 ∧ l' = l + (tX (CD b) n k).2.2.length ∧ LFs (CD b) (b' 11) (tX (CD b) n k).2.2 l S.length)
theorem R_text (hM : OKM M h) : ∀ (n : Nat) (fu : Nat) (b : Nat → Int → Int) (g : Int → Int) (k l : Int) (S : List Int), BR b → QR g (-1) k S [] → 0 ≤ l → l + n = 12 → (S.length : Int) ≤ k → k ≤ CT b → n + 1 < fu → TxR M b h n k l S (m12_read_p21 fu M (iI l) (mK M (rSt b g (-1) k S []) h)) := by
  intro n
  induction n with
  | zero =>
    intro fu b g k l S B Q h0 h1 h2 hk h3
    obtain ⟨fu, rfl⟩ : ∃ z, fu = z + 2 := ⟨fu - 2, by omega⟩
    have el : l = 12 := by omega
    subst el
    have ea := R_atEnd (k := k) (h := h) (S := S) (w := []) (g := g) (f := -1) hM B Q
    have q0 := Q.2.2.2.2.1
    unfold TxR
    rw [m12_read_p21]
    by_cases c1 : CD b k = 3000
    · rw [tX, if_pos c1]
      refine ⟨b, g, -1, k, S, [], 12, ?_, Q, B.1, fun _ _ => rfl, fun _ _ => rfl, (fun z => by cases z), fun _ => ⟨rfl, (List.append_nil S).symm, by simp, trivial⟩⟩
      simp (config := { maxSteps := 1000000 }) (disch := first | assumption | exact W.i _ _ | exact sLine_i W _ _ _ | exact W1.i _ _ | exact hg _ _ | exact W3.i _ _ | (refine ⟨?_, ?_⟩ <;> omega) | omega | (simp only [sW_1, sW_2, sW_3, sW_4, sW_5, sW_8] <;> first | assumption | omega | (refine ⟨?_, ?_⟩ <;> omega)) | (simp only [sT_1, sT_2, sT_3, sT_4, sT_5, sT_8] <;> first | assumption | omega | (refine ⟨?_, ?_⟩ <;> omega)) | (simp only [List.length_append, List.length_cons, List.length_nil, Nat.reduceAdd] <;> omega)) only [Int.reduceEq, Int.reduceLT, Int.reduceLE, Int.reduceNeg, Int.reduceAdd, Int.reduceSub, Int.reduceMul, if_true, if_false, not_true, not_false_eq_true, false_or, or_false, true_or, or_true, true_and, and_true, false_and, and_false, iI_on, iI_mul, iI_add, iI_sub, iI_neg, ap_if, mp_eq, mz_0, mz_1, mz_b, b2_0, b2_1, iI_lt, iI_le, iI_inj, mb_div, mb_rem, hM.m, hM.a1, hM.a2, hM.a3, hM.a4, hM.a5, hM.a6, hM.a7, hM.a8, hM.a9, hM.a10, hM.a11, hM.a12, hM.a13, hM.a14, hM.a15, hM.a16, hM.a17, hM.a18, hM.a19, hM.a20, hM.a21, hM.a22, hM.a23, hM.a24, hM.a25, hM.a26, hM.a27, hM.a28, hM.l1, hM.l2, hM.l3, hM.l4, hM.l5, hM.l6, hM.l7, hM.l8, hM.l9, hM.l10, hM.l11, hM.l12, hM.l13, hM.l14, hM.l15, hM.l16, hM.l17, hM.l18, hM.l19, hM.l20, hM.l21, hM.l22, hM.l23, hM.l24, hM.l25, hM.l26, hM.l27, hM.l28, hM.c10, hM.c11, hM.c12, hM.c13, hM.c14, hM.c15, hM.c19, hM.c20, hM.c23, hM.c27, hM.c36, hM.c37, hM.c38, hM.c40, hM.c41, hM.c42, hM.c44, hM.sc 11, rSt_11, ea.mpr c1]
    · rw [tX, if_neg c1]
      have tb := tk_b (b 10) (b 0 10) (pA0 b k)
      have pa := B.a q0
      have e1 := R_isGood (b := b) (h := h) hM Q
      rw [b2_t (by omega)] at e1
      have Q' := Q.fa (pA0_i B q0)
      have e2 := R_isGood (b := b) (h := h) hM Q'
      rw [b2_f (by omega)] at e2
      refine ⟨b, g, pA0 b k, k, S, [], 13, ?_, Q', B.1, fun _ _ => rfl, fun _ _ => rfl, fun _ => rfl, (fun z => by cases z)⟩
      have e0 : ¬ tk (b 10) (b 0 10) (pA0 b k) = 0 := fun q => c1 (ea.mp q)
      simp (config := { maxSteps := 1000000 }) (disch := first | assumption | exact W.i _ _ | exact sLine_i W _ _ _ | exact W1.i _ _ | exact hg _ _ | exact W3.i _ _ | (refine ⟨?_, ?_⟩ <;> omega) | omega | (simp only [sW_1, sW_2, sW_3, sW_4, sW_5, sW_8] <;> first | assumption | omega | (refine ⟨?_, ?_⟩ <;> omega)) | (simp only [sT_1, sT_2, sT_3, sT_4, sT_5, sT_8] <;> first | assumption | omega | (refine ⟨?_, ?_⟩ <;> omega)) | (simp only [List.length_append, List.length_cons, List.length_nil, Nat.reduceAdd] <;> omega)) only [Int.reduceEq, Int.reduceLT, Int.reduceLE, Int.reduceNeg, Int.reduceAdd, Int.reduceSub, Int.reduceMul, if_true, if_false, not_true, not_false_eq_true, false_or, or_false, true_or, or_true, true_and, and_true, false_and, and_false, iI_on, iI_mul, iI_add, iI_sub, iI_neg, ap_if, mp_eq, mz_0, mz_1, mz_b, b2_0, b2_1, iI_lt, iI_le, iI_inj, mb_div, mb_rem, hM.m, hM.a1, hM.a2, hM.a3, hM.a4, hM.a5, hM.a6, hM.a7, hM.a8, hM.a9, hM.a10, hM.a11, hM.a12, hM.a13, hM.a14, hM.a15, hM.a16, hM.a17, hM.a18, hM.a19, hM.a20, hM.a21, hM.a22, hM.a23, hM.a24, hM.a25, hM.a26, hM.a27, hM.a28, hM.l1, hM.l2, hM.l3, hM.l4, hM.l5, hM.l6, hM.l7, hM.l8, hM.l9, hM.l10, hM.l11, hM.l12, hM.l13, hM.l14, hM.l15, hM.l16, hM.l17, hM.l18, hM.l19, hM.l20, hM.l21, hM.l22, hM.l23, hM.l24, hM.l25, hM.l26, hM.l27, hM.l28, hM.c10, hM.c11, hM.c12, hM.c13, hM.c14, hM.c15, hM.c19, hM.c20, hM.c23, hM.c27, hM.c36, hM.c37, hM.c38, hM.c40, hM.c41, hM.c42, hM.c44, hM.sc 11, rSt_11, e0, mb_eq e1, mb_eq (R_line13 hM B Q)]
      rw [m12_read_p21]
      simp (config := { maxSteps := 1000000 }) (disch := first | assumption | exact W.i _ _ | exact sLine_i W _ _ _ | exact W1.i _ _ | exact hg _ _ | exact W3.i _ _ | (refine ⟨?_, ?_⟩ <;> omega) | omega | (simp only [sW_1, sW_2, sW_3, sW_4, sW_5, sW_8] <;> first | assumption | omega | (refine ⟨?_, ?_⟩ <;> omega)) | (simp only [sT_1, sT_2, sT_3, sT_4, sT_5, sT_8] <;> first | assumption | omega | (refine ⟨?_, ?_⟩ <;> omega)) | (simp only [List.length_append, List.length_cons, List.length_nil, Nat.reduceAdd] <;> omega)) only [Int.reduceEq, Int.reduceLT, Int.reduceLE, Int.reduceNeg, Int.reduceAdd, Int.reduceSub, Int.reduceMul, if_true, if_false, not_true, not_false_eq_true, false_or, or_false, true_or, or_true, true_and, and_true, false_and, and_false, iI_on, iI_mul, iI_add, iI_sub, iI_neg, ap_if, mp_eq, mz_0, mz_1, mz_b, b2_0, b2_1, iI_lt, iI_le, iI_inj, mb_div, mb_rem, hM.m, hM.a1, hM.a2, hM.a3, hM.a4, hM.a5, hM.a6, hM.a7, hM.a8, hM.a9, hM.a10, hM.a11, hM.a12, hM.a13, hM.a14, hM.a15, hM.a16, hM.a17, hM.a18, hM.a19, hM.a20, hM.a21, hM.a22, hM.a23, hM.a24, hM.a25, hM.a26, hM.a27, hM.a28, hM.l1, hM.l2, hM.l3, hM.l4, hM.l5, hM.l6, hM.l7, hM.l8, hM.l9, hM.l10, hM.l11, hM.l12, hM.l13, hM.l14, hM.l15, hM.l16, hM.l17, hM.l18, hM.l19, hM.l20, hM.l21, hM.l22, hM.l23, hM.l24, hM.l25, hM.l26, hM.l27, hM.l28, hM.c10, hM.c11, hM.c12, hM.c13, hM.c14, hM.c15, hM.c19, hM.c20, hM.c23, hM.c27, hM.c36, hM.c37, hM.c38, hM.c40, hM.c41, hM.c42, hM.c44, hM.sc 11, rSt_11, e0, mb_eq e2]
  | succ n ih =>
    intro fu b g k l S B Q h0 h1 h2 hk h3
    obtain ⟨fu, rfl⟩ : ∃ z, fu = z + 2 := ⟨fu - 2, by omega⟩
    have ea := R_atEnd (k := k) (h := h) (S := S) (w := []) (g := g) (f := -1) hM B Q
    have q0 := Q.2.2.2.2.1
    have tb := tk_b (b 10) (b 0 10) (pA0 b k)
    have pa := B.a q0
    unfold TxR
    rw [m12_read_p21]
    by_cases c1 : CD b k = 3000
    · rw [tX, if_pos c1]
      refine ⟨b, g, -1, k, S, [], l, ?_, Q, B.1, fun _ _ => rfl, fun _ _ => rfl, (fun z => by cases z), fun _ => ⟨rfl, (List.append_nil S).symm, by simp, trivial⟩⟩
      simp (config := { maxSteps := 1000000 }) (disch := first | assumption | exact W.i _ _ | exact sLine_i W _ _ _ | exact W1.i _ _ | exact hg _ _ | exact W3.i _ _ | (refine ⟨?_, ?_⟩ <;> omega) | omega | (simp only [sW_1, sW_2, sW_3, sW_4, sW_5, sW_8] <;> first | assumption | omega | (refine ⟨?_, ?_⟩ <;> omega)) | (simp only [sT_1, sT_2, sT_3, sT_4, sT_5, sT_8] <;> first | assumption | omega | (refine ⟨?_, ?_⟩ <;> omega)) | (simp only [List.length_append, List.length_cons, List.length_nil, Nat.reduceAdd] <;> omega)) only [Int.reduceEq, Int.reduceLT, Int.reduceLE, Int.reduceNeg, Int.reduceAdd, Int.reduceSub, Int.reduceMul, if_true, if_false, not_true, not_false_eq_true, false_or, or_false, true_or, or_true, true_and, and_true, false_and, and_false, iI_on, iI_mul, iI_add, iI_sub, iI_neg, ap_if, mp_eq, mz_0, mz_1, mz_b, b2_0, b2_1, iI_lt, iI_le, iI_inj, mb_div, mb_rem, hM.m, hM.a1, hM.a2, hM.a3, hM.a4, hM.a5, hM.a6, hM.a7, hM.a8, hM.a9, hM.a10, hM.a11, hM.a12, hM.a13, hM.a14, hM.a15, hM.a16, hM.a17, hM.a18, hM.a19, hM.a20, hM.a21, hM.a22, hM.a23, hM.a24, hM.a25, hM.a26, hM.a27, hM.a28, hM.l1, hM.l2, hM.l3, hM.l4, hM.l5, hM.l6, hM.l7, hM.l8, hM.l9, hM.l10, hM.l11, hM.l12, hM.l13, hM.l14, hM.l15, hM.l16, hM.l17, hM.l18, hM.l19, hM.l20, hM.l21, hM.l22, hM.l23, hM.l24, hM.l25, hM.l26, hM.l27, hM.l28, hM.c10, hM.c11, hM.c12, hM.c13, hM.c14, hM.c15, hM.c19, hM.c20, hM.c23, hM.c27, hM.c36, hM.c37, hM.c38, hM.c40, hM.c41, hM.c42, hM.c44, hM.sc 11, rSt_11, ea.mpr c1]
    · rw [tX, if_neg c1]
      have e0 : ¬ tk (b 10) (b 0 10) (pA0 b k) = 0 := fun q => c1 (ea.mp q)
      have e1 := R_isGood (b := b) (h := h) hM Q
      rw [b2_t (by omega)] at e1
      obtain ⟨s', y1, y2, y3⟩ := R_line (h := h) hM B Q (l := l) ⟨h0, by omega⟩ h2
      have lb := lnX_b B.CN q0 hk
      by_cases c2 : (lnX (CD b) k).1 = true
      · rw [if_pos c2]
        obtain ⟨b1, g1, rfl, Q1, g0, sb, lf⟩ := y2 c2
        have B1 := sb.br B g0
        have cb := condX_b B.CN q0 hk c2
        obtain ⟨b', g', f', k', S', w', l', r1, r2, r3, r4, r5, r6, r7⟩ := ih (fu + 1) b1 g1 (lnX (CD b) k).2 (l + 1) (S ++ (condX (CD b) k).2.2.1) B1 Q1 (by omega) (by omega) (by rw [List.length_append]; omega) (by rw [sb.ct]; exact lb.1.2) (by omega)
        rw [sb.cd] at r6 r7
        rw [sb.pa] at r6
        refine ⟨b', g', f', k', S', w', l', ?_, r2, r3, fun q hq => (r4 q hq).trans (sb.1 q hq), fun j hj => (r5 j (by omega)).trans (sb.2 j (Or.inl hj)), r6, fun z => ?_⟩
        · simp (config := { maxSteps := 1000000 }) (disch := first | assumption | exact W.i _ _ | exact sLine_i W _ _ _ | exact W1.i _ _ | exact hg _ _ | exact W3.i _ _ | (refine ⟨?_, ?_⟩ <;> omega) | omega | (simp only [sW_1, sW_2, sW_3, sW_4, sW_5, sW_8] <;> first | assumption | omega | (refine ⟨?_, ?_⟩ <;> omega)) | (simp only [sT_1, sT_2, sT_3, sT_4, sT_5, sT_8] <;> first | assumption | omega | (refine ⟨?_, ?_⟩ <;> omega)) | (simp only [List.length_append, List.length_cons, List.length_nil, Nat.reduceAdd] <;> omega)) only [Int.reduceEq, Int.reduceLT, Int.reduceLE, Int.reduceNeg, Int.reduceAdd, Int.reduceSub, Int.reduceMul, if_true, if_false, not_true, not_false_eq_true, false_or, or_false, true_or, or_true, true_and, and_true, false_and, and_false, iI_on, iI_mul, iI_add, iI_sub, iI_neg, ap_if, mp_eq, mz_0, mz_1, mz_b, b2_0, b2_1, iI_lt, iI_le, iI_inj, mb_div, mb_rem, hM.m, hM.a1, hM.a2, hM.a3, hM.a4, hM.a5, hM.a6, hM.a7, hM.a8, hM.a9, hM.a10, hM.a11, hM.a12, hM.a13, hM.a14, hM.a15, hM.a16, hM.a17, hM.a18, hM.a19, hM.a20, hM.a21, hM.a22, hM.a23, hM.a24, hM.a25, hM.a26, hM.a27, hM.a28, hM.l1, hM.l2, hM.l3, hM.l4, hM.l5, hM.l6, hM.l7, hM.l8, hM.l9, hM.l10, hM.l11, hM.l12, hM.l13, hM.l14, hM.l15, hM.l16, hM.l17, hM.l18, hM.l19, hM.l20, hM.l21, hM.l22, hM.l23, hM.l24, hM.l25, hM.l26, hM.l27, hM.l28, hM.c10, hM.c11, hM.c12, hM.c13, hM.c14, hM.c15, hM.c19, hM.c20, hM.c23, hM.c27, hM.c36, hM.c37, hM.c38, hM.c40, hM.c41, hM.c42, hM.c44, hM.sc 11, rSt_11, e0, mb_eq e1, mb_eq y1]
          exact r1
        · obtain ⟨a1, a2, a3, a4⟩ := r7 z
          dsimp only
          refine ⟨a1, ?_, ?_, lnX_t c2, lf.fr (fun j j0 j1 => r5 j (by omega)), ?_⟩
          · rw [a2, lnS, List.append_assoc]
          · rw [a3, List.length_cons]; omega
          · rw [List.length_append] at a4
            exact (show ((S.length + (condX (CD b) k).2.2.1.length : Nat) : Int) = (S.length : Int) + ((condX (CD b) k).2.2.1.length : Int) by omega) ▸ a4
      · rw [if_neg c2]
        obtain ⟨b1, g1, k1, S1, w1, rfl, Q1, g0, sb⟩ := y3 (ftn c2)
        have pa2 := B.a lb.1.1
        have e2 := R_isGood (b := b1) (h := h) hM Q1
        rw [b2_f (by omega)] at e2
        have t1 : rSt b1 g1 (pA0 b (lnX (CD b) k).2) k1 S1 w1 0 11 = tk (b1 10) (b1 0 10) (pA0 b1 k1) := rSt_11
        have tb1 := tk_b (b1 10) (b1 0 10) (pA0 b1 k1)
        refine ⟨b1, g1, pA0 b (lnX (CD b) k).2, k1, S1, w1, l + 1, ?_, Q1, g0, fun q hq => sb.1 q hq, fun j hj => sb.2 j (Or.inl hj), fun _ => rfl, (fun z => by cases z)⟩
        simp (config := { maxSteps := 1000000 }) (disch := first | assumption | exact W.i _ _ | exact sLine_i W _ _ _ | exact W1.i _ _ | exact hg _ _ | exact W3.i _ _ | (refine ⟨?_, ?_⟩ <;> omega) | omega | (simp only [sW_1, sW_2, sW_3, sW_4, sW_5, sW_8] <;> first | assumption | omega | (refine ⟨?_, ?_⟩ <;> omega)) | (simp only [sT_1, sT_2, sT_3, sT_4, sT_5, sT_8] <;> first | assumption | omega | (refine ⟨?_, ?_⟩ <;> omega)) | (simp only [List.length_append, List.length_cons, List.length_nil, Nat.reduceAdd] <;> omega)) only [Int.reduceEq, Int.reduceLT, Int.reduceLE, Int.reduceNeg, Int.reduceAdd, Int.reduceSub, Int.reduceMul, if_true, if_false, not_true, not_false_eq_true, false_or, or_false, true_or, or_true, true_and, and_true, false_and, and_false, iI_on, iI_mul, iI_add, iI_sub, iI_neg, ap_if, mp_eq, mz_0, mz_1, mz_b, b2_0, b2_1, iI_lt, iI_le, iI_inj, mb_div, mb_rem, hM.m, hM.a1, hM.a2, hM.a3, hM.a4, hM.a5, hM.a6, hM.a7, hM.a8, hM.a9, hM.a10, hM.a11, hM.a12, hM.a13, hM.a14, hM.a15, hM.a16, hM.a17, hM.a18, hM.a19, hM.a20, hM.a21, hM.a22, hM.a23, hM.a24, hM.a25, hM.a26, hM.a27, hM.a28, hM.l1, hM.l2, hM.l3, hM.l4, hM.l5, hM.l6, hM.l7, hM.l8, hM.l9, hM.l10, hM.l11, hM.l12, hM.l13, hM.l14, hM.l15, hM.l16, hM.l17, hM.l18, hM.l19, hM.l20, hM.l21, hM.l22, hM.l23, hM.l24, hM.l25, hM.l26, hM.l27, hM.l28, hM.c10, hM.c11, hM.c12, hM.c13, hM.c14, hM.c15, hM.c19, hM.c20, hM.c23, hM.c27, hM.c36, hM.c37, hM.c38, hM.c40, hM.c41, hM.c42, hM.c44, hM.sc 11, rSt_11, e0, mb_eq e1, mb_eq y1]
        rw [m12_read_p21]
        by_cases c3 : tk (b1 10) (b1 0 10) (pA0 b1 k1) = 0
        · simp (config := { maxSteps := 1000000 }) (disch := first | assumption | exact W.i _ _ | exact sLine_i W _ _ _ | exact W1.i _ _ | exact hg _ _ | exact W3.i _ _ | (refine ⟨?_, ?_⟩ <;> omega) | omega | (simp only [sW_1, sW_2, sW_3, sW_4, sW_5, sW_8] <;> first | assumption | omega | (refine ⟨?_, ?_⟩ <;> omega)) | (simp only [sT_1, sT_2, sT_3, sT_4, sT_5, sT_8] <;> first | assumption | omega | (refine ⟨?_, ?_⟩ <;> omega)) | (simp only [List.length_append, List.length_cons, List.length_nil, Nat.reduceAdd] <;> omega)) only [Int.reduceEq, Int.reduceLT, Int.reduceLE, Int.reduceNeg, Int.reduceAdd, Int.reduceSub, Int.reduceMul, if_true, if_false, not_true, not_false_eq_true, false_or, or_false, true_or, or_true, true_and, and_true, false_and, and_false, iI_on, iI_mul, iI_add, iI_sub, iI_neg, ap_if, mp_eq, mz_0, mz_1, mz_b, b2_0, b2_1, iI_lt, iI_le, iI_inj, mb_div, mb_rem, hM.m, hM.a1, hM.a2, hM.a3, hM.a4, hM.a5, hM.a6, hM.a7, hM.a8, hM.a9, hM.a10, hM.a11, hM.a12, hM.a13, hM.a14, hM.a15, hM.a16, hM.a17, hM.a18, hM.a19, hM.a20, hM.a21, hM.a22, hM.a23, hM.a24, hM.a25, hM.a26, hM.a27, hM.a28, hM.l1, hM.l2, hM.l3, hM.l4, hM.l5, hM.l6, hM.l7, hM.l8, hM.l9, hM.l10, hM.l11, hM.l12, hM.l13, hM.l14, hM.l15, hM.l16, hM.l17, hM.l18, hM.l19, hM.l20, hM.l21, hM.l22, hM.l23, hM.l24, hM.l25, hM.l26, hM.l27, hM.l28, hM.c10, hM.c11, hM.c12, hM.c13, hM.c14, hM.c15, hM.c19, hM.c20, hM.c23, hM.c27, hM.c36, hM.c37, hM.c38, hM.c40, hM.c41, hM.c42, hM.c44, hM.sc 11, t1, c3]
        · simp (config := { maxSteps := 1000000 }) (disch := first | assumption | exact W.i _ _ | exact sLine_i W _ _ _ | exact W1.i _ _ | exact hg _ _ | exact W3.i _ _ | (refine ⟨?_, ?_⟩ <;> omega) | omega | (simp only [sW_1, sW_2, sW_3, sW_4, sW_5, sW_8] <;> first | assumption | omega | (refine ⟨?_, ?_⟩ <;> omega)) | (simp only [sT_1, sT_2, sT_3, sT_4, sT_5, sT_8] <;> first | assumption | omega | (refine ⟨?_, ?_⟩ <;> omega)) | (simp only [List.length_append, List.length_cons, List.length_nil, Nat.reduceAdd] <;> omega)) only [Int.reduceEq, Int.reduceLT, Int.reduceLE, Int.reduceNeg, Int.reduceAdd, Int.reduceSub, Int.reduceMul, if_true, if_false, not_true, not_false_eq_true, false_or, or_false, true_or, or_true, true_and, and_true, false_and, and_false, iI_on, iI_mul, iI_add, iI_sub, iI_neg, ap_if, mp_eq, mz_0, mz_1, mz_b, b2_0, b2_1, iI_lt, iI_le, iI_inj, mb_div, mb_rem, hM.m, hM.a1, hM.a2, hM.a3, hM.a4, hM.a5, hM.a6, hM.a7, hM.a8, hM.a9, hM.a10, hM.a11, hM.a12, hM.a13, hM.a14, hM.a15, hM.a16, hM.a17, hM.a18, hM.a19, hM.a20, hM.a21, hM.a22, hM.a23, hM.a24, hM.a25, hM.a26, hM.a27, hM.a28, hM.l1, hM.l2, hM.l3, hM.l4, hM.l5, hM.l6, hM.l7, hM.l8, hM.l9, hM.l10, hM.l11, hM.l12, hM.l13, hM.l14, hM.l15, hM.l16, hM.l17, hM.l18, hM.l19, hM.l20, hM.l21, hM.l22, hM.l23, hM.l24, hM.l25, hM.l26, hM.l27, hM.l28, hM.c10, hM.c11, hM.c12, hM.c13, hM.c14, hM.c15, hM.c19, hM.c20, hM.c23, hM.c27, hM.c36, hM.c37, hM.c38, hM.c40, hM.c41, hM.c42, hM.c44, hM.sc 11, t1, c3, mb_eq e2]
end RTEXT

/-! ===== a condition told by its signs: the reference ===== -/
def stk (f : Int → Int) : List Int → Prop
  | [] => True
  | x :: r => f r.length = x ∧ stk f r
theorem stk_c {f g : Int → Int} : ∀ {st : List Int}, (∀ j : Int, 0 ≤ j → j < st.length → f j = g j) → stk f st → stk g st
  | [], _, _ => trivial
  | x :: r, h, hs => by
    have e : ((x :: r).length : Int) = r.length + 1 := by simp
    exact ⟨by rw [← h _ (by omega) (by omega)]; exact hs.1, stk_c (fun j h0 h1 => h j h0 (by omega)) hs.2⟩
theorem rowL_mem (f : Int → Int) : ∀ (m : Nat) (i : Int) (s : Int), s ∈ rowL f m i → ∃ j, i ≤ j ∧ j < i + m ∧ f j = s
  | 0, i, s, h => by cases h
  | m + 1, i, s, h => by
    rcases List.mem_cons.mp h with h | h
    · exact ⟨i, by omega, by omega, h.symm⟩
    · obtain ⟨j, a, b, c⟩ := rowL_mem f m (i + 1) s h
      exact ⟨j, by omega, by omega, c⟩
theorem rowL_in (f : Int → Int) : ∀ (m : Nat) (i j : Int), i ≤ j → j < i + m → f j ∈ rowL f m i
  | 0, i, j, h0, h1 => by omega
  | m + 1, i, j, h0, h1 => by
    by_cases e : j = i
    · subst e; exact List.mem_cons_self
    · exact List.mem_cons_of_mem _ (rowL_in f m (i + 1) j (by omega) (by omega))
section RD4
variable {M : Nat} {sg : Nat → Int → Int} {h : gH}
def sSg (sg : Nat → Int → Int) (v : Int) : Int → Int := fun j => sg 7 (260 * v + j)
/-- the signs of a line -/
def sSigns (sg : Nat → Int → Int) (v l : Int) : List Int := rowL (sSg sg v) (sLine sg v l 6).toNat (sLine sg v l 5)
theorem sEnv_v (W : WD sg) {d k p : Int} (h0 : 0 ≤ d) (h1 : d < sg 1 2) (hp : 0 ≤ p ∧ p ≤ 1000) {s : Int} (hs : (1 ≤ s ∧ s ≤ 17) ∨ (1000 ≤ s ∧ s ≤ 1999)) (hs2 : ¬ s = 7) (hs3 : ¬ jS s) (hs5 : ¬ s = 10) : okV (sEnv sg d k p s) := by
  obtain ⟨a, b, c⟩ := sEnv_ok W h0 h1 hp (k := k)
  by_cases h2 : s ≤ 6
  · rcases a s (by omega) h2 with e | e <;> rw [e] <;> exact ⟨by omega, by omega⟩
  · by_cases h3 : s ≤ 13
    · have := b s (by omega) h3
      exact ⟨by omega, by omega⟩
    · rw [c s (by omega)]
      exact ⟨by omega, by omega⟩
theorem B_holdsL (hM : OKM M h) (W : WD sg) {v l d k p b : Int} (hv0 : 0 ≤ v) (hv1 : v < sg 1 4) (hl0 : 0 ≤ l) (hl1 : l < sg 5 (2 * v)) (h5 : 0 ≤ sLine sg v l 5) (h6 : 0 ≤ sLine sg v l 6) (h56 : sLine sg v l 5 + sLine sg v l 6 ≤ 260)
    (hd0 : 0 ≤ d) (hd1 : d < sg 1 2) (hk : i32 k) (hp : 0 ≤ p ∧ p ≤ 1000) (hsg : ∀ s, s ∈ sSigns sg v l → (1 ≤ s ∧ s ≤ 17 ∧ s ≠ 10) ∨ (1000 ≤ s ∧ s ≤ 1999)) :
    ∀ (m n : Nat) (g : Nat → Int → Int) (i : Int) (st : List Int), okG g → stk (g 15) st → (∀ x, x ∈ st → okV x) → st.length ≤ 16 → xMs (sEnv sg d k p) (rowL (sSg sg v) m i) st = some [b] → sLine sg v l 5 ≤ i → i + m = sLine sg v l 5 + sLine sg v l 6 → m < n →
    ∃ s', RS M h sg s' ∧ m12_holds_p22 n M (iI v) (iI l) (iI d) (iI k) (iI p) (iI (260 * v + sLine sg v l 5)) (iI (st.length : Int)) (iI (260 * v + i)) (mK M (sW sg g) h) = some (iI (b2 (b = 1)), s') := by
  have n4 := W.n4
  have n2 := W.n2
  have nv := W.ve v hv0 hv1
  intro m
  induction m with
  | zero =>
    intro n g i st hg hst hv hlen hx hi him hn
    obtain ⟨n, rfl⟩ : ∃ q, n = q + 1 := ⟨n - 1, by omega⟩
    have W' := W.w hg
    have e : st = [b] := Option.some.inj hx
    subst e
    refine ⟨_, ⟨g, hg, rfl⟩, ?_⟩
    rw [m12_holds_p22]
    have e1 : i = sLine sg v l 5 + sLine sg v l 6 := by omega
    subst e1
    have hb : g 15 0 = b := hst.1
    have hb32 : i32 b := by rw [← hb]; exact hg _ _
    (repeat' (first | simp (config := { maxSteps := 1000000 }) (disch := first | assumption | exact W.i _ _ | exact sLine_i W _ _ _ | exact W1.i _ _ | exact hg _ _ | exact W3.i _ _ | (refine ⟨?_, ?_⟩ <;> omega) | omega | (simp only [sW_1, sW_2, sW_3, sW_4, sW_5, sW_8] <;> first | assumption | omega | (refine ⟨?_, ?_⟩ <;> omega)) | (simp only [sT_1, sT_2, sT_3, sT_4, sT_5, sT_8] <;> first | assumption | omega | (refine ⟨?_, ?_⟩ <;> omega))) only [Int.reduceEq, Int.reduceLT, Int.reduceLE, Int.reduceNeg, Int.reduceAdd, Int.reduceSub, Int.reduceMul, if_true, if_false, not_true, not_false_eq_true, false_or, or_false, true_or, or_true, true_and, and_true, false_and, and_false, iI_on, iI_mul, iI_add, iI_sub, iI_neg, ap_if, mp_eq, mz_0, mz_1, mz_b, b2_0, b2_1, iI_lt, iI_le, iI_inj, mb_div, mb_rem, hM.m, hM.a1, hM.a2, hM.a3, hM.a4, hM.a5, hM.a6, hM.a7, hM.a8, hM.a9, hM.a10, hM.a11, hM.a12, hM.a13, hM.a14, hM.a15, hM.a16, hM.a17, hM.a18, hM.a19, hM.a20, hM.a21, hM.a22, hM.a23, hM.a24, hM.a25, hM.a26, hM.a27, hM.a28, hM.l1, hM.l2, hM.l3, hM.l4, hM.l5, hM.l6, hM.l7, hM.l8, hM.l9, hM.l10, hM.l11, hM.l12, hM.l13, hM.l14, hM.l15, hM.l16, hM.l17, hM.l18, hM.l19, hM.l20, hM.l21, hM.l22, hM.l23, hM.l24, hM.l25, hM.l26, hM.l27, hM.l28, hM.c10, hM.c11, hM.c12, hM.c13, hM.c14, hM.c15, hM.c19, hM.c20, hM.c23, hM.c27, hM.c36, hM.c37, hM.c38, hM.c40, hM.c41, hM.c42, hM.c44, mb_eq (B_ofLine hM _ _), sLine_w, sW_15, hb, m12_holds_p163, W'.i 15 0] | split)) <;> (first | with_reducible rfl | omega | rfl | (subst_vars; rfl) | (simp only [*, Int.add_zero]; done) | (rw [b2_t (by omega)]; done) | (rw [b2_f (by omega)]; done) | (rw [b2_f (by omega), Int.add_zero]))
  | succ m ih =>
    intro n g i st hg hst hv hlen hx hi him hn
    obtain ⟨n, rfl⟩ : ∃ q, n = q + 1 := ⟨n - 1, by omega⟩
    have W' := W.w hg
    have hs : (1 ≤ sSg sg v i ∧ sSg sg v i ≤ 17 ∧ sSg sg v i ≠ 10) ∨ (1000 ≤ sSg sg v i ∧ sSg sg v i ≤ 1999) := hsg _ (rowL_in _ _ _ _ hi (by omega))
    have hx : (match xM (sEnv sg d k p) (sSg sg v i) st with
      | none => none
      | some q => xMs (sEnv sg d k p) (rowL (sSg sg v) m (i + 1)) q) = some [b] := hx
    have e7 : (sW sg g) 7 (260 * v + i) = sSg sg v i := rfl
    rw [m12_holds_p22]
    simp (config := { maxSteps := 1000000 }) (disch := first | assumption | exact W.i _ _ | exact sLine_i W _ _ _ | exact W1.i _ _ | exact hg _ _ | exact W3.i _ _ | (refine ⟨?_, ?_⟩ <;> omega) | omega | (simp only [sW_1, sW_2, sW_3, sW_4, sW_5, sW_8] <;> first | assumption | omega | (refine ⟨?_, ?_⟩ <;> omega)) | (simp only [sT_1, sT_2, sT_3, sT_4, sT_5, sT_8] <;> first | assumption | omega | (refine ⟨?_, ?_⟩ <;> omega))) only [Int.reduceEq, Int.reduceLT, Int.reduceLE, Int.reduceNeg, Int.reduceAdd, Int.reduceSub, Int.reduceMul, if_true, if_false, not_true, not_false_eq_true, false_or, or_false, true_or, or_true, true_and, and_true, false_and, and_false, iI_on, iI_mul, iI_add, iI_sub, iI_neg, ap_if, mp_eq, mz_0, mz_1, mz_b, b2_0, b2_1, iI_lt, iI_le, iI_inj, mb_div, mb_rem, hM.m, hM.a1, hM.a2, hM.a3, hM.a4, hM.a5, hM.a6, hM.a7, hM.a8, hM.a9, hM.a10, hM.a11, hM.a12, hM.a13, hM.a14, hM.a15, hM.a16, hM.a17, hM.a18, hM.a19, hM.a20, hM.a21, hM.a22, hM.a23, hM.a24, hM.a25, hM.a26, hM.a27, hM.a28, hM.l1, hM.l2, hM.l3, hM.l4, hM.l5, hM.l6, hM.l7, hM.l8, hM.l9, hM.l10, hM.l11, hM.l12, hM.l13, hM.l14, hM.l15, hM.l16, hM.l17, hM.l18, hM.l19, hM.l20, hM.l21, hM.l22, hM.l23, hM.l24, hM.l25, hM.l26, hM.l27, hM.l28, hM.c10, hM.c11, hM.c12, hM.c13, hM.c14, hM.c15, hM.c19, hM.c20, hM.c23, hM.c27, hM.c36, hM.c37, hM.c38, hM.c40, hM.c41, hM.c42, hM.c44, mb_eq (B_ofLine hM _ _), sLine_w]
    rw [if_neg (by omega)]
    (try simp (config := { maxSteps := 1000000 }) (disch := first | assumption | exact W.i _ _ | exact sLine_i W _ _ _ | exact W1.i _ _ | exact hg _ _ | exact W3.i _ _ | (refine ⟨?_, ?_⟩ <;> omega) | omega | (simp only [sW_1, sW_2, sW_3, sW_4, sW_5, sW_8] <;> first | assumption | omega | (refine ⟨?_, ?_⟩ <;> omega)) | (simp only [sT_1, sT_2, sT_3, sT_4, sT_5, sT_8] <;> first | assumption | omega | (refine ⟨?_, ?_⟩ <;> omega))) only [Int.reduceEq, Int.reduceLT, Int.reduceLE, Int.reduceNeg, Int.reduceAdd, Int.reduceSub, Int.reduceMul, if_true, if_false, not_true, not_false_eq_true, false_or, or_false, true_or, or_true, true_and, and_true, false_and, and_false, iI_on, iI_mul, iI_add, iI_sub, iI_neg, ap_if, mp_eq, mz_0, mz_1, mz_b, b2_0, b2_1, iI_lt, iI_le, iI_inj, mb_div, mb_rem, hM.m, hM.a1, hM.a2, hM.a3, hM.a4, hM.a5, hM.a6, hM.a7, hM.a8, hM.a9, hM.a10, hM.a11, hM.a12, hM.a13, hM.a14, hM.a15, hM.a16, hM.a17, hM.a18, hM.a19, hM.a20, hM.a21, hM.a22, hM.a23, hM.a24, hM.a25, hM.a26, hM.a27, hM.a28, hM.l1, hM.l2, hM.l3, hM.l4, hM.l5, hM.l6, hM.l7, hM.l8, hM.l9, hM.l10, hM.l11, hM.l12, hM.l13, hM.l14, hM.l15, hM.l16, hM.l17, hM.l18, hM.l19, hM.l20, hM.l21, hM.l22, hM.l23, hM.l24, hM.l25, hM.l26, hM.l27, hM.l28, hM.c10, hM.c11, hM.c12, hM.c13, hM.c14, hM.c15, hM.c19, hM.c20, hM.c23, hM.c27, hM.c36, hM.c37, hM.c38, hM.c40, hM.c41, hM.c42, hM.c44])
    rw [e7]
    generalize hse : sSg sg v i = s at hs hx
    have e2 : 260 * v + i + 1 = 260 * v + (i + 1) := by omega
    unfold xM at hx
    by_cases c7 : s = 7
    · rw [if_pos c7] at hx ⊢
      match st, hst, hv, hlen, hx with
      | [], _, _, _, hx => cases hx
      | a :: r, hst, hv, hlen, hx =>
        have ha := hv a List.mem_cons_self
        have el : ((a :: r).length : Int) = r.length + 1 := by simp
        have el2 : (r.length : Int) + 1 - 1 = r.length := by omega
        dsimp only at hx
        by_cases c : a = 0 ∨ a = 1
        · rw [if_pos c] at hx
          have hr : r.length + 1 ≤ 16 := hlen
          have hb : g 15 (r.length : Int) = a := hst.1
          rw [el]
          simp (config := { maxSteps := 1000000 }) (disch := first | assumption | exact W.i _ _ | exact sLine_i W _ _ _ | exact W1.i _ _ | exact hg _ _ | exact W3.i _ _ | (refine ⟨?_, ?_⟩ <;> omega) | omega | (simp only [sW_1, sW_2, sW_3, sW_4, sW_5, sW_8] <;> first | assumption | omega | (refine ⟨?_, ?_⟩ <;> omega)) | (simp only [sT_1, sT_2, sT_3, sT_4, sT_5, sT_8] <;> first | assumption | omega | (refine ⟨?_, ?_⟩ <;> omega))) only [Int.reduceEq, Int.reduceLT, Int.reduceLE, Int.reduceNeg, Int.reduceAdd, Int.reduceSub, Int.reduceMul, if_true, if_false, not_true, not_false_eq_true, false_or, or_false, true_or, or_true, true_and, and_true, false_and, and_false, iI_on, iI_mul, iI_add, iI_sub, iI_neg, ap_if, mp_eq, mz_0, mz_1, mz_b, b2_0, b2_1, iI_lt, iI_le, iI_inj, mb_div, mb_rem, hM.m, hM.a1, hM.a2, hM.a3, hM.a4, hM.a5, hM.a6, hM.a7, hM.a8, hM.a9, hM.a10, hM.a11, hM.a12, hM.a13, hM.a14, hM.a15, hM.a16, hM.a17, hM.a18, hM.a19, hM.a20, hM.a21, hM.a22, hM.a23, hM.a24, hM.a25, hM.a26, hM.a27, hM.a28, hM.l1, hM.l2, hM.l3, hM.l4, hM.l5, hM.l6, hM.l7, hM.l8, hM.l9, hM.l10, hM.l11, hM.l12, hM.l13, hM.l14, hM.l15, hM.l16, hM.l17, hM.l18, hM.l19, hM.l20, hM.l21, hM.l22, hM.l23, hM.l24, hM.l25, hM.l26, hM.l27, hM.l28, hM.c10, hM.c11, hM.c12, hM.c13, hM.c14, hM.c15, hM.c19, hM.c20, hM.c23, hM.c27, hM.c36, hM.c37, hM.c38, hM.c40, hM.c41, hM.c42, hM.c44, hM.w1, hM.w2, hM.w3, hM.w4, hM.w5, hM.w6, hM.w7, hM.w8, hM.w9, hM.w10, hM.w11, hM.w12, hM.w13, hM.w14, hM.w15, hM.w16, hM.w17, hM.w18, hM.w19, hM.w20, hM.w21, hM.w22, hM.w23, hM.w24, hM.w25, hM.w26, hM.w27, hM.w28, hM.p10, hM.p11, hM.p12, hM.p13, hM.p14, hM.p15, hM.p19, hM.p20, hM.p23, hM.p27, hM.p36, hM.p37, hM.p38, hM.p40, hM.p41, hM.p42, hM.p44, s3_at, s3_nk, s3_nj, m12_holds_p142, el2, sW_15, hb, sW_s (sg := sg) (g := g) (k := 15) rfl, e2]
          have := ih n (s3 g 15 (r.length : Int) (1 - a)) (i + 1) ((1 - a) :: r) (hg.s ⟨by omega, by omega⟩) ⟨s3_at _ _ _ _, stk_c (fun j _ h1 => (s3_ne (Or.inr (by omega))).symm) hst.2⟩ (fun x hx => by
            rcases List.mem_cons.mp hx with e | e
            · subst e; exact ⟨by omega, by omega⟩
            · exact hv x (List.mem_cons_of_mem _ e)) hlen hx (by omega) (by omega) (by omega)
          exact this
        · rw [if_neg c] at hx; cases hx
    · rw [if_neg c7] at hx ⊢
      have i32s : i32 s := ⟨by omega, by omega⟩
      rw [mb_eq (B_joins i32s _)]
      by_cases cj : jS s
      · rw [if_pos cj] at hx
        (try simp (config := { maxSteps := 1000000 }) (disch := first | assumption | exact W.i _ _ | exact sLine_i W _ _ _ | exact W1.i _ _ | exact hg _ _ | exact W3.i _ _ | (refine ⟨?_, ?_⟩ <;> omega) | omega | (simp only [sW_1, sW_2, sW_3, sW_4, sW_5, sW_8] <;> first | assumption | omega | (refine ⟨?_, ?_⟩ <;> omega)) | (simp only [sT_1, sT_2, sT_3, sT_4, sT_5, sT_8] <;> first | assumption | omega | (refine ⟨?_, ?_⟩ <;> omega))) only [Int.reduceEq, Int.reduceLT, Int.reduceLE, Int.reduceNeg, Int.reduceAdd, Int.reduceSub, Int.reduceMul, if_true, if_false, not_true, not_false_eq_true, false_or, or_false, true_or, or_true, true_and, and_true, false_and, and_false, iI_on, iI_mul, iI_add, iI_sub, iI_neg, ap_if, mp_eq, mz_0, mz_1, mz_b, b2_0, b2_1, iI_lt, iI_le, iI_inj, mb_div, mb_rem, hM.m, hM.a1, hM.a2, hM.a3, hM.a4, hM.a5, hM.a6, hM.a7, hM.a8, hM.a9, hM.a10, hM.a11, hM.a12, hM.a13, hM.a14, hM.a15, hM.a16, hM.a17, hM.a18, hM.a19, hM.a20, hM.a21, hM.a22, hM.a23, hM.a24, hM.a25, hM.a26, hM.a27, hM.a28, hM.l1, hM.l2, hM.l3, hM.l4, hM.l5, hM.l6, hM.l7, hM.l8, hM.l9, hM.l10, hM.l11, hM.l12, hM.l13, hM.l14, hM.l15, hM.l16, hM.l17, hM.l18, hM.l19, hM.l20, hM.l21, hM.l22, hM.l23, hM.l24, hM.l25, hM.l26, hM.l27, hM.l28, hM.c10, hM.c11, hM.c12, hM.c13, hM.c14, hM.c15, hM.c19, hM.c20, hM.c23, hM.c27, hM.c36, hM.c37, hM.c38, hM.c40, hM.c41, hM.c42, hM.c44])
        rw [if_neg (fun q => q cj)]
        match st, hst, hv, hlen, hx with
        | [], _, _, _, hx => cases hx
        | [_], _, _, _, hx => cases hx
        | y :: a :: r, hst, hv, hlen, hx =>
          have ha := hv a (List.mem_cons_of_mem _ List.mem_cons_self)
          have hy := hv y List.mem_cons_self
          have el : ((y :: a :: r).length : Int) = r.length + 2 := by simp; omega
          have el2 : (r.length : Int) + 2 + -1 - 1 = r.length := by omega
          have el3 : (r.length : Int) + 2 + -1 = r.length + 1 := by omega
          have hr : r.length + 2 ≤ 16 := hlen
          have el5 : (r.length : Int) + 1 - 1 = r.length := by omega
          have hb : g 15 (r.length : Int) = a := hst.2.1
          have hb2 : g 15 ((r.length : Int) + 1) = y := by have := hst.1; simpa using this
          rw [el]
          simp only [] at hx
          cases hj : jM s a y with
          | none => rw [hj] at hx; cases hx
          | some c =>
            rw [hj] at hx
            have hc := jM_ok ha hy hj
            simp (config := { maxSteps := 1000000 }) (disch := first | assumption | exact W.i _ _ | exact sLine_i W _ _ _ | exact W1.i _ _ | exact hg _ _ | exact W3.i _ _ | (refine ⟨?_, ?_⟩ <;> omega) | omega | (simp only [sW_1, sW_2, sW_3, sW_4, sW_5, sW_8] <;> first | assumption | omega | (refine ⟨?_, ?_⟩ <;> omega)) | (simp only [sT_1, sT_2, sT_3, sT_4, sT_5, sT_8] <;> first | assumption | omega | (refine ⟨?_, ?_⟩ <;> omega))) only [Int.reduceEq, Int.reduceLT, Int.reduceLE, Int.reduceNeg, Int.reduceAdd, Int.reduceSub, Int.reduceMul, if_true, if_false, not_true, not_false_eq_true, false_or, or_false, true_or, or_true, true_and, and_true, false_and, and_false, iI_on, iI_mul, iI_add, iI_sub, iI_neg, ap_if, mp_eq, mz_0, mz_1, mz_b, b2_0, b2_1, iI_lt, iI_le, iI_inj, mb_div, mb_rem, hM.m, hM.a1, hM.a2, hM.a3, hM.a4, hM.a5, hM.a6, hM.a7, hM.a8, hM.a9, hM.a10, hM.a11, hM.a12, hM.a13, hM.a14, hM.a15, hM.a16, hM.a17, hM.a18, hM.a19, hM.a20, hM.a21, hM.a22, hM.a23, hM.a24, hM.a25, hM.a26, hM.a27, hM.a28, hM.l1, hM.l2, hM.l3, hM.l4, hM.l5, hM.l6, hM.l7, hM.l8, hM.l9, hM.l10, hM.l11, hM.l12, hM.l13, hM.l14, hM.l15, hM.l16, hM.l17, hM.l18, hM.l19, hM.l20, hM.l21, hM.l22, hM.l23, hM.l24, hM.l25, hM.l26, hM.l27, hM.l28, hM.c10, hM.c11, hM.c12, hM.c13, hM.c14, hM.c15, hM.c19, hM.c20, hM.c23, hM.c27, hM.c36, hM.c37, hM.c38, hM.c40, hM.c41, hM.c42, hM.c44, hM.w1, hM.w2, hM.w3, hM.w4, hM.w5, hM.w6, hM.w7, hM.w8, hM.w9, hM.w10, hM.w11, hM.w12, hM.w13, hM.w14, hM.w15, hM.w16, hM.w17, hM.w18, hM.w19, hM.w20, hM.w21, hM.w22, hM.w23, hM.w24, hM.w25, hM.w26, hM.w27, hM.w28, hM.p10, hM.p11, hM.p12, hM.p13, hM.p14, hM.p15, hM.p19, hM.p20, hM.p23, hM.p27, hM.p36, hM.p37, hM.p38, hM.p40, hM.p41, hM.p42, hM.p44, s3_at, s3_nk, s3_nj, m12_holds_p142, el2, el3, el5, sW_15, hb, hb2, mb_eq (B_joined cj ha hy hj _), sW_s (sg := sg) (g := g) (k := 15) rfl, e2]
            have := ih n (s3 g 15 (r.length : Int) c) (i + 1) (c :: r) (hg.s ⟨by omega, by omega⟩) ⟨s3_at _ _ _ _, stk_c (fun j _ h1 => (s3_ne (Or.inr (by omega))).symm) hst.2.2⟩ (fun x hx => by
              rcases List.mem_cons.mp hx with e | e
              · subst e; exact hc
              · exact hv x (List.mem_cons_of_mem _ (List.mem_cons_of_mem _ e))) (by simp at hlen ⊢; omega) hx (by omega) (by omega) (by omega)
            have el4 : ((c :: r).length : Int) = r.length + 1 := by simp
            rw [el4] at this
            exact this
      · rw [if_neg cj] at hx
        (try simp (config := { maxSteps := 1000000 }) (disch := first | assumption | exact W.i _ _ | exact sLine_i W _ _ _ | exact W1.i _ _ | exact hg _ _ | exact W3.i _ _ | (refine ⟨?_, ?_⟩ <;> omega) | omega | (simp only [sW_1, sW_2, sW_3, sW_4, sW_5, sW_8] <;> first | assumption | omega | (refine ⟨?_, ?_⟩ <;> omega)) | (simp only [sT_1, sT_2, sT_3, sT_4, sT_5, sT_8] <;> first | assumption | omega | (refine ⟨?_, ?_⟩ <;> omega))) only [Int.reduceEq, Int.reduceLT, Int.reduceLE, Int.reduceNeg, Int.reduceAdd, Int.reduceSub, Int.reduceMul, if_true, if_false, not_true, not_false_eq_true, false_or, or_false, true_or, or_true, true_and, and_true, false_and, and_false, iI_on, iI_mul, iI_add, iI_sub, iI_neg, ap_if, mp_eq, mz_0, mz_1, mz_b, b2_0, b2_1, iI_lt, iI_le, iI_inj, mb_div, mb_rem, hM.m, hM.a1, hM.a2, hM.a3, hM.a4, hM.a5, hM.a6, hM.a7, hM.a8, hM.a9, hM.a10, hM.a11, hM.a12, hM.a13, hM.a14, hM.a15, hM.a16, hM.a17, hM.a18, hM.a19, hM.a20, hM.a21, hM.a22, hM.a23, hM.a24, hM.a25, hM.a26, hM.a27, hM.a28, hM.l1, hM.l2, hM.l3, hM.l4, hM.l5, hM.l6, hM.l7, hM.l8, hM.l9, hM.l10, hM.l11, hM.l12, hM.l13, hM.l14, hM.l15, hM.l16, hM.l17, hM.l18, hM.l19, hM.l20, hM.l21, hM.l22, hM.l23, hM.l24, hM.l25, hM.l26, hM.l27, hM.l28, hM.c10, hM.c11, hM.c12, hM.c13, hM.c14, hM.c15, hM.c19, hM.c20, hM.c23, hM.c27, hM.c36, hM.c37, hM.c38, hM.c40, hM.c41, hM.c42, hM.c44])
        rw [if_pos cj]
        by_cases c16 : st.length < 16
        · rw [if_pos c16] at hx
          have hev := sEnv_v W hd0 hd1 hp (k := k) (s := s) (by omega) c7 cj (by omega)
          simp (config := { maxSteps := 1000000 }) (disch := first | assumption | exact W.i _ _ | exact sLine_i W _ _ _ | exact W1.i _ _ | exact hg _ _ | exact W3.i _ _ | (refine ⟨?_, ?_⟩ <;> omega) | omega | (simp only [sW_1, sW_2, sW_3, sW_4, sW_5, sW_8] <;> first | assumption | omega | (refine ⟨?_, ?_⟩ <;> omega)) | (simp only [sT_1, sT_2, sT_3, sT_4, sT_5, sT_8] <;> first | assumption | omega | (refine ⟨?_, ?_⟩ <;> omega))) only [Int.reduceEq, Int.reduceLT, Int.reduceLE, Int.reduceNeg, Int.reduceAdd, Int.reduceSub, Int.reduceMul, if_true, if_false, not_true, not_false_eq_true, false_or, or_false, true_or, or_true, true_and, and_true, false_and, and_false, iI_on, iI_mul, iI_add, iI_sub, iI_neg, ap_if, mp_eq, mz_0, mz_1, mz_b, b2_0, b2_1, iI_lt, iI_le, iI_inj, mb_div, mb_rem, hM.m, hM.a1, hM.a2, hM.a3, hM.a4, hM.a5, hM.a6, hM.a7, hM.a8, hM.a9, hM.a10, hM.a11, hM.a12, hM.a13, hM.a14, hM.a15, hM.a16, hM.a17, hM.a18, hM.a19, hM.a20, hM.a21, hM.a22, hM.a23, hM.a24, hM.a25, hM.a26, hM.a27, hM.a28, hM.l1, hM.l2, hM.l3, hM.l4, hM.l5, hM.l6, hM.l7, hM.l8, hM.l9, hM.l10, hM.l11, hM.l12, hM.l13, hM.l14, hM.l15, hM.l16, hM.l17, hM.l18, hM.l19, hM.l20, hM.l21, hM.l22, hM.l23, hM.l24, hM.l25, hM.l26, hM.l27, hM.l28, hM.c10, hM.c11, hM.c12, hM.c13, hM.c14, hM.c15, hM.c19, hM.c20, hM.c23, hM.c27, hM.c36, hM.c37, hM.c38, hM.c40, hM.c41, hM.c42, hM.c44, hM.w1, hM.w2, hM.w3, hM.w4, hM.w5, hM.w6, hM.w7, hM.w8, hM.w9, hM.w10, hM.w11, hM.w12, hM.w13, hM.w14, hM.w15, hM.w16, hM.w17, hM.w18, hM.w19, hM.w20, hM.w21, hM.w22, hM.w23, hM.w24, hM.w25, hM.w26, hM.w27, hM.w28, hM.p10, hM.p11, hM.p12, hM.p13, hM.p14, hM.p15, hM.p19, hM.p20, hM.p23, hM.p27, hM.p36, hM.p37, hM.p38, hM.p40, hM.p41, hM.p42, hM.p44, s3_at, s3_nk, s3_nj, m12_holds_p142, mb_eq (B_valueOf hM W' _ _ _ _ _ _ _ _), sEnv_w, sW_s (sg := sg) (g := g) (k := 15) rfl, e2, sW_1]
          have := ih n (s3 g 15 (st.length : Int) (sEnv sg d k p s)) (i + 1) (sEnv sg d k p s :: st) (hg.s ⟨by omega, by omega⟩) ⟨s3_at _ _ _ _, stk_c (fun j _ h1 => (s3_ne (Or.inr (by omega))).symm) hst⟩ (fun x hx => by
            rcases List.mem_cons.mp hx with e | e
            · subst e; exact hev
            · exact hv x e) (by simp; omega) hx (by omega) (by omega) (by omega)
          have el4 : ((sEnv sg d k p s :: st).length : Int) = st.length + 1 := by simp
          rw [el4] at this
          exact this
        · rw [if_neg c16] at hx; cases hx
/-- the condition of a line holds -/
abbrev sHolds (sg : Nat → Int → Int) (v l : Int) (e : Int → Int) : Prop := xMs e (sSigns sg v l) [] = some [1]
theorem B_holds (hM : OKM M h) (W : WD sg) {v l d k p : Int} (hv0 : 0 ≤ v) (hv1 : v < sg 1 4) (hl0 : 0 ≤ l) (hl1 : l < sg 5 (2 * v)) (hs0 : 4 ≤ sLine sg v l 0) (hs1 : sLine sg v l 0 ≤ 6) (hd0 : 0 ≤ d) (hd1 : d < sg 1 2) (hk : i32 k) (hp : 0 ≤ p ∧ p ≤ 1000) {s : gH} (hs : RS M h sg s) :
    ∃ s', RS M h sg s' ∧ m12_holds M (iI v) (iI l) (iI d) (iI k) (iI p) s = some (iI (b2 (sHolds sg v l (sEnv sg d k p))), s') := by
  obtain ⟨g, hg, rfl⟩ := hs
  have W' := W.w hg
  have n4 := W.n4
  have nv := W.ve v hv0 hv1
  obtain ⟨_, _, _, _, _, _, hw⟩ := W.li v hv0 hv1 l hl0 hl1
  obtain ⟨h5, h6, h56, hc1, hc2⟩ := hw hs0 hs1
  obtain ⟨b, hb, hx⟩ := hc2 _ (sEnv_ok W hd0 hd1 hp (k := k))
  obtain ⟨s', hs', he⟩ := B_holdsL hM W hv0 hv1 hl0 hl1 h5 h6 h56 hd0 hd1 hk hp hc1 (sLine sg v l 6).toNat FU g (sLine sg v l 5) [] hg trivial (fun x hx => by cases hx) (by simp) hx (by omega) (by omega) (FU_lt (by omega))
  refine ⟨s', hs', ?_⟩
  unfold m12_holds
  simp (config := { maxSteps := 1000000 }) (disch := first | assumption | exact W.i _ _ | exact sLine_i W _ _ _ | exact W1.i _ _ | exact hg _ _ | exact W3.i _ _ | (refine ⟨?_, ?_⟩ <;> omega) | omega | (simp only [sW_1, sW_2, sW_3, sW_4, sW_5, sW_8] <;> first | assumption | omega | (refine ⟨?_, ?_⟩ <;> omega)) | (simp only [sT_1, sT_2, sT_3, sT_4, sT_5, sT_8] <;> first | assumption | omega | (refine ⟨?_, ?_⟩ <;> omega))) only [Int.reduceEq, Int.reduceLT, Int.reduceLE, Int.reduceNeg, Int.reduceAdd, Int.reduceSub, Int.reduceMul, if_true, if_false, not_true, not_false_eq_true, false_or, or_false, true_or, or_true, true_and, and_true, false_and, and_false, iI_on, iI_mul, iI_add, iI_sub, iI_neg, ap_if, mp_eq, mz_0, mz_1, mz_b, b2_0, b2_1, iI_lt, iI_le, iI_inj, mb_div, mb_rem, hM.m, hM.a1, hM.a2, hM.a3, hM.a4, hM.a5, hM.a6, hM.a7, hM.a8, hM.a9, hM.a10, hM.a11, hM.a12, hM.a13, hM.a14, hM.a15, hM.a16, hM.a17, hM.a18, hM.a19, hM.a20, hM.a21, hM.a22, hM.a23, hM.a24, hM.a25, hM.a26, hM.a27, hM.a28, hM.l1, hM.l2, hM.l3, hM.l4, hM.l5, hM.l6, hM.l7, hM.l8, hM.l9, hM.l10, hM.l11, hM.l12, hM.l13, hM.l14, hM.l15, hM.l16, hM.l17, hM.l18, hM.l19, hM.l20, hM.l21, hM.l22, hM.l23, hM.l24, hM.l25, hM.l26, hM.l27, hM.l28, hM.c10, hM.c11, hM.c12, hM.c13, hM.c14, hM.c15, hM.c19, hM.c20, hM.c23, hM.c27, hM.c36, hM.c37, hM.c38, hM.c40, hM.c41, hM.c42, hM.c44, mb_eq (B_ofLine hM _ _), sLine_w]
  have e0 : (([] : List Int).length : Int) = 0 := rfl
  rw [e0] at he
  rw [he]
  have e1 : (b = 1) ↔ sHolds sg v l (sEnv sg d k p) := by
    show b = 1 ↔ xMs _ _ [] = some [1]
    rw [show xMs (sEnv sg d k p) (sSigns sg v l) [] = some [b] from hx]
    simp
  rw [b2_c e1]
def sGr0 (sg : Nat → Int → Int) (v : Int) (e : Int → Int) : Nat → Int → Int := fun m a => fo (fun a l => if (sLine sg v l 0 = 4 ∨ sLine sg v l 0 = 5) ∧ sHolds sg v l e then a + (if sLine sg v l 0 = 4 then sLine sg v l 1 else - sLine sg v l 1) else a) m a 0
def clamp (n : Int) : Int := if n < 0 then 0 else if 4 < n then 4 else n
def sGrave (sg : Nat → Int → Int) (d v k : Int) : Int := clamp (sGr0 sg v (sEnv sg d k (sPts sg d v k)) (sg 5 (2 * v)).toNat (sTold sg v 0 (sg 3 (3 * d + 1))))
theorem clamp_b (n : Int) : 0 ≤ clamp n ∧ clamp n ≤ 4 := by
  unfold clamp
  repeat' split
  all_goals omega
theorem B_graveOf (hM : OKM M h) (W : WD sg) {d v k : Int} (hd0 : 0 ≤ d) (hd1 : d < sg 1 2) (hv0 : 0 ≤ v) (hv1 : v < sg 1 4) (hk : i32 k) {s : gH} (hs : RS M h sg s) :
    ∃ s', RS M h sg s' ∧ m12_graveOf M (iI d) (iI v) (iI k) s = some (iI (sGrave sg d v k), s') := by
  have n4 := W.n4
  have n2 := W.n2
  have nv := W.ve v hv0 hv1
  have nd := W.de d hd0 hd1
  have hp := sPts_b W hv0 hv1 (d := d) (k := k)
  have ht := sTold_b W hv0 hv1 (s := 0) (k := sg 3 (3 * d + 1)) (Or.inl rfl)
  have key := lopR (F := fun n a i s => m12_graveOf_p30 n M (iI d) (iI v) (iI k) (iI (sPts sg d v k)) (iI a) (iI i) s) (K := fun a s => some (iI (clamp a), s)) (N := sg 5 (2 * v)) (st := fun a l => if (sLine sg v l 0 = 4 ∨ sLine sg v l 0 = 5) ∧ sHolds sg v l (sEnv sg d k (sPts sg d v k)) then a + (if sLine sg v l 0 = 4 then sLine sg v l 1 else - sLine sg v l 1) else a) (I := fun a i => -5 * i ≤ a ∧ a ≤ 9 + 5 * i) (R := RS M h sg) (fun n a s hs hI => ?_) (fun n a i s hs hI h0 h1 => ⟨?_, ?_⟩) (sg 5 (2 * v)).toNat FU (sTold sg v 0 (sg 3 (3 * d + 1))) 0
  · obtain ⟨s', h1, h2⟩ := (key s hs (by omega) (by omega) (by omega) (FU_lt (by omega))).1
    refine ⟨s', h1, ?_⟩
    obtain ⟨g, hg, rfl⟩ := hs
    have W' := W.w hg
    unfold m12_graveOf
    simp (config := { maxSteps := 1000000 }) (disch := first | assumption | exact W.i _ _ | exact sLine_i W _ _ _ | exact W1.i _ _ | exact hg _ _ | exact W3.i _ _ | (refine ⟨?_, ?_⟩ <;> omega) | omega | (simp only [sW_1, sW_2, sW_3, sW_4, sW_5, sW_8] <;> first | assumption | omega | (refine ⟨?_, ?_⟩ <;> omega)) | (simp only [sT_1, sT_2, sT_3, sT_4, sT_5, sT_8] <;> first | assumption | omega | (refine ⟨?_, ?_⟩ <;> omega))) only [Int.reduceEq, Int.reduceLT, Int.reduceLE, Int.reduceNeg, Int.reduceAdd, Int.reduceSub, Int.reduceMul, if_true, if_false, not_true, not_false_eq_true, false_or, or_false, true_or, or_true, true_and, and_true, false_and, and_false, iI_on, iI_mul, iI_add, iI_sub, iI_neg, ap_if, mp_eq, mz_0, mz_1, mz_b, b2_0, b2_1, iI_lt, iI_le, iI_inj, mb_div, mb_rem, hM.m, hM.a1, hM.a2, hM.a3, hM.a4, hM.a5, hM.a6, hM.a7, hM.a8, hM.a9, hM.a10, hM.a11, hM.a12, hM.a13, hM.a14, hM.a15, hM.a16, hM.a17, hM.a18, hM.a19, hM.a20, hM.a21, hM.a22, hM.a23, hM.a24, hM.a25, hM.a26, hM.a27, hM.a28, hM.l1, hM.l2, hM.l3, hM.l4, hM.l5, hM.l6, hM.l7, hM.l8, hM.l9, hM.l10, hM.l11, hM.l12, hM.l13, hM.l14, hM.l15, hM.l16, hM.l17, hM.l18, hM.l19, hM.l20, hM.l21, hM.l22, hM.l23, hM.l24, hM.l25, hM.l26, hM.l27, hM.l28, hM.c10, hM.c11, hM.c12, hM.c13, hM.c14, hM.c15, hM.c19, hM.c20, hM.c23, hM.c27, hM.c36, hM.c37, hM.c38, hM.c40, hM.c41, hM.c42, hM.c44, mb_eq (B_pointsOf hM W' _ _ _ _ _), mb_eq (B_toldOf hM W' _ _ _ _), sPts_w, sW_3, sTold_w, sW_1]
    exact h2
  · obtain ⟨g, hg, rfl⟩ := hs
    have W' := W.w hg
    show m12_graveOf_p30 (n + 1) M (iI d) (iI v) (iI k) (iI (sPts sg d v k)) (iI a) (iI (sg 5 (2 * v))) (mK M (sW sg g) h) = some (iI (clamp a), mK M (sW sg g) h)
    rw [m12_graveOf_p30]
    unfold clamp
    (repeat' (first | simp (config := { maxSteps := 1000000 }) (disch := first | assumption | exact W.i _ _ | exact sLine_i W _ _ _ | exact W1.i _ _ | exact hg _ _ | exact W3.i _ _ | (refine ⟨?_, ?_⟩ <;> omega) | omega | (simp only [sW_1, sW_2, sW_3, sW_4, sW_5, sW_8] <;> first | assumption | omega | (refine ⟨?_, ?_⟩ <;> omega)) | (simp only [sT_1, sT_2, sT_3, sT_4, sT_5, sT_8] <;> first | assumption | omega | (refine ⟨?_, ?_⟩ <;> omega))) only [Int.reduceEq, Int.reduceLT, Int.reduceLE, Int.reduceNeg, Int.reduceAdd, Int.reduceSub, Int.reduceMul, if_true, if_false, not_true, not_false_eq_true, false_or, or_false, true_or, or_true, true_and, and_true, false_and, and_false, iI_on, iI_mul, iI_add, iI_sub, iI_neg, ap_if, mp_eq, mz_0, mz_1, mz_b, b2_0, b2_1, iI_lt, iI_le, iI_inj, mb_div, mb_rem, hM.m, hM.a1, hM.a2, hM.a3, hM.a4, hM.a5, hM.a6, hM.a7, hM.a8, hM.a9, hM.a10, hM.a11, hM.a12, hM.a13, hM.a14, hM.a15, hM.a16, hM.a17, hM.a18, hM.a19, hM.a20, hM.a21, hM.a22, hM.a23, hM.a24, hM.a25, hM.a26, hM.a27, hM.a28, hM.l1, hM.l2, hM.l3, hM.l4, hM.l5, hM.l6, hM.l7, hM.l8, hM.l9, hM.l10, hM.l11, hM.l12, hM.l13, hM.l14, hM.l15, hM.l16, hM.l17, hM.l18, hM.l19, hM.l20, hM.l21, hM.l22, hM.l23, hM.l24, hM.l25, hM.l26, hM.l27, hM.l28, hM.c10, hM.c11, hM.c12, hM.c13, hM.c14, hM.c15, hM.c19, hM.c20, hM.c23, hM.c27, hM.c36, hM.c37, hM.c38, hM.c40, hM.c41, hM.c42, hM.c44, sW_5, m12_graveOf_p137] | split)) <;> (first | with_reducible rfl | omega | rfl | (subst_vars; rfl) | (simp only [*, Int.add_zero]; done) | (rw [b2_t (by omega)]; done) | (rw [b2_f (by omega)]; done) | (rw [b2_f (by omega), Int.add_zero]))
  · show ∃ s', RS M h sg s' ∧ m12_graveOf_p30 (n + 1) M (iI d) (iI v) (iI k) (iI (sPts sg d v k)) (iI a) (iI i) s = m12_graveOf_p30 n M (iI d) (iI v) (iI k) (iI (sPts sg d v k)) (iI (if (sLine sg v i 0 = 4 ∨ sLine sg v i 0 = 5) ∧ sHolds sg v i (sEnv sg d k (sPts sg d v k)) then a + (if sLine sg v i 0 = 4 then sLine sg v i 1 else - sLine sg v i 1) else a)) (iI (i + 1)) s'
    by_cases c : sLine sg v i 0 = 4 ∨ sLine sg v i 0 = 5
    · obtain ⟨s', hs', he⟩ := B_holds hM W hv0 hv1 h0 h1 (by omega) (by omega) hd0 hd1 hk (p := sPts sg d v k) (by omega) hs
      refine ⟨s', hs', ?_⟩
      obtain ⟨g, hg, rfl⟩ := hs
      obtain ⟨g', hg', rfl⟩ := hs'
      have W' := W.w hg
      have W'' := W.w hg'
      rw [m12_graveOf_p30]
      by_cases ch : sHolds sg v i (sEnv sg d k (sPts sg d v k))
      · rw [b2_t ch] at he
        have hc2 : (sLine sg v i 0 = 4 ∨ sLine sg v i 0 = 5) ∧ sHolds sg v i (sEnv sg d k (sPts sg d v k)) := ⟨c, ch⟩
        rw [if_pos hc2]
        (repeat' (first | simp (config := { maxSteps := 1000000 }) (disch := first | assumption | exact W.i _ _ | exact sLine_i W _ _ _ | exact W1.i _ _ | exact hg _ _ | exact W3.i _ _ | (refine ⟨?_, ?_⟩ <;> omega) | omega | (simp only [sW_1, sW_2, sW_3, sW_4, sW_5, sW_8] <;> first | assumption | omega | (refine ⟨?_, ?_⟩ <;> omega)) | (simp only [sT_1, sT_2, sT_3, sT_4, sT_5, sT_8] <;> first | assumption | omega | (refine ⟨?_, ?_⟩ <;> omega))) only [Int.reduceEq, Int.reduceLT, Int.reduceLE, Int.reduceNeg, Int.reduceAdd, Int.reduceSub, Int.reduceMul, if_true, if_false, not_true, not_false_eq_true, false_or, or_false, true_or, or_true, true_and, and_true, false_and, and_false, iI_on, iI_mul, iI_add, iI_sub, iI_neg, ap_if, mp_eq, mz_0, mz_1, mz_b, b2_0, b2_1, iI_lt, iI_le, iI_inj, mb_div, mb_rem, hM.m, hM.a1, hM.a2, hM.a3, hM.a4, hM.a5, hM.a6, hM.a7, hM.a8, hM.a9, hM.a10, hM.a11, hM.a12, hM.a13, hM.a14, hM.a15, hM.a16, hM.a17, hM.a18, hM.a19, hM.a20, hM.a21, hM.a22, hM.a23, hM.a24, hM.a25, hM.a26, hM.a27, hM.a28, hM.l1, hM.l2, hM.l3, hM.l4, hM.l5, hM.l6, hM.l7, hM.l8, hM.l9, hM.l10, hM.l11, hM.l12, hM.l13, hM.l14, hM.l15, hM.l16, hM.l17, hM.l18, hM.l19, hM.l20, hM.l21, hM.l22, hM.l23, hM.l24, hM.l25, hM.l26, hM.l27, hM.l28, hM.c10, hM.c11, hM.c12, hM.c13, hM.c14, hM.c15, hM.c19, hM.c20, hM.c23, hM.c27, hM.c36, hM.c37, hM.c38, hM.c40, hM.c41, hM.c42, hM.c44, mb_eq he, mb_eq (B_ofLine hM _ _), sLine_w, sW_5, m12_graveOf_p65, m12_graveOf_p107, m12_graveOf_p110] | split)) <;> (first | with_reducible rfl | omega | rfl | (subst_vars; rfl) | (simp only [*, Int.add_zero]; done) | (rw [b2_t (by omega)]; done) | (rw [b2_f (by omega)]; done) | (rw [b2_f (by omega), Int.add_zero]))
      · rw [b2_f ch] at he
        have hc2 : ¬ ((sLine sg v i 0 = 4 ∨ sLine sg v i 0 = 5) ∧ sHolds sg v i (sEnv sg d k (sPts sg d v k))) := fun q => ch q.2
        rw [if_neg hc2]
        (repeat' (first | simp (config := { maxSteps := 1000000 }) (disch := first | assumption | exact W.i _ _ | exact sLine_i W _ _ _ | exact W1.i _ _ | exact hg _ _ | exact W3.i _ _ | (refine ⟨?_, ?_⟩ <;> omega) | omega | (simp only [sW_1, sW_2, sW_3, sW_4, sW_5, sW_8] <;> first | assumption | omega | (refine ⟨?_, ?_⟩ <;> omega)) | (simp only [sT_1, sT_2, sT_3, sT_4, sT_5, sT_8] <;> first | assumption | omega | (refine ⟨?_, ?_⟩ <;> omega))) only [Int.reduceEq, Int.reduceLT, Int.reduceLE, Int.reduceNeg, Int.reduceAdd, Int.reduceSub, Int.reduceMul, if_true, if_false, not_true, not_false_eq_true, false_or, or_false, true_or, or_true, true_and, and_true, false_and, and_false, iI_on, iI_mul, iI_add, iI_sub, iI_neg, ap_if, mp_eq, mz_0, mz_1, mz_b, b2_0, b2_1, iI_lt, iI_le, iI_inj, mb_div, mb_rem, hM.m, hM.a1, hM.a2, hM.a3, hM.a4, hM.a5, hM.a6, hM.a7, hM.a8, hM.a9, hM.a10, hM.a11, hM.a12, hM.a13, hM.a14, hM.a15, hM.a16, hM.a17, hM.a18, hM.a19, hM.a20, hM.a21, hM.a22, hM.a23, hM.a24, hM.a25, hM.a26, hM.a27, hM.a28, hM.l1, hM.l2, hM.l3, hM.l4, hM.l5, hM.l6, hM.l7, hM.l8, hM.l9, hM.l10, hM.l11, hM.l12, hM.l13, hM.l14, hM.l15, hM.l16, hM.l17, hM.l18, hM.l19, hM.l20, hM.l21, hM.l22, hM.l23, hM.l24, hM.l25, hM.l26, hM.l27, hM.l28, hM.c10, hM.c11, hM.c12, hM.c13, hM.c14, hM.c15, hM.c19, hM.c20, hM.c23, hM.c27, hM.c36, hM.c37, hM.c38, hM.c40, hM.c41, hM.c42, hM.c44, mb_eq he, mb_eq (B_ofLine hM _ _), sLine_w, sW_5, m12_graveOf_p65, m12_graveOf_p107, m12_graveOf_p110] | split)) <;> (first | with_reducible rfl | omega | rfl | (subst_vars; rfl) | (simp only [*, Int.add_zero]; done) | (rw [b2_t (by omega)]; done) | (rw [b2_f (by omega)]; done) | (rw [b2_f (by omega), Int.add_zero]))
    · refine ⟨s, hs, ?_⟩
      obtain ⟨g, hg, rfl⟩ := hs
      have W' := W.w hg
      rw [m12_graveOf_p30]
      have hc2 : ¬ ((sLine sg v i 0 = 4 ∨ sLine sg v i 0 = 5) ∧ sHolds sg v i (sEnv sg d k (sPts sg d v k))) := fun q => c q.1
      rw [if_neg hc2]
      (repeat' (first | simp (config := { maxSteps := 1000000 }) (disch := first | assumption | exact W.i _ _ | exact sLine_i W _ _ _ | exact W1.i _ _ | exact hg _ _ | exact W3.i _ _ | (refine ⟨?_, ?_⟩ <;> omega) | omega | (simp only [sW_1, sW_2, sW_3, sW_4, sW_5, sW_8] <;> first | assumption | omega | (refine ⟨?_, ?_⟩ <;> omega)) | (simp only [sT_1, sT_2, sT_3, sT_4, sT_5, sT_8] <;> first | assumption | omega | (refine ⟨?_, ?_⟩ <;> omega))) only [Int.reduceEq, Int.reduceLT, Int.reduceLE, Int.reduceNeg, Int.reduceAdd, Int.reduceSub, Int.reduceMul, if_true, if_false, not_true, not_false_eq_true, false_or, or_false, true_or, or_true, true_and, and_true, false_and, and_false, iI_on, iI_mul, iI_add, iI_sub, iI_neg, ap_if, mp_eq, mz_0, mz_1, mz_b, b2_0, b2_1, iI_lt, iI_le, iI_inj, mb_div, mb_rem, hM.m, hM.a1, hM.a2, hM.a3, hM.a4, hM.a5, hM.a6, hM.a7, hM.a8, hM.a9, hM.a10, hM.a11, hM.a12, hM.a13, hM.a14, hM.a15, hM.a16, hM.a17, hM.a18, hM.a19, hM.a20, hM.a21, hM.a22, hM.a23, hM.a24, hM.a25, hM.a26, hM.a27, hM.a28, hM.l1, hM.l2, hM.l3, hM.l4, hM.l5, hM.l6, hM.l7, hM.l8, hM.l9, hM.l10, hM.l11, hM.l12, hM.l13, hM.l14, hM.l15, hM.l16, hM.l17, hM.l18, hM.l19, hM.l20, hM.l21, hM.l22, hM.l23, hM.l24, hM.l25, hM.l26, hM.l27, hM.l28, hM.c10, hM.c11, hM.c12, hM.c13, hM.c14, hM.c15, hM.c19, hM.c20, hM.c23, hM.c27, hM.c36, hM.c37, hM.c38, hM.c40, hM.c41, hM.c42, hM.c44, mb_eq (B_ofLine hM _ _), sLine_w, sW_5, m12_graveOf_p110] | split)) <;> (first | with_reducible rfl | omega | rfl | (subst_vars; rfl) | (simp only [*, Int.add_zero]; done) | (rw [b2_t (by omega)]; done) | (rw [b2_f (by omega)]; done) | (rw [b2_f (by omega), Int.add_zero]))
  · obtain ⟨_, _, _, _, _, hA, _⟩ := W.li v hv0 hv1 i h0 h1
    show -5 * (i + 1) ≤ (if (sLine sg v i 0 = 4 ∨ sLine sg v i 0 = 5) ∧ sHolds sg v i (sEnv sg d k (sPts sg d v k)) then a + (if sLine sg v i 0 = 4 then sLine sg v i 1 else - sLine sg v i 1) else a) ∧ (if (sLine sg v i 0 = 4 ∨ sLine sg v i 0 = 5) ∧ sHolds sg v i (sEnv sg d k (sPts sg d v k)) then a + (if sLine sg v i 0 = 4 then sLine sg v i 1 else - sLine sg v i 1) else a) ≤ 9 + 5 * (i + 1)
    by_cases c : sLine sg v i 0 = 4 ∨ sLine sg v i 0 = 5
    · have := hA c
      repeat' split
      all_goals omega
    · rw [if_neg (fun q => c q.1)]
      omega
def sRange (sg : Nat → Int → Int) (v gr oft : Int) : Int := fo (fun a l => if sLine sg v l 0 = 3 ∧ sLine sg v l 1 = gr ∧ sLine sg v l 2 = oft then 1000 * sLine sg v l 3 + sLine sg v l 4 else a) (sg 5 (2 * v)).toNat (-1) 0
def sOft (p : Int) : Int := if 3 < p / 3 then 3 else p / 3
def sRng (sg : Nat → Int → Int) (d v k : Int) : Int := if v < 0 then -1 else sRange sg v (sGrave sg d v k) (sOft (sPts sg d v k))
theorem sRange_b (W : WD sg) {v gr oft : Int} (hv0 : 0 ≤ v) (hv1 : v < sg 1 4) : -1 ≤ sRange sg v gr oft ∧ sRange sg v gr oft ≤ 240240 := by
  have nv := W.ve v hv0 hv1
  unfold sRange
  refine fo_invr (I := fun a => -1 ≤ a ∧ a ≤ 240240) (N := sg 5 (2 * v)) (fun a i ha h2 h3 => ?_) _ _ _ ⟨by omega, by omega⟩ (by omega) (by omega)
  obtain ⟨_, _, _, _, hA, _⟩ := W.li v hv0 hv1 i h2 h3
  show -1 ≤ (if sLine sg v i 0 = 3 ∧ sLine sg v i 1 = gr ∧ sLine sg v i 2 = oft then 1000 * sLine sg v i 3 + sLine sg v i 4 else a) ∧ (if sLine sg v i 0 = 3 ∧ sLine sg v i 1 = gr ∧ sLine sg v i 2 = oft then 1000 * sLine sg v i 3 + sLine sg v i 4 else a) ≤ 240240
  split
  · rename_i c
    have := hA c.1
    omega
  · exact ha
theorem B_rangeOf (hM : OKM M h) (W : WD sg) {d v k : Int} (hd0 : 0 ≤ d) (hd1 : d < sg 1 2) (hv0 : -1 ≤ v) (hv1 : v < sg 1 4) (hk : i32 k) {s : gH} (hs : RS M h sg s) :
    ∃ s', RS M h sg s' ∧ m12_rangeOf M (iI d) (iI v) (iI k) s = some (iI (sRng sg d v k), s') := by
  have n4 := W.n4
  by_cases c : v < 0
  · refine ⟨s, hs, ?_⟩
    unfold m12_rangeOf sRng
    rw [if_pos c]
    simp (config := { maxSteps := 1000000 }) (disch := first | assumption | exact W.i _ _ | exact sLine_i W _ _ _ | exact W1.i _ _ | exact hg _ _ | exact W3.i _ _ | (refine ⟨?_, ?_⟩ <;> omega) | omega | (simp only [sW_1, sW_2, sW_3, sW_4, sW_5, sW_8] <;> first | assumption | omega | (refine ⟨?_, ?_⟩ <;> omega)) | (simp only [sT_1, sT_2, sT_3, sT_4, sT_5, sT_8] <;> first | assumption | omega | (refine ⟨?_, ?_⟩ <;> omega))) only [Int.reduceEq, Int.reduceLT, Int.reduceLE, Int.reduceNeg, Int.reduceAdd, Int.reduceSub, Int.reduceMul, if_true, if_false, not_true, not_false_eq_true, false_or, or_false, true_or, or_true, true_and, and_true, false_and, and_false, iI_on, iI_mul, iI_add, iI_sub, iI_neg, ap_if, mp_eq, mz_0, mz_1, mz_b, b2_0, b2_1, iI_lt, iI_le, iI_inj, mb_div, mb_rem, hM.m, hM.a1, hM.a2, hM.a3, hM.a4, hM.a5, hM.a6, hM.a7, hM.a8, hM.a9, hM.a10, hM.a11, hM.a12, hM.a13, hM.a14, hM.a15, hM.a16, hM.a17, hM.a18, hM.a19, hM.a20, hM.a21, hM.a22, hM.a23, hM.a24, hM.a25, hM.a26, hM.a27, hM.a28, hM.l1, hM.l2, hM.l3, hM.l4, hM.l5, hM.l6, hM.l7, hM.l8, hM.l9, hM.l10, hM.l11, hM.l12, hM.l13, hM.l14, hM.l15, hM.l16, hM.l17, hM.l18, hM.l19, hM.l20, hM.l21, hM.l22, hM.l23, hM.l24, hM.l25, hM.l26, hM.l27, hM.l28, hM.c10, hM.c11, hM.c12, hM.c13, hM.c14, hM.c15, hM.c19, hM.c20, hM.c23, hM.c27, hM.c36, hM.c37, hM.c38, hM.c40, hM.c41, hM.c42, hM.c44]
    rw [if_neg (by omega)]
  · obtain ⟨s', hs', he⟩ := B_graveOf hM W hd0 hd1 (by omega) hv1 hk hs (v := v)
    refine ⟨s', hs', ?_⟩
    have hp := sPts_b W (v := v) (by omega) hv1 (d := d) (k := k)
    have hgr := clamp_b (sGr0 sg v (sEnv sg d k (sPts sg d v k)) (sg 5 (2 * v)).toNat (sTold sg v 0 (sg 3 (3 * d + 1))))
    have nv := W.ve v (by omega) hv1
    obtain ⟨g, hg, rfl⟩ := hs
    obtain ⟨g', hg', rfl⟩ := hs'
    have W' := W.w hg'
    unfold m12_rangeOf sRng
    rw [if_neg c]
    simp (config := { maxSteps := 1000000 }) (disch := first | assumption | exact W.i _ _ | exact sLine_i W _ _ _ | exact W1.i _ _ | exact hg _ _ | exact W3.i _ _ | (refine ⟨?_, ?_⟩ <;> omega) | omega | (simp only [sW_1, sW_2, sW_3, sW_4, sW_5, sW_8] <;> first | assumption | omega | (refine ⟨?_, ?_⟩ <;> omega)) | (simp only [sT_1, sT_2, sT_3, sT_4, sT_5, sT_8] <;> first | assumption | omega | (refine ⟨?_, ?_⟩ <;> omega))) only [Int.reduceEq, Int.reduceLT, Int.reduceLE, Int.reduceNeg, Int.reduceAdd, Int.reduceSub, Int.reduceMul, if_true, if_false, not_true, not_false_eq_true, false_or, or_false, true_or, or_true, true_and, and_true, false_and, and_false, iI_on, iI_mul, iI_add, iI_sub, iI_neg, ap_if, mp_eq, mz_0, mz_1, mz_b, b2_0, b2_1, iI_lt, iI_le, iI_inj, mb_div, mb_rem, hM.m, hM.a1, hM.a2, hM.a3, hM.a4, hM.a5, hM.a6, hM.a7, hM.a8, hM.a9, hM.a10, hM.a11, hM.a12, hM.a13, hM.a14, hM.a15, hM.a16, hM.a17, hM.a18, hM.a19, hM.a20, hM.a21, hM.a22, hM.a23, hM.a24, hM.a25, hM.a26, hM.a27, hM.a28, hM.l1, hM.l2, hM.l3, hM.l4, hM.l5, hM.l6, hM.l7, hM.l8, hM.l9, hM.l10, hM.l11, hM.l12, hM.l13, hM.l14, hM.l15, hM.l16, hM.l17, hM.l18, hM.l19, hM.l20, hM.l21, hM.l22, hM.l23, hM.l24, hM.l25, hM.l26, hM.l27, hM.l28, hM.c10, hM.c11, hM.c12, hM.c13, hM.c14, hM.c15, hM.c19, hM.c20, hM.c23, hM.c27, hM.c36, hM.c37, hM.c38, hM.c40, hM.c41, hM.c42, hM.c44, mb_eq he, mb_eq (B_pointsOf hM W' _ _ _ _ _), sPts_w, sW_1, Int.tdiv_eq_ediv_of_nonneg]
    rw [if_pos (by omega)]
    have e0 : (if sPts sg d v k / 3 ≤ 3 then m12_rangeOf_p42 M (iI v) (iI (-1)) (iI (sGrave sg d v k)) (iI (sPts sg d v k / 3)) (mK M (sW sg g') h) else m12_rangeOf_p42 M (iI v) (iI (-1)) (iI (sGrave sg d v k)) (iI 3) (mK M (sW sg g') h)) = m12_rangeOf_p42 M (iI v) (iI (-1)) (iI (sGrave sg d v k)) (iI (sOft (sPts sg d v k))) (mK M (sW sg g') h) := by
      unfold sOft
      by_cases c3 : sPts sg d v k / 3 ≤ 3
      · rw [if_pos c3, if_neg (by omega)]
      · rw [if_neg c3, if_pos (by omega)]
    rw [e0]
    unfold sRange m12_rangeOf_p42
    have hgr : 0 ≤ sGrave sg d v k ∧ sGrave sg d v k ≤ 4 := hgr
    have hof : 0 ≤ sOft (sPts sg d v k) ∧ sOft (sPts sg d v k) ≤ 3 := by
      unfold sOft
      split <;> omega
    refine (lop (F := fun n a i => m12_rangeOf_p47 n M (iI v) (iI a) (iI (sGrave sg d v k)) (iI (sOft (sPts sg d v k))) (iI i) (mK M (sW sg g') h)) (K := fun a => some (iI a, mK M (sW sg g') h)) (N := sg 5 (2 * v)) (I := fun _ _ => True) (fun n a _ => ?_) (fun n a i _ h2 h3 => ⟨?_, trivial⟩) (sg 5 (2 * v)).toNat FU (-1) 0 trivial (by omega) (by omega) (FU_lt (by omega))).1
    · show m12_rangeOf_p47 (n + 1) M (iI v) (iI a) (iI (sGrave sg d v k)) (iI (sOft (sPts sg d v k))) (iI (sg 5 (2 * v))) (mK M (sW sg g') h) = some (iI a, mK M (sW sg g') h)
      rw [m12_rangeOf_p47]
      simp (config := { maxSteps := 1000000 }) (disch := first | assumption | exact W.i _ _ | exact sLine_i W _ _ _ | exact W1.i _ _ | exact hg _ _ | exact W3.i _ _ | (refine ⟨?_, ?_⟩ <;> omega) | omega | (simp only [sW_1, sW_2, sW_3, sW_4, sW_5, sW_8] <;> first | assumption | omega | (refine ⟨?_, ?_⟩ <;> omega)) | (simp only [sT_1, sT_2, sT_3, sT_4, sT_5, sT_8] <;> first | assumption | omega | (refine ⟨?_, ?_⟩ <;> omega))) only [Int.reduceEq, Int.reduceLT, Int.reduceLE, Int.reduceNeg, Int.reduceAdd, Int.reduceSub, Int.reduceMul, if_true, if_false, not_true, not_false_eq_true, false_or, or_false, true_or, or_true, true_and, and_true, false_and, and_false, iI_on, iI_mul, iI_add, iI_sub, iI_neg, ap_if, mp_eq, mz_0, mz_1, mz_b, b2_0, b2_1, iI_lt, iI_le, iI_inj, mb_div, mb_rem, hM.m, hM.a1, hM.a2, hM.a3, hM.a4, hM.a5, hM.a6, hM.a7, hM.a8, hM.a9, hM.a10, hM.a11, hM.a12, hM.a13, hM.a14, hM.a15, hM.a16, hM.a17, hM.a18, hM.a19, hM.a20, hM.a21, hM.a22, hM.a23, hM.a24, hM.a25, hM.a26, hM.a27, hM.a28, hM.l1, hM.l2, hM.l3, hM.l4, hM.l5, hM.l6, hM.l7, hM.l8, hM.l9, hM.l10, hM.l11, hM.l12, hM.l13, hM.l14, hM.l15, hM.l16, hM.l17, hM.l18, hM.l19, hM.l20, hM.l21, hM.l22, hM.l23, hM.l24, hM.l25, hM.l26, hM.l27, hM.l28, hM.c10, hM.c11, hM.c12, hM.c13, hM.c14, hM.c15, hM.c19, hM.c20, hM.c23, hM.c27, hM.c36, hM.c37, hM.c38, hM.c40, hM.c41, hM.c42, hM.c44, sW_5]
      simp
    · show m12_rangeOf_p47 (n + 1) M (iI v) (iI a) (iI (sGrave sg d v k)) (iI (sOft (sPts sg d v k))) (iI i) (mK M (sW sg g') h) = m12_rangeOf_p47 n M (iI v) (iI (if sLine sg v i 0 = 3 ∧ sLine sg v i 1 = sGrave sg d v k ∧ sLine sg v i 2 = sOft (sPts sg d v k) then 1000 * sLine sg v i 3 + sLine sg v i 4 else a)) (iI (sGrave sg d v k)) (iI (sOft (sPts sg d v k))) (iI (i + 1)) (mK M (sW sg g') h)
      rw [m12_rangeOf_p47]
      (repeat' (first | simp (config := { maxSteps := 1000000 }) (disch := first | assumption | exact W.i _ _ | exact sLine_i W _ _ _ | exact W1.i _ _ | exact hg _ _ | exact W3.i _ _ | (refine ⟨?_, ?_⟩ <;> omega) | omega | (simp only [sW_1, sW_2, sW_3, sW_4, sW_5, sW_8] <;> first | assumption | omega | (refine ⟨?_, ?_⟩ <;> omega)) | (simp only [sT_1, sT_2, sT_3, sT_4, sT_5, sT_8] <;> first | assumption | omega | (refine ⟨?_, ?_⟩ <;> omega))) only [Int.reduceEq, Int.reduceLT, Int.reduceLE, Int.reduceNeg, Int.reduceAdd, Int.reduceSub, Int.reduceMul, if_true, if_false, not_true, not_false_eq_true, false_or, or_false, true_or, or_true, true_and, and_true, false_and, and_false, iI_on, iI_mul, iI_add, iI_sub, iI_neg, ap_if, mp_eq, mz_0, mz_1, mz_b, b2_0, b2_1, iI_lt, iI_le, iI_inj, mb_div, mb_rem, hM.m, hM.a1, hM.a2, hM.a3, hM.a4, hM.a5, hM.a6, hM.a7, hM.a8, hM.a9, hM.a10, hM.a11, hM.a12, hM.a13, hM.a14, hM.a15, hM.a16, hM.a17, hM.a18, hM.a19, hM.a20, hM.a21, hM.a22, hM.a23, hM.a24, hM.a25, hM.a26, hM.a27, hM.a28, hM.l1, hM.l2, hM.l3, hM.l4, hM.l5, hM.l6, hM.l7, hM.l8, hM.l9, hM.l10, hM.l11, hM.l12, hM.l13, hM.l14, hM.l15, hM.l16, hM.l17, hM.l18, hM.l19, hM.l20, hM.l21, hM.l22, hM.l23, hM.l24, hM.l25, hM.l26, hM.l27, hM.l28, hM.c10, hM.c11, hM.c12, hM.c13, hM.c14, hM.c15, hM.c19, hM.c20, hM.c23, hM.c27, hM.c36, hM.c37, hM.c38, hM.c40, hM.c41, hM.c42, hM.c44, mb_eq (B_ofLine hM _ _), sLine_w, sW_5, m12_rangeOf_p102, m12_rangeOf_p103, m12_rangeOf_p136] | split)) <;> (first | with_reducible rfl | omega | rfl | (subst_vars; rfl) | (simp only [*, Int.add_zero]; done) | (rw [b2_t (by omega)]; done) | (rw [b2_f (by omega)]; done) | (rw [b2_f (by omega), Int.add_zero]))
end RD4

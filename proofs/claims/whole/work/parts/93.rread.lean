/-! ===== the reference's reader: at the k-th token, fault f, the signs S told, the signs w waiting ===== -/
section RREAD
variable {M : Nat} {b : Nat → Int → Int} {h : gH} {g : Int → Int} {f k : Int} {S w : List Int}
def rSt (b : Nat → Int → Int) (g : Int → Int) (f k : Int) (S w : List Int) : Nat → Int → Int := fun q j =>
  if q = 0 then (if j = 11 then tk (b 10) (b 0 10) (PL (b 10) (b 0 10) k) else if j = 12 then PL (b 10) (b 0 10) k else if j = 13 then te (b 10) (b 0 10) (PL (b 10) (b 0 10) k) else if j = 14 then tv (b 10) (b 0 10) (PL (b 10) (b 0 10) k) else if j = 15 then f else if j = 19 then (S.length : Int) else if j = 20 then (w.length : Int) else b 0 j)
  else if q = 12 then (if 0 ≤ j ∧ j < (S.length : Int) then S.getD j.toNat 0 else b 12 j)
  else if q = 13 then (if 0 ≤ j ∧ j < (w.length : Int) then w.getD (w.length - 1 - j.toNat) 0 else g j)
  else b q j
/-- the codes of the tokens, and how many -/
def CD (b : Nat → Int → Int) (k : Int) : Int := cc (b 10) (b 0 10) (PL (b 10) (b 0 10) k)
def CT (b : Nat → Int → Int) : Int := PN (b 10) (b 0 10)
def pA0 (b : Nat → Int → Int) (k : Int) : Int := PL (b 10) (b 0 10) k
abbrev BR (b : Nat → Int → Int) : Prop := okG b ∧ TY b
theorem BR.n (B : BR b) : 0 ≤ b 0 10 ∧ b 0 10 ≤ 250 := B.2.1
theorem BR.a (B : BR b) (h0 : 0 ≤ k) : 0 ≤ pA0 b k ∧ pA0 b k ≤ b 0 10 := PL_b (b 10) B.n.1 h0
theorem BR.c0 (B : BR b) (h0 : 0 ≤ k) (h1 : pA0 b k < b 0 10) : cl (b 10 (pA0 b k)) ≠ 0 := by
  refine PL_n0 (b 10) B.n.1 h0 ?_
  rcases Int.lt_or_le k (PN (b 10) (b 0 10)) with q | q
  · exact q
  · have := PL_end (b 10) (n := b 0 10) q
    unfold pA0 at h1
    omega
theorem BR.by_ (B : BR b) (h0 : 0 ≤ k) (h1 : pA0 b k < b 0 10) : 0 ≤ b 10 (pA0 b k) ∧ b 10 (pA0 b k) ≤ 255 := by
  have := B.a h0
  have := B.n
  exact B.2.2.1 _ (by omega) (by omega)
/-- beyond the tape's end nothing is asked of the tape -/
theorem cc_end {t : Int → Int} {n : Int} : cc t n n = 3000 := if_pos rfl
theorem tk_end {t : Int → Int} {n : Int} : tk t n n = 0 := if_pos rfl
theorem tv_end {t : Int → Int} {n : Int} : tv t n n = 0 := if_pos rfl
theorem BR.CN (B : BR b) : CN (CD b) (CT b) := by
  have n0 := B.n
  have hN := PN_b (b 10) n0.1
  refine ⟨⟨hN.1, by have := hN.2; show PN _ _ ≤ 250; omega⟩, fun k hk => ?_, fun k hk => ?_⟩
  · unfold CD
    rw [PL_end (b 10) hk]
    exact cc_end
  · have a1 := B.a hk
    unfold CD
    by_cases e : pA0 b k < b 0 10
    · exact cc_i a1.2 (fun q => B.c0 hk q) (B.by_ hk e)
    · have : PL (b 10) (b 0 10) k = b 0 10 := by unfold pA0 at a1 e; omega
      rw [this, cc_end]
      omega
theorem rSt_11 : rSt b g f k S w 0 11 = tk (b 10) (b 0 10) (pA0 b k) := by
  unfold rSt pA0
  simp
theorem rSt_12 : rSt b g f k S w 0 12 = pA0 b k := by
  unfold rSt pA0
  simp
theorem rSt_13 : rSt b g f k S w 0 13 = te (b 10) (b 0 10) (pA0 b k) := by
  unfold rSt pA0
  simp
theorem rSt_14 : rSt b g f k S w 0 14 = tv (b 10) (b 0 10) (pA0 b k) := by
  unfold rSt pA0
  simp
theorem rSt_15 : rSt b g f k S w 0 15 = f := by
  unfold rSt
  simp
theorem rSt_19 : rSt b g f k S w 0 19 = (S.length : Int) := by
  unfold rSt
  simp
theorem rSt_20 : rSt b g f k S w 0 20 = (w.length : Int) := by
  unfold rSt
  simp
theorem rSt_0 {j : Int} (h1 : ¬ (11 ≤ j ∧ j ≤ 15)) (h2 : j ≠ 19) (h3 : j ≠ 20) : rSt b g f k S w 0 j = b 0 j := by
  unfold rSt
  rw [if_pos rfl, if_neg (by omega), if_neg (by omega), if_neg (by omega), if_neg (by omega), if_neg (by omega), if_neg h2, if_neg h3]
theorem rSt_o {q : Nat} (h0 : q ≠ 0) (h1 : q ≠ 12) (h2 : q ≠ 13) : rSt b g f k S w q = b q := by
  funext j
  unfold rSt
  rw [if_neg h0, if_neg h1, if_neg h2]
theorem rSt_S {j : Int} (h0 : 0 ≤ j) (h1 : j < (S.length : Int)) : rSt b g f k S w 12 j = S.getD j.toNat 0 := by
  unfold rSt
  rw [if_neg (by omega), if_pos rfl, if_pos ⟨h0, h1⟩]
theorem rSt_w {j : Int} (h0 : 0 ≤ j) (h1 : j < (w.length : Int)) : rSt b g f k S w 13 j = w.getD (w.length - 1 - j.toNat) 0 := by
  unfold rSt
  rw [if_neg (by omega), if_neg (by omega), if_pos rfl, if_pos ⟨h0, h1⟩]
theorem rSt_top {x : Int} : rSt b g f k S (x :: w) 13 (w.length : Int) = x := by
  rw [rSt_w (by omega) (by rw [List.length_cons]; omega), List.length_cons]
  have : w.length + 1 - 1 - (w.length : Int).toNat = 0 := by omega
  rw [this]; rfl
theorem rSt_emit (x : Int) : s3 (s3 (rSt b g f k S w) 12 (S.length : Int) x) 0 19 ((S.length : Int) + 1) = rSt b g f k (S ++ [x]) w := by
  have el : (((S ++ [x]).length : Nat) : Int) = (S.length : Int) + 1 := by rw [List.length_append]; rfl
  funext q j
  by_cases e : q = 0 ∧ j = 19
  · rw [e.1, e.2, s3_at, rSt_19, el]
  · rw [s3_ne (by omega)]
    by_cases e2 : q = 12 ∧ j = (S.length : Int)
    · rw [e2.1, e2.2, s3_at, rSt_S (by omega) (by omega)]
      simp
    · rw [s3_ne (by omega)]
      unfold rSt
      by_cases e0 : q = 0
      · have : j ≠ 19 := by omega
        rw [if_pos e0, if_pos e0]
        simp only [this, if_false]
      · rw [if_neg e0, if_neg e0]
        by_cases e3 : q = 12
        · rw [if_pos e3, if_pos e3]
          by_cases e4 : 0 ≤ j ∧ j < (S.length : Int)
          · rw [if_pos e4, if_pos ⟨e4.1, by omega⟩, List.getD_eq_getElem?_getD, List.getD_eq_getElem?_getD, List.getElem?_append_left (by omega)]
          · rw [if_neg e4, if_neg (by omega)]
        · rw [if_neg e3, if_neg e3]
theorem rSt_push (x : Int) : s3 (s3 (rSt b g f k S w) 13 (w.length : Int) x) 0 20 ((w.length : Int) + 1) = rSt b g f k S (x :: w) := by
  have el : (((x :: w).length : Nat) : Int) = (w.length : Int) + 1 := by rw [List.length_cons]; rfl
  funext q j
  by_cases e : q = 0 ∧ j = 20
  · rw [e.1, e.2, s3_at, rSt_20, el]
  · rw [s3_ne (by omega)]
    by_cases e2 : q = 13 ∧ j = (w.length : Int)
    · rw [e2.1, e2.2, s3_at, rSt_top]
    · rw [s3_ne (by omega)]
      unfold rSt
      by_cases e0 : q = 0
      · have : j ≠ 20 := by omega
        rw [if_pos e0, if_pos e0]
        simp only [this, if_false]
      · rw [if_neg e0, if_neg e0]
        by_cases e3 : q = 12
        · rw [if_pos e3, if_pos e3]
        · rw [if_neg e3, if_neg e3]
          by_cases e5 : q = 13
          · rw [if_pos e5, if_pos e5]
            by_cases e4 : 0 ≤ j ∧ j < (w.length : Int)
            · rw [if_pos e4, if_pos ⟨e4.1, by omega⟩, List.length_cons]
              have : w.length + 1 - 1 - j.toNat = (w.length - 1 - j.toNat) + 1 := by omega
              rw [this, List.getD_eq_getElem?_getD, List.getD_eq_getElem?_getD, List.getElem?_cons_succ]
            · rw [if_neg e4, if_neg (by omega)]
          · rw [if_neg e5, if_neg e5]
theorem rSt_pop (x : Int) : s3 (rSt b g f k S (x :: w)) 0 20 (w.length : Int) = rSt b (fun j => if j = (w.length : Int) then x else g j) f k S w := by
  funext q j
  by_cases e : q = 0 ∧ j = 20
  · rw [e.1, e.2, s3_at, rSt_20]
  · rw [s3_ne (by omega)]
    by_cases e2 : q = 13 ∧ j = (w.length : Int)
    · rw [e2.1, e2.2, rSt_top]
      unfold rSt
      rw [if_neg (by omega), if_neg (by omega), if_pos rfl, if_neg (by omega)]
      dsimp only
      rw [if_pos rfl]
    · unfold rSt
      by_cases e0 : q = 0
      · have : j ≠ 20 := by omega
        rw [if_pos e0, if_pos e0]
        simp only [this, if_false]
      · rw [if_neg e0, if_neg e0]
        by_cases e3 : q = 12
        · rw [if_pos e3, if_pos e3]
        · rw [if_neg e3, if_neg e3]
          by_cases e5 : q = 13
          · rw [if_pos e5, if_pos e5, List.length_cons]
            have : j ≠ (w.length : Int) := by omega
            by_cases e4 : 0 ≤ j ∧ j < (w.length : Int)
            · rw [if_pos e4, if_pos ⟨e4.1, by omega⟩]
              have : w.length + 1 - 1 - j.toNat = (w.length - 1 - j.toNat) + 1 := by omega
              rw [this, List.getD_eq_getElem?_getD, List.getD_eq_getElem?_getD, List.getElem?_cons_succ]
            · rw [if_neg e4, if_neg (by omega)]
              dsimp only
              rw [if_neg this]
          · rw [if_neg e5, if_neg e5]
theorem rSt_fault (v : Int) : s3 (rSt b g f k S w) 0 15 v = rSt b g v k S w := by
  funext q j
  by_cases e : q = 0 ∧ j = 15
  · rw [e.1, e.2, s3_at, rSt_15]
  · rw [s3_ne (by omega)]
    unfold rSt
    by_cases e0 : q = 0
    · have : j ≠ 15 := by omega
      rw [if_pos e0, if_pos e0]
      simp only [this, if_false]
    · rw [if_neg e0, if_neg e0]
/-- what all numbers keep to -/
abbrev QR (g : Int → Int) (f k : Int) (S w : List Int) : Prop := (∀ j, i32 (g j)) ∧ i32 f ∧ (∀ x, x ∈ S → i32 x) ∧ (∀ x, x ∈ w → i32 x) ∧ 0 ≤ k ∧ (S.length : Int) + w.length ≤ 255
theorem getD_i {l : List Int} (hl : ∀ x, x ∈ l → i32 x) (i : Nat) : i32 (l.getD i 0) := by
  rw [List.getD_eq_getElem?_getD]
  rcases Nat.lt_or_ge i l.length with q | q
  · rw [List.getElem?_eq_getElem q]; exact hl _ (List.getElem_mem q)
  · rw [List.getElem?_eq_none q]; exact ⟨by decide, by decide⟩
theorem tv_ok (B : BR b) (h0 : 0 ≤ k) : i32 (tv (b 10) (b 0 10) (pA0 b k)) := by
  have a1 := B.a h0
  by_cases e : pA0 b k < b 0 10
  · exact tv_i a1.2 (fun q => B.c0 h0 q) (B.by_ h0 e)
  · have : pA0 b k = b 0 10 := by omega
    rw [this, tv_end]
    exact ⟨by omega, by omega⟩
theorem tk_b (t : Int → Int) (n a : Int) : 0 ≤ tk t n a ∧ tk t n a ≤ 3 := by
  unfold tk
  repeat' split
  all_goals omega
theorem rSt_ok (B : BR b) (Q : QR g f k S w) : okG (rSt b g f k S w) := fun q j => by
  have a1 := B.a Q.2.2.2.2.1
  have n0 := B.n
  have t1 := te_b (b 10) a1.2
  have t2 := tk_b (b 10) (b 0 10) (pA0 b k)
  have t3 := tv_ok B Q.2.2.2.2.1
  unfold rSt
  by_cases e0 : q = 0
  · rw [if_pos e0]
    show i32 (if j = 11 then tk (b 10) (b 0 10) (pA0 b k) else if j = 12 then pA0 b k else if j = 13 then te (b 10) (b 0 10) (pA0 b k) else if j = 14 then tv (b 10) (b 0 10) (pA0 b k) else if j = 15 then f else if j = 19 then (S.length : Int) else if j = 20 then (w.length : Int) else b 0 j)
    by_cases e1 : j = 11
    · rw [if_pos e1]; exact ⟨by omega, by omega⟩
    · rw [if_neg e1]
      by_cases e2 : j = 12
      · rw [if_pos e2]; exact ⟨by omega, by omega⟩
      · rw [if_neg e2]
        by_cases e3 : j = 13
        · rw [if_pos e3]; exact ⟨by omega, by omega⟩
        · rw [if_neg e3]
          by_cases e4 : j = 14
          · rw [if_pos e4]; exact t3
          · rw [if_neg e4]
            by_cases e5 : j = 15
            · rw [if_pos e5]; exact Q.2.1
            · rw [if_neg e5]
              by_cases e6 : j = 19
              · rw [if_pos e6]; exact ⟨by omega, by omega⟩
              · rw [if_neg e6]
                by_cases e7 : j = 20
                · rw [if_pos e7]; exact ⟨by omega, by omega⟩
                · rw [if_neg e7]; exact B.1 0 j
  · rw [if_neg e0]
    by_cases e1 : q = 12
    · rw [if_pos e1]
      split
      · exact getD_i Q.2.2.1 _
      · exact B.1 12 j
    · rw [if_neg e1]
      by_cases e2 : q = 13
      · rw [if_pos e2]
        split
        · exact getD_i Q.2.2.2.1 _
        · exact Q.1 j
      · rw [if_neg e2]; exact B.1 q j
theorem rSt_ty (B : BR b) : TY (rSt b g f k S w) := by
  have e1 : rSt b g f k S w 10 = b 10 := rSt_o (by omega) (by omega) (by omega)
  have e2 : rSt b g f k S w 14 = b 14 := rSt_o (by omega) (by omega) (by omega)
  have e3 : rSt b g f k S w 0 10 = b 0 10 := rSt_0 (by omega) (by omega) (by omega)
  unfold TY
  rw [e1, e2, e3]
  exact B.2
theorem R_advance (hM : OKM M h) (B : BR b) (Q : QR g f k S w) : m12_advance M (mK M (rSt b g f k S w) h) = some ((), mK M (rSt b g f (k + 1) S w) h) := by
  have e1 : rSt b g f k S w 10 = b 10 := rSt_o (by omega) (by omega) (by omega)
  have e3 : rSt b g f k S w 0 10 = b 0 10 := rSt_0 (by omega) (by omega) (by omega)
  have a1 := B.a Q.2.2.2.2.1
  have t1 := te_b (b 10) a1.2
  have h1 := B_advance (h := h) hM (rSt_ok B Q) (rSt_ty B) (by rw [rSt_13]; omega) (by rw [rSt_13, e3]; omega)
  rw [rSt_13, e1, e3] at h1
  have e5 : sAt (rSt b g f k S w) (sk (b 10) (b 0 10) (te (b 10) (b 0 10) (pA0 b k))) = rSt b g f (k + 1) S w := by
    have es : sk (b 10) (b 0 10) (te (b 10) (b 0 10) (pA0 b k)) = PL (b 10) (b 0 10) (k + 1) := (PL_s (b 10) B.n.1 Q.2.2.2.2.1).symm
    rw [es]
    funext q j
    unfold sAt
    rw [e1, e3]
    by_cases e0 : q = 0
    · subst e0
      rw [if_pos rfl]
      by_cases c1 : j = 11
      · rw [if_pos c1, c1]; rfl
      · rw [if_neg c1]
        by_cases c2 : j = 12
        · rw [if_pos c2, c2]; rfl
        · rw [if_neg c2]
          by_cases c3 : j = 13
          · rw [if_pos c3, c3]; rfl
          · rw [if_neg c3]
            by_cases c4 : j = 14
            · rw [if_pos c4, c4]; rfl
            · rw [if_neg c4]
              unfold rSt
              rw [if_pos rfl, if_pos rfl, if_neg c1, if_neg c2, if_neg c3, if_neg c4, if_neg c1, if_neg c2, if_neg c3, if_neg c4]
    · rw [if_neg e0]
      unfold rSt
      rw [if_neg e0, if_neg e0]
  rw [e5] at h1
  exact h1
theorem R_isGood (hM : OKM M h) (Q : QR g f k S w) : m12_isGood M (mK M (rSt b g f k S w) h) = some (iI (b2 (f < 0)), mK M (rSt b g f k S w) h) := by
  have i2 := Q.2.1
  unfold m12_isGood m12_isGood_p12
  simp (config := { maxSteps := 1000000 }) (disch := first | assumption | exact W.i _ _ | exact sLine_i W _ _ _ | exact W1.i _ _ | exact hg _ _ | exact W3.i _ _ | (refine ⟨?_, ?_⟩ <;> omega) | omega | (simp only [sW_1, sW_2, sW_3, sW_4, sW_5, sW_8] <;> first | assumption | omega | (refine ⟨?_, ?_⟩ <;> omega)) | (simp only [sT_1, sT_2, sT_3, sT_4, sT_5, sT_8] <;> first | assumption | omega | (refine ⟨?_, ?_⟩ <;> omega)) | (simp only [List.length_append, List.length_cons, List.length_nil, Nat.reduceAdd] <;> omega)) only [Int.reduceEq, Int.reduceLT, Int.reduceLE, Int.reduceNeg, Int.reduceAdd, Int.reduceSub, Int.reduceMul, if_true, if_false, not_true, not_false_eq_true, false_or, or_false, true_or, or_true, true_and, and_true, false_and, and_false, iI_on, iI_mul, iI_add, iI_sub, iI_neg, ap_if, mp_eq, mz_0, mz_1, mz_b, b2_0, b2_1, iI_lt, iI_le, iI_inj, mb_div, mb_rem, hM.m, hM.a1, hM.a2, hM.a3, hM.a4, hM.a5, hM.a6, hM.a7, hM.a8, hM.a9, hM.a10, hM.a11, hM.a12, hM.a13, hM.a14, hM.a15, hM.a16, hM.a17, hM.a18, hM.a19, hM.a20, hM.a21, hM.a22, hM.a23, hM.a24, hM.a25, hM.a26, hM.a27, hM.a28, hM.l1, hM.l2, hM.l3, hM.l4, hM.l5, hM.l6, hM.l7, hM.l8, hM.l9, hM.l10, hM.l11, hM.l12, hM.l13, hM.l14, hM.l15, hM.l16, hM.l17, hM.l18, hM.l19, hM.l20, hM.l21, hM.l22, hM.l23, hM.l24, hM.l25, hM.l26, hM.l27, hM.l28, hM.c10, hM.c11, hM.c12, hM.c13, hM.c14, hM.c15, hM.c19, hM.c20, hM.c23, hM.c27, hM.c36, hM.c37, hM.c38, hM.c40, hM.c41, hM.c42, hM.c44, hM.sc 15, rSt_15]
  by_cases c : f < 0
  · rw [if_neg (by omega), b2_t c]
  · rw [if_pos (by omega), b2_f c]
theorem R_wrong (hM : OKM M h) (Q : QR g f k S w) : m12_wrong M (mK M (rSt b g f k S w) h) = some ((), mK M (rSt b g (if f < 0 then pA0 b k else f) k S w) h) := by
  have i2 := Q.2.1
  unfold m12_wrong m12_wrong_p19
  by_cases c : f < 0
  · rw [if_pos c]
    simp (config := { maxSteps := 1000000 }) (disch := first | assumption | exact W.i _ _ | exact sLine_i W _ _ _ | exact W1.i _ _ | exact hg _ _ | exact W3.i _ _ | (refine ⟨?_, ?_⟩ <;> omega) | omega | (simp only [sW_1, sW_2, sW_3, sW_4, sW_5, sW_8] <;> first | assumption | omega | (refine ⟨?_, ?_⟩ <;> omega)) | (simp only [sT_1, sT_2, sT_3, sT_4, sT_5, sT_8] <;> first | assumption | omega | (refine ⟨?_, ?_⟩ <;> omega)) | (simp only [List.length_append, List.length_cons, List.length_nil, Nat.reduceAdd] <;> omega)) only [Int.reduceEq, Int.reduceLT, Int.reduceLE, Int.reduceNeg, Int.reduceAdd, Int.reduceSub, Int.reduceMul, if_true, if_false, not_true, not_false_eq_true, false_or, or_false, true_or, or_true, true_and, and_true, false_and, and_false, iI_on, iI_mul, iI_add, iI_sub, iI_neg, ap_if, mp_eq, mz_0, mz_1, mz_b, b2_0, b2_1, iI_lt, iI_le, iI_inj, mb_div, mb_rem, hM.m, hM.a1, hM.a2, hM.a3, hM.a4, hM.a5, hM.a6, hM.a7, hM.a8, hM.a9, hM.a10, hM.a11, hM.a12, hM.a13, hM.a14, hM.a15, hM.a16, hM.a17, hM.a18, hM.a19, hM.a20, hM.a21, hM.a22, hM.a23, hM.a24, hM.a25, hM.a26, hM.a27, hM.a28, hM.l1, hM.l2, hM.l3, hM.l4, hM.l5, hM.l6, hM.l7, hM.l8, hM.l9, hM.l10, hM.l11, hM.l12, hM.l13, hM.l14, hM.l15, hM.l16, hM.l17, hM.l18, hM.l19, hM.l20, hM.l21, hM.l22, hM.l23, hM.l24, hM.l25, hM.l26, hM.l27, hM.l28, hM.c10, hM.c11, hM.c12, hM.c13, hM.c14, hM.c15, hM.c19, hM.c20, hM.c23, hM.c27, hM.c36, hM.c37, hM.c38, hM.c40, hM.c41, hM.c42, hM.c44, hM.w1, hM.w2, hM.w3, hM.w4, hM.w5, hM.w6, hM.w7, hM.w8, hM.w9, hM.w10, hM.w11, hM.w12, hM.w13, hM.w14, hM.w15, hM.w16, hM.w17, hM.w18, hM.w19, hM.w20, hM.w21, hM.w22, hM.w23, hM.w24, hM.w25, hM.w26, hM.w27, hM.w28, hM.p10, hM.p11, hM.p12, hM.p13, hM.p14, hM.p15, hM.p19, hM.p20, hM.p23, hM.p27, hM.p36, hM.p37, hM.p38, hM.p40, hM.p41, hM.p42, hM.p44, s3_at, s3_nk, s3_nj, hM.sc 15, hM.sc 12, hM.ps 15, rSt_15, rSt_12, show ¬ 0 ≤ f by omega, rSt_fault]
  · rw [if_neg c]
    simp (config := { maxSteps := 1000000 }) (disch := first | assumption | exact W.i _ _ | exact sLine_i W _ _ _ | exact W1.i _ _ | exact hg _ _ | exact W3.i _ _ | (refine ⟨?_, ?_⟩ <;> omega) | omega | (simp only [sW_1, sW_2, sW_3, sW_4, sW_5, sW_8] <;> first | assumption | omega | (refine ⟨?_, ?_⟩ <;> omega)) | (simp only [sT_1, sT_2, sT_3, sT_4, sT_5, sT_8] <;> first | assumption | omega | (refine ⟨?_, ?_⟩ <;> omega)) | (simp only [List.length_append, List.length_cons, List.length_nil, Nat.reduceAdd] <;> omega)) only [Int.reduceEq, Int.reduceLT, Int.reduceLE, Int.reduceNeg, Int.reduceAdd, Int.reduceSub, Int.reduceMul, if_true, if_false, not_true, not_false_eq_true, false_or, or_false, true_or, or_true, true_and, and_true, false_and, and_false, iI_on, iI_mul, iI_add, iI_sub, iI_neg, ap_if, mp_eq, mz_0, mz_1, mz_b, b2_0, b2_1, iI_lt, iI_le, iI_inj, mb_div, mb_rem, hM.m, hM.a1, hM.a2, hM.a3, hM.a4, hM.a5, hM.a6, hM.a7, hM.a8, hM.a9, hM.a10, hM.a11, hM.a12, hM.a13, hM.a14, hM.a15, hM.a16, hM.a17, hM.a18, hM.a19, hM.a20, hM.a21, hM.a22, hM.a23, hM.a24, hM.a25, hM.a26, hM.a27, hM.a28, hM.l1, hM.l2, hM.l3, hM.l4, hM.l5, hM.l6, hM.l7, hM.l8, hM.l9, hM.l10, hM.l11, hM.l12, hM.l13, hM.l14, hM.l15, hM.l16, hM.l17, hM.l18, hM.l19, hM.l20, hM.l21, hM.l22, hM.l23, hM.l24, hM.l25, hM.l26, hM.l27, hM.l28, hM.c10, hM.c11, hM.c12, hM.c13, hM.c14, hM.c15, hM.c19, hM.c20, hM.c23, hM.c27, hM.c36, hM.c37, hM.c38, hM.c40, hM.c41, hM.c42, hM.c44, hM.w1, hM.w2, hM.w3, hM.w4, hM.w5, hM.w6, hM.w7, hM.w8, hM.w9, hM.w10, hM.w11, hM.w12, hM.w13, hM.w14, hM.w15, hM.w16, hM.w17, hM.w18, hM.w19, hM.w20, hM.w21, hM.w22, hM.w23, hM.w24, hM.w25, hM.w26, hM.w27, hM.w28, hM.p10, hM.p11, hM.p12, hM.p13, hM.p14, hM.p15, hM.p19, hM.p20, hM.p23, hM.p27, hM.p36, hM.p37, hM.p38, hM.p40, hM.p41, hM.p42, hM.p44, s3_at, s3_nk, s3_nj, hM.sc 15, hM.sc 12, hM.ps 15, rSt_15, rSt_12, show 0 ≤ f by omega, rSt_fault]
theorem R_isWord (hM : OKM M h) (B : BR b) (Q : QR g f k S w) (i : Nat) (hi : i < 21) : m12_isWord M (iI (Hs i)) (mK M (rSt b g f k S w) h) = some (iI (b2 (CD b k = 1000 + i)), mK M (rSt b g f k S w) h) := by
  have h0 := Q.2.2.2.2.1
  have a1 := B.a h0
  have ih : i32 (Hs i) := by
    have : ∀ i : Fin 21, i32 (Hs i.val) := by decide +kernel
    exact this ⟨i, hi⟩
  have it := tv_ok B h0
  have t2 := tk_b (b 10) (b 0 10) (pA0 b k)
  have ik : i32 (tk (b 10) (b 0 10) (pA0 b k)) := ⟨by omega, by omega⟩
  have key : (tk (b 10) (b 0 10) (pA0 b k) = 1 ∧ tv (b 10) (b 0 10) (pA0 b k) = Hs i) ↔ CD b k = 1000 + i := by
    by_cases e : pA0 b k < b 0 10
    · exact cc_W a1.2 (fun q => B.c0 h0 q) (B.by_ h0 e).1 i hi
    · have e2 : pA0 b k = b 0 10 := by omega
      unfold CD
      show _ ↔ cc (b 10) (b 0 10) (pA0 b k) = _
      rw [e2, tk_end, cc_end]
      omega
  rw [b2_c key.symm]
  unfold m12_isWord m12_isWord_p20 m12_isWord_p21
  generalize Hs i = H at *
  simp (config := { maxSteps := 1000000 }) (disch := first | assumption | exact W.i _ _ | exact sLine_i W _ _ _ | exact W1.i _ _ | exact hg _ _ | exact W3.i _ _ | (refine ⟨?_, ?_⟩ <;> omega) | omega | (simp only [sW_1, sW_2, sW_3, sW_4, sW_5, sW_8] <;> first | assumption | omega | (refine ⟨?_, ?_⟩ <;> omega)) | (simp only [sT_1, sT_2, sT_3, sT_4, sT_5, sT_8] <;> first | assumption | omega | (refine ⟨?_, ?_⟩ <;> omega)) | (simp only [List.length_append, List.length_cons, List.length_nil, Nat.reduceAdd] <;> omega)) only [Int.reduceEq, Int.reduceLT, Int.reduceLE, Int.reduceNeg, Int.reduceAdd, Int.reduceSub, Int.reduceMul, if_true, if_false, not_true, not_false_eq_true, false_or, or_false, true_or, or_true, true_and, and_true, false_and, and_false, iI_on, iI_mul, iI_add, iI_sub, iI_neg, ap_if, mp_eq, mz_0, mz_1, mz_b, b2_0, b2_1, iI_lt, iI_le, iI_inj, mb_div, mb_rem, hM.m, hM.a1, hM.a2, hM.a3, hM.a4, hM.a5, hM.a6, hM.a7, hM.a8, hM.a9, hM.a10, hM.a11, hM.a12, hM.a13, hM.a14, hM.a15, hM.a16, hM.a17, hM.a18, hM.a19, hM.a20, hM.a21, hM.a22, hM.a23, hM.a24, hM.a25, hM.a26, hM.a27, hM.a28, hM.l1, hM.l2, hM.l3, hM.l4, hM.l5, hM.l6, hM.l7, hM.l8, hM.l9, hM.l10, hM.l11, hM.l12, hM.l13, hM.l14, hM.l15, hM.l16, hM.l17, hM.l18, hM.l19, hM.l20, hM.l21, hM.l22, hM.l23, hM.l24, hM.l25, hM.l26, hM.l27, hM.l28, hM.c10, hM.c11, hM.c12, hM.c13, hM.c14, hM.c15, hM.c19, hM.c20, hM.c23, hM.c27, hM.c36, hM.c37, hM.c38, hM.c40, hM.c41, hM.c42, hM.c44, hM.sc 11, hM.sc 14, rSt_11, rSt_14]
  by_cases c1 : tk (b 10) (b 0 10) (pA0 b k) = 1
  · rw [if_pos c1]
    by_cases c2 : tv (b 10) (b 0 10) (pA0 b k) = H
    · rw [if_pos c2, b2_t ⟨c1, c2⟩]
    · rw [if_neg c2, b2_f (fun q => c2 q.2)]
  · rw [if_neg c1, b2_f (fun q => c1 q.1)]
theorem R_isMark (hM : OKM M h) (B : BR b) (Q : QR g f k S w) {m : Int} (hm : 0 ≤ m ∧ m ≤ 255) : m12_isMark M (iI m) (mK M (rSt b g f k S w) h) = some (iI (b2 (CD b k = 2000 + m)), mK M (rSt b g f k S w) h) := by
  have h0 := Q.2.2.2.2.1
  have a1 := B.a h0
  have it := tv_ok B h0
  have t2 := tk_b (b 10) (b 0 10) (pA0 b k)
  have ik : i32 (tk (b 10) (b 0 10) (pA0 b k)) := ⟨by omega, by omega⟩
  have key : (tk (b 10) (b 0 10) (pA0 b k) = 3 ∧ tv (b 10) (b 0 10) (pA0 b k) = m) ↔ CD b k = 2000 + m := by
    by_cases e : pA0 b k < b 0 10
    · exact cc_M a1.2 (fun q => B.c0 h0 q) (B.by_ h0 e) hm
    · have e2 : pA0 b k = b 0 10 := by omega
      unfold CD
      show _ ↔ cc (b 10) (b 0 10) (pA0 b k) = _
      rw [e2, tk_end, cc_end]
      omega
  rw [b2_c key.symm]
  unfold m12_isMark m12_isMark_p20 m12_isMark_p21
  simp (config := { maxSteps := 1000000 }) (disch := first | assumption | exact W.i _ _ | exact sLine_i W _ _ _ | exact W1.i _ _ | exact hg _ _ | exact W3.i _ _ | (refine ⟨?_, ?_⟩ <;> omega) | omega | (simp only [sW_1, sW_2, sW_3, sW_4, sW_5, sW_8] <;> first | assumption | omega | (refine ⟨?_, ?_⟩ <;> omega)) | (simp only [sT_1, sT_2, sT_3, sT_4, sT_5, sT_8] <;> first | assumption | omega | (refine ⟨?_, ?_⟩ <;> omega)) | (simp only [List.length_append, List.length_cons, List.length_nil, Nat.reduceAdd] <;> omega)) only [Int.reduceEq, Int.reduceLT, Int.reduceLE, Int.reduceNeg, Int.reduceAdd, Int.reduceSub, Int.reduceMul, if_true, if_false, not_true, not_false_eq_true, false_or, or_false, true_or, or_true, true_and, and_true, false_and, and_false, iI_on, iI_mul, iI_add, iI_sub, iI_neg, ap_if, mp_eq, mz_0, mz_1, mz_b, b2_0, b2_1, iI_lt, iI_le, iI_inj, mb_div, mb_rem, hM.m, hM.a1, hM.a2, hM.a3, hM.a4, hM.a5, hM.a6, hM.a7, hM.a8, hM.a9, hM.a10, hM.a11, hM.a12, hM.a13, hM.a14, hM.a15, hM.a16, hM.a17, hM.a18, hM.a19, hM.a20, hM.a21, hM.a22, hM.a23, hM.a24, hM.a25, hM.a26, hM.a27, hM.a28, hM.l1, hM.l2, hM.l3, hM.l4, hM.l5, hM.l6, hM.l7, hM.l8, hM.l9, hM.l10, hM.l11, hM.l12, hM.l13, hM.l14, hM.l15, hM.l16, hM.l17, hM.l18, hM.l19, hM.l20, hM.l21, hM.l22, hM.l23, hM.l24, hM.l25, hM.l26, hM.l27, hM.l28, hM.c10, hM.c11, hM.c12, hM.c13, hM.c14, hM.c15, hM.c19, hM.c20, hM.c23, hM.c27, hM.c36, hM.c37, hM.c38, hM.c40, hM.c41, hM.c42, hM.c44, hM.sc 11, hM.sc 14, rSt_11, rSt_14]
  by_cases c1 : tk (b 10) (b 0 10) (pA0 b k) = 3
  · rw [if_pos c1]
    by_cases c2 : tv (b 10) (b 0 10) (pA0 b k) = m
    · rw [if_pos c2, b2_t ⟨c1, c2⟩]
    · rw [if_neg c2, b2_f (fun q => c2 q.2)]
  · rw [if_neg c1, b2_f (fun q => c1 q.1)]
theorem R_atEnd (hM : OKM M h) (B : BR b) (Q : QR g f k S w) : (tk (b 10) (b 0 10) (pA0 b k) = 0) ↔ CD b k = 3000 := by
  have h0 := Q.2.2.2.2.1
  have a1 := B.a h0
  by_cases e : pA0 b k < b 0 10
  · exact cc_E a1.2 (B.by_ h0 e)
  · have e2 : pA0 b k = b 0 10 := by omega
    unfold CD
    show _ ↔ cc (b 10) (b 0 10) (pA0 b k) = _
    rw [e2, tk_end, cc_end]
    omega
theorem QR.fa (Q : QR g f k S w) {v : Int} (hv : i32 v) : QR g v k S w := ⟨Q.1, hv, Q.2.2.1, Q.2.2.2.1, Q.2.2.2.2.1, Q.2.2.2.2.2⟩
theorem QR.nx (Q : QR g f k S w) : QR g f (k + 1) S w := ⟨Q.1, Q.2.1, Q.2.2.1, Q.2.2.2.1, by have := Q.2.2.2.2.1; omega, Q.2.2.2.2.2⟩
theorem pA0_i (B : BR b) (h0 : 0 ≤ k) : i32 (pA0 b k) := by
  have := B.a h0
  have := B.n
  exact ⟨by omega, by omega⟩
/-- where a number is wanted -/
theorem R_wantNumber (hM : OKM M h) (B : BR b) (Q : QR g f k S w) (hf : f < 0) {l m : Int} (hl : 0 ≤ l) (hm : m ≤ 999) (il : i32 l) (im : i32 m) : m12_wantNumber M (iI l) (iI m) (mK M (rSt b g f k S w) h) = some (iI (tv (b 10) (b 0 10) (pA0 b k)), mK M (if l ≤ CD b k ∧ CD b k ≤ m then rSt b g f (k + 1) S w else rSt b g (pA0 b k) k S w) h) ∧ (l ≤ CD b k ∧ CD b k ≤ m → tv (b 10) (b 0 10) (pA0 b k) = CD b k) := by
  have h0 := Q.2.2.2.2.1
  have a1 := B.a h0
  have n0 := B.n
  have it := tv_ok B h0
  have t1 := te_b (b 10) a1.2
  have t2 := tk_b (b 10) (b 0 10) (pA0 b k)
  have hw := R_wrong (M := M) (b := b) (h := h) hM Q
  rw [if_pos hf] at hw
  have hg := R_isGood (M := M) (b := b) (h := h) hM Q
  rw [b2_t hf] at hg
  have key : ((tk (b 10) (b 0 10) (pA0 b k) = 2 ∧ te (b 10) (b 0 10) (pA0 b k) - pA0 b k ≤ 3) ↔ CD b k ≤ 999) ∧ (CD b k ≤ 999 → tv (b 10) (b 0 10) (pA0 b k) = CD b k) := by
    by_cases e : pA0 b k < b 0 10
    · have := cc_N a1.2 (fun q => B.c0 h0 q) (B.by_ h0 e).1
      exact ⟨this.1, this.2.1⟩
    · have e2 : pA0 b k = b 0 10 := by omega
      unfold CD
      show (_ ↔ cc (b 10) (b 0 10) (pA0 b k) ≤ _) ∧ (cc (b 10) (b 0 10) (pA0 b k) ≤ _ → tv (b 10) (b 0 10) (pA0 b k) = cc (b 10) (b 0 10) (pA0 b k))
      rw [e2, tk_end, cc_end]
      omega
  refine ⟨?_, fun q => key.2 (by omega)⟩
  have ha := R_advance (M := M) (h := h) hM B Q
  unfold m12_wantNumber m12_wantNumber_p49 m12_wantNumber_p53
  by_cases c1 : tk (b 10) (b 0 10) (pA0 b k) = 2
  · by_cases c2 : te (b 10) (b 0 10) (pA0 b k) - pA0 b k ≤ 3
    · have ec := key.2 (key.1.mp ⟨c1, c2⟩)
      by_cases c3 : l ≤ CD b k ∧ CD b k ≤ m
      · rw [if_pos c3]
        have c3' : l ≤ tv (b 10) (b 0 10) (pA0 b k) ∧ tv (b 10) (b 0 10) (pA0 b k) ≤ m := by omega
        simp (config := { maxSteps := 1000000 }) (disch := first | assumption | exact W.i _ _ | exact sLine_i W _ _ _ | exact W1.i _ _ | exact hg _ _ | exact W3.i _ _ | (refine ⟨?_, ?_⟩ <;> omega) | omega | (simp only [sW_1, sW_2, sW_3, sW_4, sW_5, sW_8] <;> first | assumption | omega | (refine ⟨?_, ?_⟩ <;> omega)) | (simp only [sT_1, sT_2, sT_3, sT_4, sT_5, sT_8] <;> first | assumption | omega | (refine ⟨?_, ?_⟩ <;> omega)) | (simp only [List.length_append, List.length_cons, List.length_nil, Nat.reduceAdd] <;> omega)) only [Int.reduceEq, Int.reduceLT, Int.reduceLE, Int.reduceNeg, Int.reduceAdd, Int.reduceSub, Int.reduceMul, if_true, if_false, not_true, not_false_eq_true, false_or, or_false, true_or, or_true, true_and, and_true, false_and, and_false, iI_on, iI_mul, iI_add, iI_sub, iI_neg, ap_if, mp_eq, mz_0, mz_1, mz_b, b2_0, b2_1, iI_lt, iI_le, iI_inj, mb_div, mb_rem, hM.m, hM.a1, hM.a2, hM.a3, hM.a4, hM.a5, hM.a6, hM.a7, hM.a8, hM.a9, hM.a10, hM.a11, hM.a12, hM.a13, hM.a14, hM.a15, hM.a16, hM.a17, hM.a18, hM.a19, hM.a20, hM.a21, hM.a22, hM.a23, hM.a24, hM.a25, hM.a26, hM.a27, hM.a28, hM.l1, hM.l2, hM.l3, hM.l4, hM.l5, hM.l6, hM.l7, hM.l8, hM.l9, hM.l10, hM.l11, hM.l12, hM.l13, hM.l14, hM.l15, hM.l16, hM.l17, hM.l18, hM.l19, hM.l20, hM.l21, hM.l22, hM.l23, hM.l24, hM.l25, hM.l26, hM.l27, hM.l28, hM.c10, hM.c11, hM.c12, hM.c13, hM.c14, hM.c15, hM.c19, hM.c20, hM.c23, hM.c27, hM.c36, hM.c37, hM.c38, hM.c40, hM.c41, hM.c42, hM.c44, hM.sc 11, hM.sc 12, hM.sc 13, hM.sc 14, rSt_11, rSt_12, rSt_13, rSt_14, mb_eq hg, c1, show ¬ 3 < te (b 10) (b 0 10) (pA0 b k) - pA0 b k by omega, mb_eq (B_in _ _ _ _), c3'.1, c3'.2, mb_eq ha]
      · rw [if_neg c3]
        have c3' : ¬ (l ≤ tv (b 10) (b 0 10) (pA0 b k) ∧ tv (b 10) (b 0 10) (pA0 b k) ≤ m) := by omega
        simp (config := { maxSteps := 1000000 }) (disch := first | assumption | exact W.i _ _ | exact sLine_i W _ _ _ | exact W1.i _ _ | exact hg _ _ | exact W3.i _ _ | (refine ⟨?_, ?_⟩ <;> omega) | omega | (simp only [sW_1, sW_2, sW_3, sW_4, sW_5, sW_8] <;> first | assumption | omega | (refine ⟨?_, ?_⟩ <;> omega)) | (simp only [sT_1, sT_2, sT_3, sT_4, sT_5, sT_8] <;> first | assumption | omega | (refine ⟨?_, ?_⟩ <;> omega)) | (simp only [List.length_append, List.length_cons, List.length_nil, Nat.reduceAdd] <;> omega)) only [Int.reduceEq, Int.reduceLT, Int.reduceLE, Int.reduceNeg, Int.reduceAdd, Int.reduceSub, Int.reduceMul, if_true, if_false, not_true, not_false_eq_true, false_or, or_false, true_or, or_true, true_and, and_true, false_and, and_false, iI_on, iI_mul, iI_add, iI_sub, iI_neg, ap_if, mp_eq, mz_0, mz_1, mz_b, b2_0, b2_1, iI_lt, iI_le, iI_inj, mb_div, mb_rem, hM.m, hM.a1, hM.a2, hM.a3, hM.a4, hM.a5, hM.a6, hM.a7, hM.a8, hM.a9, hM.a10, hM.a11, hM.a12, hM.a13, hM.a14, hM.a15, hM.a16, hM.a17, hM.a18, hM.a19, hM.a20, hM.a21, hM.a22, hM.a23, hM.a24, hM.a25, hM.a26, hM.a27, hM.a28, hM.l1, hM.l2, hM.l3, hM.l4, hM.l5, hM.l6, hM.l7, hM.l8, hM.l9, hM.l10, hM.l11, hM.l12, hM.l13, hM.l14, hM.l15, hM.l16, hM.l17, hM.l18, hM.l19, hM.l20, hM.l21, hM.l22, hM.l23, hM.l24, hM.l25, hM.l26, hM.l27, hM.l28, hM.c10, hM.c11, hM.c12, hM.c13, hM.c14, hM.c15, hM.c19, hM.c20, hM.c23, hM.c27, hM.c36, hM.c37, hM.c38, hM.c40, hM.c41, hM.c42, hM.c44, hM.sc 11, hM.sc 12, hM.sc 13, hM.sc 14, rSt_11, rSt_12, rSt_13, rSt_14, mb_eq hg, c1, show ¬ 3 < te (b 10) (b 0 10) (pA0 b k) - pA0 b k by omega, mb_eq (B_in _ _ _ _), mb_eq hw]
        rw [if_pos c3']
    · have c3 : ¬ (l ≤ CD b k ∧ CD b k ≤ m) := fun q => c2 (key.1.mpr (by omega)).2
      rw [if_neg c3]
      simp (config := { maxSteps := 1000000 }) (disch := first | assumption | exact W.i _ _ | exact sLine_i W _ _ _ | exact W1.i _ _ | exact hg _ _ | exact W3.i _ _ | (refine ⟨?_, ?_⟩ <;> omega) | omega | (simp only [sW_1, sW_2, sW_3, sW_4, sW_5, sW_8] <;> first | assumption | omega | (refine ⟨?_, ?_⟩ <;> omega)) | (simp only [sT_1, sT_2, sT_3, sT_4, sT_5, sT_8] <;> first | assumption | omega | (refine ⟨?_, ?_⟩ <;> omega)) | (simp only [List.length_append, List.length_cons, List.length_nil, Nat.reduceAdd] <;> omega)) only [Int.reduceEq, Int.reduceLT, Int.reduceLE, Int.reduceNeg, Int.reduceAdd, Int.reduceSub, Int.reduceMul, if_true, if_false, not_true, not_false_eq_true, false_or, or_false, true_or, or_true, true_and, and_true, false_and, and_false, iI_on, iI_mul, iI_add, iI_sub, iI_neg, ap_if, mp_eq, mz_0, mz_1, mz_b, b2_0, b2_1, iI_lt, iI_le, iI_inj, mb_div, mb_rem, hM.m, hM.a1, hM.a2, hM.a3, hM.a4, hM.a5, hM.a6, hM.a7, hM.a8, hM.a9, hM.a10, hM.a11, hM.a12, hM.a13, hM.a14, hM.a15, hM.a16, hM.a17, hM.a18, hM.a19, hM.a20, hM.a21, hM.a22, hM.a23, hM.a24, hM.a25, hM.a26, hM.a27, hM.a28, hM.l1, hM.l2, hM.l3, hM.l4, hM.l5, hM.l6, hM.l7, hM.l8, hM.l9, hM.l10, hM.l11, hM.l12, hM.l13, hM.l14, hM.l15, hM.l16, hM.l17, hM.l18, hM.l19, hM.l20, hM.l21, hM.l22, hM.l23, hM.l24, hM.l25, hM.l26, hM.l27, hM.l28, hM.c10, hM.c11, hM.c12, hM.c13, hM.c14, hM.c15, hM.c19, hM.c20, hM.c23, hM.c27, hM.c36, hM.c37, hM.c38, hM.c40, hM.c41, hM.c42, hM.c44, hM.sc 11, hM.sc 12, hM.sc 13, hM.sc 14, rSt_11, rSt_12, rSt_13, rSt_14, mb_eq hg, c1, show 3 < te (b 10) (b 0 10) (pA0 b k) - pA0 b k by omega, mb_eq hw]
  · have c3 : ¬ (l ≤ CD b k ∧ CD b k ≤ m) := fun q => c1 (key.1.mpr (by omega)).1
    rw [if_neg c3]
    simp (config := { maxSteps := 1000000 }) (disch := first | assumption | exact W.i _ _ | exact sLine_i W _ _ _ | exact W1.i _ _ | exact hg _ _ | exact W3.i _ _ | (refine ⟨?_, ?_⟩ <;> omega) | omega | (simp only [sW_1, sW_2, sW_3, sW_4, sW_5, sW_8] <;> first | assumption | omega | (refine ⟨?_, ?_⟩ <;> omega)) | (simp only [sT_1, sT_2, sT_3, sT_4, sT_5, sT_8] <;> first | assumption | omega | (refine ⟨?_, ?_⟩ <;> omega)) | (simp only [List.length_append, List.length_cons, List.length_nil, Nat.reduceAdd] <;> omega)) only [Int.reduceEq, Int.reduceLT, Int.reduceLE, Int.reduceNeg, Int.reduceAdd, Int.reduceSub, Int.reduceMul, if_true, if_false, not_true, not_false_eq_true, false_or, or_false, true_or, or_true, true_and, and_true, false_and, and_false, iI_on, iI_mul, iI_add, iI_sub, iI_neg, ap_if, mp_eq, mz_0, mz_1, mz_b, b2_0, b2_1, iI_lt, iI_le, iI_inj, mb_div, mb_rem, hM.m, hM.a1, hM.a2, hM.a3, hM.a4, hM.a5, hM.a6, hM.a7, hM.a8, hM.a9, hM.a10, hM.a11, hM.a12, hM.a13, hM.a14, hM.a15, hM.a16, hM.a17, hM.a18, hM.a19, hM.a20, hM.a21, hM.a22, hM.a23, hM.a24, hM.a25, hM.a26, hM.a27, hM.a28, hM.l1, hM.l2, hM.l3, hM.l4, hM.l5, hM.l6, hM.l7, hM.l8, hM.l9, hM.l10, hM.l11, hM.l12, hM.l13, hM.l14, hM.l15, hM.l16, hM.l17, hM.l18, hM.l19, hM.l20, hM.l21, hM.l22, hM.l23, hM.l24, hM.l25, hM.l26, hM.l27, hM.l28, hM.c10, hM.c11, hM.c12, hM.c13, hM.c14, hM.c15, hM.c19, hM.c20, hM.c23, hM.c27, hM.c36, hM.c37, hM.c38, hM.c40, hM.c41, hM.c42, hM.c44, hM.sc 11, hM.sc 12, hM.sc 13, hM.sc 14, rSt_11, rSt_12, rSt_13, rSt_14, mb_eq hg, c1, mb_eq hw]
theorem R_wantNumberB (hM : OKM M h) (B : BR b) (Q : QR g f k S w) (hf : 0 ≤ f) {l m : Int32} : m12_wantNumber M l m (mK M (rSt b g f k S w) h) = some (iI (tv (b 10) (b 0 10) (pA0 b k)), mK M (rSt b g f k S w) h) := by
  have hg := R_isGood (M := M) (b := b) (h := h) hM Q
  rw [b2_f (by omega)] at hg
  unfold m12_wantNumber m12_wantNumber_p53
  simp (config := { maxSteps := 1000000 }) (disch := first | assumption | exact W.i _ _ | exact sLine_i W _ _ _ | exact W1.i _ _ | exact hg _ _ | exact W3.i _ _ | (refine ⟨?_, ?_⟩ <;> omega) | omega | (simp only [sW_1, sW_2, sW_3, sW_4, sW_5, sW_8] <;> first | assumption | omega | (refine ⟨?_, ?_⟩ <;> omega)) | (simp only [sT_1, sT_2, sT_3, sT_4, sT_5, sT_8] <;> first | assumption | omega | (refine ⟨?_, ?_⟩ <;> omega)) | (simp only [List.length_append, List.length_cons, List.length_nil, Nat.reduceAdd] <;> omega)) only [Int.reduceEq, Int.reduceLT, Int.reduceLE, Int.reduceNeg, Int.reduceAdd, Int.reduceSub, Int.reduceMul, if_true, if_false, not_true, not_false_eq_true, false_or, or_false, true_or, or_true, true_and, and_true, false_and, and_false, iI_on, iI_mul, iI_add, iI_sub, iI_neg, ap_if, mp_eq, mz_0, mz_1, mz_b, b2_0, b2_1, iI_lt, iI_le, iI_inj, mb_div, mb_rem, hM.m, hM.a1, hM.a2, hM.a3, hM.a4, hM.a5, hM.a6, hM.a7, hM.a8, hM.a9, hM.a10, hM.a11, hM.a12, hM.a13, hM.a14, hM.a15, hM.a16, hM.a17, hM.a18, hM.a19, hM.a20, hM.a21, hM.a22, hM.a23, hM.a24, hM.a25, hM.a26, hM.a27, hM.a28, hM.l1, hM.l2, hM.l3, hM.l4, hM.l5, hM.l6, hM.l7, hM.l8, hM.l9, hM.l10, hM.l11, hM.l12, hM.l13, hM.l14, hM.l15, hM.l16, hM.l17, hM.l18, hM.l19, hM.l20, hM.l21, hM.l22, hM.l23, hM.l24, hM.l25, hM.l26, hM.l27, hM.l28, hM.c10, hM.c11, hM.c12, hM.c13, hM.c14, hM.c15, hM.c19, hM.c20, hM.c23, hM.c27, hM.c36, hM.c37, hM.c38, hM.c40, hM.c41, hM.c42, hM.c44, hM.sc 14, rSt_14, mb_eq hg]
/-- something is wanted -/
theorem R_want1 (hM : OKM M h) (B : BR b) (Q : QR g f k S w) (hf : f < 0) : m12_want M (iI 1) (mK M (rSt b g f k S w) h) = some ((), mK M (rSt b g f (k + 1) S w) h) := by
  have hg := R_isGood (M := M) (b := b) (h := h) hM Q
  rw [b2_t hf] at hg
  unfold m12_want m12_want_p22
  simp (config := { maxSteps := 1000000 }) (disch := first | assumption | exact W.i _ _ | exact sLine_i W _ _ _ | exact W1.i _ _ | exact hg _ _ | exact W3.i _ _ | (refine ⟨?_, ?_⟩ <;> omega) | omega | (simp only [sW_1, sW_2, sW_3, sW_4, sW_5, sW_8] <;> first | assumption | omega | (refine ⟨?_, ?_⟩ <;> omega)) | (simp only [sT_1, sT_2, sT_3, sT_4, sT_5, sT_8] <;> first | assumption | omega | (refine ⟨?_, ?_⟩ <;> omega)) | (simp only [List.length_append, List.length_cons, List.length_nil, Nat.reduceAdd] <;> omega)) only [Int.reduceEq, Int.reduceLT, Int.reduceLE, Int.reduceNeg, Int.reduceAdd, Int.reduceSub, Int.reduceMul, if_true, if_false, not_true, not_false_eq_true, false_or, or_false, true_or, or_true, true_and, and_true, false_and, and_false, iI_on, iI_mul, iI_add, iI_sub, iI_neg, ap_if, mp_eq, mz_0, mz_1, mz_b, b2_0, b2_1, iI_lt, iI_le, iI_inj, mb_div, mb_rem, hM.m, hM.a1, hM.a2, hM.a3, hM.a4, hM.a5, hM.a6, hM.a7, hM.a8, hM.a9, hM.a10, hM.a11, hM.a12, hM.a13, hM.a14, hM.a15, hM.a16, hM.a17, hM.a18, hM.a19, hM.a20, hM.a21, hM.a22, hM.a23, hM.a24, hM.a25, hM.a26, hM.a27, hM.a28, hM.l1, hM.l2, hM.l3, hM.l4, hM.l5, hM.l6, hM.l7, hM.l8, hM.l9, hM.l10, hM.l11, hM.l12, hM.l13, hM.l14, hM.l15, hM.l16, hM.l17, hM.l18, hM.l19, hM.l20, hM.l21, hM.l22, hM.l23, hM.l24, hM.l25, hM.l26, hM.l27, hM.l28, hM.c10, hM.c11, hM.c12, hM.c13, hM.c14, hM.c15, hM.c19, hM.c20, hM.c23, hM.c27, hM.c36, hM.c37, hM.c38, hM.c40, hM.c41, hM.c42, hM.c44, mb_eq hg, mb_eq (R_advance hM B Q)]
theorem R_want0 (hM : OKM M h) (Q : QR g f k S w) (hf : f < 0) : m12_want M (iI 0) (mK M (rSt b g f k S w) h) = some ((), mK M (rSt b g (pA0 b k) k S w) h) := by
  have hg := R_isGood (M := M) (b := b) (h := h) hM Q
  have hw := R_wrong (M := M) (b := b) (h := h) hM Q
  rw [if_pos hf] at hw
  rw [b2_t hf] at hg
  unfold m12_want m12_want_p22
  simp (config := { maxSteps := 1000000 }) (disch := first | assumption | exact W.i _ _ | exact sLine_i W _ _ _ | exact W1.i _ _ | exact hg _ _ | exact W3.i _ _ | (refine ⟨?_, ?_⟩ <;> omega) | omega | (simp only [sW_1, sW_2, sW_3, sW_4, sW_5, sW_8] <;> first | assumption | omega | (refine ⟨?_, ?_⟩ <;> omega)) | (simp only [sT_1, sT_2, sT_3, sT_4, sT_5, sT_8] <;> first | assumption | omega | (refine ⟨?_, ?_⟩ <;> omega)) | (simp only [List.length_append, List.length_cons, List.length_nil, Nat.reduceAdd] <;> omega)) only [Int.reduceEq, Int.reduceLT, Int.reduceLE, Int.reduceNeg, Int.reduceAdd, Int.reduceSub, Int.reduceMul, if_true, if_false, not_true, not_false_eq_true, false_or, or_false, true_or, or_true, true_and, and_true, false_and, and_false, iI_on, iI_mul, iI_add, iI_sub, iI_neg, ap_if, mp_eq, mz_0, mz_1, mz_b, b2_0, b2_1, iI_lt, iI_le, iI_inj, mb_div, mb_rem, hM.m, hM.a1, hM.a2, hM.a3, hM.a4, hM.a5, hM.a6, hM.a7, hM.a8, hM.a9, hM.a10, hM.a11, hM.a12, hM.a13, hM.a14, hM.a15, hM.a16, hM.a17, hM.a18, hM.a19, hM.a20, hM.a21, hM.a22, hM.a23, hM.a24, hM.a25, hM.a26, hM.a27, hM.a28, hM.l1, hM.l2, hM.l3, hM.l4, hM.l5, hM.l6, hM.l7, hM.l8, hM.l9, hM.l10, hM.l11, hM.l12, hM.l13, hM.l14, hM.l15, hM.l16, hM.l17, hM.l18, hM.l19, hM.l20, hM.l21, hM.l22, hM.l23, hM.l24, hM.l25, hM.l26, hM.l27, hM.l28, hM.c10, hM.c11, hM.c12, hM.c13, hM.c14, hM.c15, hM.c19, hM.c20, hM.c23, hM.c27, hM.c36, hM.c37, hM.c38, hM.c40, hM.c41, hM.c42, hM.c44, mb_eq hg, mb_eq hw]
theorem R_wantB (hM : OKM M h) (Q : QR g f k S w) (hf : 0 ≤ f) (z : Int32) : m12_want M z (mK M (rSt b g f k S w) h) = some ((), mK M (rSt b g f k S w) h) := by
  have hg := R_isGood (M := M) (b := b) (h := h) hM Q
  rw [b2_f (by omega)] at hg
  unfold m12_want m12_want_p22
  simp (config := { maxSteps := 1000000 }) (disch := first | assumption | exact W.i _ _ | exact sLine_i W _ _ _ | exact W1.i _ _ | exact hg _ _ | exact W3.i _ _ | (refine ⟨?_, ?_⟩ <;> omega) | omega | (simp only [sW_1, sW_2, sW_3, sW_4, sW_5, sW_8] <;> first | assumption | omega | (refine ⟨?_, ?_⟩ <;> omega)) | (simp only [sT_1, sT_2, sT_3, sT_4, sT_5, sT_8] <;> first | assumption | omega | (refine ⟨?_, ?_⟩ <;> omega)) | (simp only [List.length_append, List.length_cons, List.length_nil, Nat.reduceAdd] <;> omega)) only [Int.reduceEq, Int.reduceLT, Int.reduceLE, Int.reduceNeg, Int.reduceAdd, Int.reduceSub, Int.reduceMul, if_true, if_false, not_true, not_false_eq_true, false_or, or_false, true_or, or_true, true_and, and_true, false_and, and_false, iI_on, iI_mul, iI_add, iI_sub, iI_neg, ap_if, mp_eq, mz_0, mz_1, mz_b, b2_0, b2_1, iI_lt, iI_le, iI_inj, mb_div, mb_rem, hM.m, hM.a1, hM.a2, hM.a3, hM.a4, hM.a5, hM.a6, hM.a7, hM.a8, hM.a9, hM.a10, hM.a11, hM.a12, hM.a13, hM.a14, hM.a15, hM.a16, hM.a17, hM.a18, hM.a19, hM.a20, hM.a21, hM.a22, hM.a23, hM.a24, hM.a25, hM.a26, hM.a27, hM.a28, hM.l1, hM.l2, hM.l3, hM.l4, hM.l5, hM.l6, hM.l7, hM.l8, hM.l9, hM.l10, hM.l11, hM.l12, hM.l13, hM.l14, hM.l15, hM.l16, hM.l17, hM.l18, hM.l19, hM.l20, hM.l21, hM.l22, hM.l23, hM.l24, hM.l25, hM.l26, hM.l27, hM.l28, hM.c10, hM.c11, hM.c12, hM.c13, hM.c14, hM.c15, hM.c19, hM.c20, hM.c23, hM.c27, hM.c36, hM.c37, hM.c38, hM.c40, hM.c41, hM.c42, hM.c44, mb_eq hg]
theorem R_emit (hM : OKM M h) {x : Int} (hl : (S.length : Int) < 260) : m12_emit M (iI x) (mK M (rSt b g f k S w) h) = some ((), mK M (rSt b g f k (S ++ [x]) w) h) := by
  rw [← rSt_emit]
  unfold m12_emit
  simp (config := { maxSteps := 1000000 }) (disch := first | assumption | exact W.i _ _ | exact sLine_i W _ _ _ | exact W1.i _ _ | exact hg _ _ | exact W3.i _ _ | (refine ⟨?_, ?_⟩ <;> omega) | omega | (simp only [sW_1, sW_2, sW_3, sW_4, sW_5, sW_8] <;> first | assumption | omega | (refine ⟨?_, ?_⟩ <;> omega)) | (simp only [sT_1, sT_2, sT_3, sT_4, sT_5, sT_8] <;> first | assumption | omega | (refine ⟨?_, ?_⟩ <;> omega)) | (simp only [List.length_append, List.length_cons, List.length_nil, Nat.reduceAdd] <;> omega)) only [Int.reduceEq, Int.reduceLT, Int.reduceLE, Int.reduceNeg, Int.reduceAdd, Int.reduceSub, Int.reduceMul, if_true, if_false, not_true, not_false_eq_true, false_or, or_false, true_or, or_true, true_and, and_true, false_and, and_false, iI_on, iI_mul, iI_add, iI_sub, iI_neg, ap_if, mp_eq, mz_0, mz_1, mz_b, b2_0, b2_1, iI_lt, iI_le, iI_inj, mb_div, mb_rem, hM.m, hM.a1, hM.a2, hM.a3, hM.a4, hM.a5, hM.a6, hM.a7, hM.a8, hM.a9, hM.a10, hM.a11, hM.a12, hM.a13, hM.a14, hM.a15, hM.a16, hM.a17, hM.a18, hM.a19, hM.a20, hM.a21, hM.a22, hM.a23, hM.a24, hM.a25, hM.a26, hM.a27, hM.a28, hM.l1, hM.l2, hM.l3, hM.l4, hM.l5, hM.l6, hM.l7, hM.l8, hM.l9, hM.l10, hM.l11, hM.l12, hM.l13, hM.l14, hM.l15, hM.l16, hM.l17, hM.l18, hM.l19, hM.l20, hM.l21, hM.l22, hM.l23, hM.l24, hM.l25, hM.l26, hM.l27, hM.l28, hM.c10, hM.c11, hM.c12, hM.c13, hM.c14, hM.c15, hM.c19, hM.c20, hM.c23, hM.c27, hM.c36, hM.c37, hM.c38, hM.c40, hM.c41, hM.c42, hM.c44, hM.w1, hM.w2, hM.w3, hM.w4, hM.w5, hM.w6, hM.w7, hM.w8, hM.w9, hM.w10, hM.w11, hM.w12, hM.w13, hM.w14, hM.w15, hM.w16, hM.w17, hM.w18, hM.w19, hM.w20, hM.w21, hM.w22, hM.w23, hM.w24, hM.w25, hM.w26, hM.w27, hM.w28, hM.p10, hM.p11, hM.p12, hM.p13, hM.p14, hM.p15, hM.p19, hM.p20, hM.p23, hM.p27, hM.p36, hM.p37, hM.p38, hM.p40, hM.p41, hM.p42, hM.p44, s3_at, s3_nk, s3_nj, hM.sc 19, hM.ps 19, rSt_19]
theorem R_hold (hM : OKM M h) (B : BR b) {x : Int} (Q : QR g f k S (x :: w)) : m12_hold M (iI x) (mK M (rSt b g f k S w) h) = some ((), mK M (rSt b g f (k + 1) S (x :: w)) h) := by
  have ha := R_advance (M := M) (h := h) hM B Q
  have hl : (w.length : Int) < 260 := by
    have := Q.2.2.2.2.2
    rw [List.length_cons] at this
    omega
  rw [← rSt_push] at ha
  unfold m12_hold
  simp (config := { maxSteps := 1000000 }) (disch := first | assumption | exact W.i _ _ | exact sLine_i W _ _ _ | exact W1.i _ _ | exact hg _ _ | exact W3.i _ _ | (refine ⟨?_, ?_⟩ <;> omega) | omega | (simp only [sW_1, sW_2, sW_3, sW_4, sW_5, sW_8] <;> first | assumption | omega | (refine ⟨?_, ?_⟩ <;> omega)) | (simp only [sT_1, sT_2, sT_3, sT_4, sT_5, sT_8] <;> first | assumption | omega | (refine ⟨?_, ?_⟩ <;> omega)) | (simp only [List.length_append, List.length_cons, List.length_nil, Nat.reduceAdd] <;> omega)) only [Int.reduceEq, Int.reduceLT, Int.reduceLE, Int.reduceNeg, Int.reduceAdd, Int.reduceSub, Int.reduceMul, if_true, if_false, not_true, not_false_eq_true, false_or, or_false, true_or, or_true, true_and, and_true, false_and, and_false, iI_on, iI_mul, iI_add, iI_sub, iI_neg, ap_if, mp_eq, mz_0, mz_1, mz_b, b2_0, b2_1, iI_lt, iI_le, iI_inj, mb_div, mb_rem, hM.m, hM.a1, hM.a2, hM.a3, hM.a4, hM.a5, hM.a6, hM.a7, hM.a8, hM.a9, hM.a10, hM.a11, hM.a12, hM.a13, hM.a14, hM.a15, hM.a16, hM.a17, hM.a18, hM.a19, hM.a20, hM.a21, hM.a22, hM.a23, hM.a24, hM.a25, hM.a26, hM.a27, hM.a28, hM.l1, hM.l2, hM.l3, hM.l4, hM.l5, hM.l6, hM.l7, hM.l8, hM.l9, hM.l10, hM.l11, hM.l12, hM.l13, hM.l14, hM.l15, hM.l16, hM.l17, hM.l18, hM.l19, hM.l20, hM.l21, hM.l22, hM.l23, hM.l24, hM.l25, hM.l26, hM.l27, hM.l28, hM.c10, hM.c11, hM.c12, hM.c13, hM.c14, hM.c15, hM.c19, hM.c20, hM.c23, hM.c27, hM.c36, hM.c37, hM.c38, hM.c40, hM.c41, hM.c42, hM.c44, hM.w1, hM.w2, hM.w3, hM.w4, hM.w5, hM.w6, hM.w7, hM.w8, hM.w9, hM.w10, hM.w11, hM.w12, hM.w13, hM.w14, hM.w15, hM.w16, hM.w17, hM.w18, hM.w19, hM.w20, hM.w21, hM.w22, hM.w23, hM.w24, hM.w25, hM.w26, hM.w27, hM.w28, hM.p10, hM.p11, hM.p12, hM.p13, hM.p14, hM.p15, hM.p19, hM.p20, hM.p23, hM.p27, hM.p36, hM.p37, hM.p38, hM.p40, hM.p41, hM.p42, hM.p44, s3_at, s3_nk, s3_nj, hM.sc 20, hM.ps 20, rSt_20, mb_eq ha]
theorem R_w0 (hM : OKM M h) (B : BR b) (Q : QR g f k S w) : m12_isWord M (iI (4075709)) (mK M (rSt b g f k S w) h) = some (iI (b2 (CD b k = 1000)), mK M (rSt b g f k S w) h) := R_isWord hM B Q 0 (by omega)
theorem R_w1 (hM : OKM M h) (B : BR b) (Q : QR g f k S w) : m12_isWord M (iI (237742039)) (mK M (rSt b g f k S w) h) = some (iI (b2 (CD b k = 1001)), mK M (rSt b g f k S w) h) := R_isWord hM B Q 1 (by omega)
theorem R_w2 (hM : OKM M h) (B : BR b) (Q : QR g f k S w) : m12_isWord M (iI (11263)) (mK M (rSt b g f k S w) h) = some (iI (b2 (CD b k = 1002)), mK M (rSt b g f k S w) h) := R_isWord hM B Q 2 (by omega)
theorem R_w3 (hM : OKM M h) (B : BR b) (Q : QR g f k S w) : m12_isWord M (iI (9596021)) (mK M (rSt b g f k S w) h) = some (iI (b2 (CD b k = 1003)), mK M (rSt b g f k S w) h) := R_isWord hM B Q 3 (by omega)
theorem R_w4 (hM : OKM M h) (B : BR b) (Q : QR g f k S w) : m12_isWord M (iI (583)) (mK M (rSt b g f k S w) h) = some (iI (b2 (CD b k = 1004)), mK M (rSt b g f k S w) h) := R_isWord hM B Q 4 (by omega)
theorem R_w5 (hM : OKM M h) (B : BR b) (Q : QR g f k S w) : m12_isWord M (iI (90302)) (mK M (rSt b g f k S w) h) = some (iI (b2 (CD b k = 1005)), mK M (rSt b g f k S w) h) := R_isWord hM B Q 5 (by omega)
theorem R_w6 (hM : OKM M h) (B : BR b) (Q : QR g f k S w) : m12_isWord M (iI (31735670)) (mK M (rSt b g f k S w) h) = some (iI (b2 (CD b k = 1006)), mK M (rSt b g f k S w) h) := R_isWord hM B Q 6 (by omega)
theorem R_w7 (hM : OKM M h) (B : BR b) (Q : QR g f k S w) : m12_isWord M (iI (40187)) (mK M (rSt b g f k S w) h) = some (iI (b2 (CD b k = 1007)), mK M (rSt b g f k S w) h) := R_isWord hM B Q 7 (by omega)
theorem R_w8 (hM : OKM M h) (B : BR b) (Q : QR g f k S w) : m12_isWord M (iI (332713832)) (mK M (rSt b g f k S w) h) = some (iI (b2 (CD b k = 1008)), mK M (rSt b g f k S w) h) := R_isWord hM B Q 8 (by omega)
theorem R_w9 (hM : OKM M h) (B : BR b) (Q : QR g f k S w) : m12_isWord M (iI (173279)) (mK M (rSt b g f k S w) h) = some (iI (b2 (CD b k = 1009)), mK M (rSt b g f k S w) h) := R_isWord hM B Q 9 (by omega)
theorem R_w10 (hM : OKM M h) (B : BR b) (Q : QR g f k S w) : m12_isWord M (iI (117696460)) (mK M (rSt b g f k S w) h) = some (iI (b2 (CD b k = 1010)), mK M (rSt b g f k S w) h) := R_isWord hM B Q 10 (by omega)
theorem R_w11 (hM : OKM M h) (B : BR b) (Q : QR g f k S w) : m12_isWord M (iI (139109)) (mK M (rSt b g f k S w) h) = some (iI (b2 (CD b k = 1011)), mK M (rSt b g f k S w) h) := R_isWord hM B Q 11 (by omega)
theorem R_w12 (hM : OKM M h) (B : BR b) (Q : QR g f k S w) : m12_isWord M (iI (13596964)) (mK M (rSt b g f k S w) h) = some (iI (b2 (CD b k = 1012)), mK M (rSt b g f k S w) h) := R_isWord hM B Q 12 (by omega)
theorem R_w13 (hM : OKM M h) (B : BR b) (Q : QR g f k S w) : m12_isWord M (iI (-2)) (mK M (rSt b g f k S w) h) = some (iI (b2 (CD b k = 1013)), mK M (rSt b g f k S w) h) := R_isWord hM B Q 13 (by omega)
theorem R_w14 (hM : OKM M h) (B : BR b) (Q : QR g f k S w) : m12_isWord M (iI (223456)) (mK M (rSt b g f k S w) h) = some (iI (b2 (CD b k = 1014)), mK M (rSt b g f k S w) h) := R_isWord hM B Q 14 (by omega)
theorem R_w15 (hM : OKM M h) (B : BR b) (Q : QR g f k S w) : m12_isWord M (iI (923)) (mK M (rSt b g f k S w) h) = some (iI (b2 (CD b k = 1015)), mK M (rSt b g f k S w) h) := R_isWord hM B Q 15 (by omega)
theorem R_w16 (hM : OKM M h) (B : BR b) (Q : QR g f k S w) : m12_isWord M (iI (249)) (mK M (rSt b g f k S w) h) = some (iI (b2 (CD b k = 1016)), mK M (rSt b g f k S w) h) := R_isWord hM B Q 16 (by omega)
theorem R_w17 (hM : OKM M h) (B : BR b) (Q : QR g f k S w) : m12_isWord M (iI (555)) (mK M (rSt b g f k S w) h) = some (iI (b2 (CD b k = 1017)), mK M (rSt b g f k S w) h) := R_isWord hM B Q 17 (by omega)
theorem R_w18 (hM : OKM M h) (B : BR b) (Q : QR g f k S w) : m12_isWord M (iI (423)) (mK M (rSt b g f k S w) h) = some (iI (b2 (CD b k = 1018)), mK M (rSt b g f k S w) h) := R_isWord hM B Q 18 (by omega)
theorem R_w19 (hM : OKM M h) (B : BR b) (Q : QR g f k S w) : m12_isWord M (iI (1111)) (mK M (rSt b g f k S w) h) = some (iI (b2 (CD b k = 1019)), mK M (rSt b g f k S w) h) := R_isWord hM B Q 19 (by omega)
theorem R_w20 (hM : OKM M h) (B : BR b) (Q : QR g f k S w) : m12_isWord M (iI (10631)) (mK M (rSt b g f k S w) h) = some (iI (b2 (CD b k = 1020)), mK M (rSt b g f k S w) h) := R_isWord hM B Q 20 (by omega)
end RREAD

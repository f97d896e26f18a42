/-! ===== a call on both: deeds, findings, terms come ===== -/
def hNew (h : gH) (t n : Nat) : gH := (h.1 ++ [(t, n)], (fun q j => if q = h.1.length then 0 else h.2.1 q j), fun q j => if q = h.1.length then none else h.2.2 q j)
def hPt (h : gH) (p k : Nat) (v : Int) : gH := (h.1, u2 h.2.1 p k (iI v), h.2.2)
def hPr (h : gH) (p k x : Nat) : gH := (h.1, h.2.1, u2 h.2.2 p k (some x))
section NEW
variable {rho : Nat → Int → Int} {h : gH} {α : Type}
theorem cK_new {t n : Nat} (hl : 55 ≤ h.1.length) (f : Nat → gM α) : mb (gNew t n) f (cK rho h) = f h.1.length (cK rho (hNew h t n)) := by
  refine mb_eq ?_
  unfold gNew
  show some (h.1.length, h.1 ++ [(t, n)], (fun q j => if q = h.1.length then 0 else (cK rho h).2.1 q j), _) = some (h.1.length, cK rho (hNew h t n))
  have e : (fun q j => if q = h.1.length then 0 else (cK rho h).2.1 q j) = (cK rho (hNew h t n)).2.1 := by
    funext q j
    unfold cK hNew
    dsimp only
    by_cases c : q < 55
    · have c2 : ¬ q = h.1.length := by omega
      simp only [c, c2, if_true, if_false]
    · simp only [c, if_false]
  rw [e]
  rfl
theorem cK_put {ts : List Nat} {p k t n : Nat} {v : Int} (hp : 55 ≤ p) (hs : h.1[p]? = some (t, n)) (ht : ts.contains t = true) (f : Unit → gM α) : mb (gPutI ts p k (iI v)) f (cK rho h) = f () (cK rho (hPt h p k v)) := by
  refine mb_eq ?_
  unfold gPutI
  rw [mv_eq (h := cK rho h) hs ht]
  have e : u2 (cK rho h).2.1 p k (iI v) = (cK rho (hPt h p k v)).2.1 := by
    funext q j
    unfold u2 cK hPt u2
    dsimp only
    by_cases c : q < 55
    · have c2 : ¬ (q = p ∧ j = k) := by omega
      simp only [c, c2, if_true, if_false]
    · simp only [c, if_false]
  rw [e]
  rfl
theorem cK_putR {ts : List Nat} {p k t n x : Nat} (hs : h.1[p]? = some (t, n)) (ht : ts.contains t = true) (f : Unit → gM α) : mb (gPutR ts p k (some x)) f (cK rho h) = f () (cK rho (hPr h p k x)) := by
  refine mb_eq ?_
  unfold gPutR
  rw [mv_eq (h := cK rho h) hs ht]
  rfl
theorem cK_stR {t a n x tx nx : Nat} {i : Int} (hs : h.1[a]? = some (t, n)) (h0 : 0 ≤ i) (h1 : i < n) (hn : n ≤ 100000) (hx : h.1[x]? = some (tx, nx)) (ht : (match (generalizing := false) t with | 102 => [0, 9] | 103 => [3] | 104 => [4] | _ => [7, 2] : List Nat).contains tx = true) (f : Unit → gM α) : mb (gStRk t a (iI i) x) f (cK rho h) = f () (cK rho (hPr h a i.toNat x)) := by
  have hc : (iI i).toNatClampNeg = i.toNat := iI_cl ⟨by omega, by omega⟩
  refine mb_eq ?_
  unfold gStRk
  refine (mv_eq (h := cK rho h) hx ht).trans ?_
  unfold gStR
  rw [mi_ok _ (cK rho h) hs h0 h1 hn, hc]
  rfl
theorem hNew_at {t n : Nat} : (hNew h t n).1[h.1.length]? = some (t, n) := by
  unfold hNew
  simp
theorem hNew_old {t n : Nat} {q : Nat} {x : Nat × Nat} (hq : h.1[q]? = some x) : (hNew h t n).1[q]? = some x := by
  unfold hNew
  have hl : q < h.1.length := (List.getElem?_eq_some_iff.mp hq).1
  rw [List.getElem?_append_left hl]
  exact hq
theorem cPt_no {a k t : Nat} (h : cPt a k = some t) : a < 55 ∧ a ≠ 4 ∧ a ≠ 5 ∧ a ≠ 6 ∧ a ≠ 7 := by
  unfold cPt at h
  split at h <;> first | exact ⟨by omega, by omega, by omega, by omega, by omega⟩ | cases h
theorem OKC.of {h h' : gH} (hC : OKC h) (x1 : ∀ (q : Nat) (x : Nat × Nat), h.1[q]? = some x → h'.1[q]? = some x) (x2 : ∀ a, a < 55 → a ≠ 4 → a ≠ 5 → a ≠ 6 → a ≠ 7 → h'.2.2 a = h.2.2 a) : OKC h' := by
  refine ⟨fun a ha => ?_, fun a k t hp => ?_⟩
  · have h1 := hC.1 a ha
    have h2 : ∃ x, cSh[a]? = some x := ⟨_, List.getElem?_eq_getElem (by show a < 55; exact ha)⟩
    obtain ⟨x, hx⟩ := h2
    rw [hx] at h1 ⊢
    exact x1 _ _ h1
  · obtain ⟨a1, a2, a3, a4, a5⟩ := cPt_no hp
    rw [x2 a a1 a2 a3 a4 a5]
    exact hC.2 a k t hp
theorem LB.of {h h' : gH} (hL : LB h) {t n : Nat} (e : h'.1 = h.1 ++ [(t, n)]) (ht : t ≠ 4) : LB h' := fun p m hp i h1 h2 => by
  rw [e] at hp ⊢
  by_cases c : p < h.1.length
  · rw [List.getElem?_append_left c] at hp
    obtain ⟨m', hm'⟩ := hL p m hp i h1 h2
    have hl : p + i < h.1.length := (List.getElem?_eq_some_iff.mp hm').1
    exact ⟨m', by rw [List.getElem?_append_left hl]; exact hm'⟩
  · rw [List.getElem?_append_right (by omega)] at hp
    have hz : p - h.1.length < 1 := (List.getElem?_eq_some_iff.mp hp).1
    have e2 : p - h.1.length = 0 := by omega
    rw [e2] at hp
    cases hp
    exact absurd rfl ht
/-- one cell comes, and the row A has it -/
def hOne1 (h h' : gH) (t n A k : Nat) : Prop := h'.1 = h.1 ++ [(t, n)] ∧ (∀ q, q ≠ h.1.length → h'.2.1 q = h.2.1 q) ∧ (∀ q, q ≠ h.1.length → q ≠ A → h'.2.2 q = h.2.2 q) ∧ ∀ j, h'.2.2 A j = if j = k then some h.1.length else h.2.2 A j
theorem hOne1.old {h h' : gH} {t n A k : Nat} (H : hOne1 h h' t n A k) : ∀ (q : Nat) (x : Nat × Nat), h.1[q]? = some x → h'.1[q]? = some x := fun q x hq => by
  rw [H.1]
  have hl : q < h.1.length := (List.getElem?_eq_some_iff.mp hq).1
  rw [List.getElem?_append_left hl]
  exact hq
theorem hOne1.at {h h' : gH} {t n A k : Nat} (H : hOne1 h h' t n A k) : h'.1[h.1.length]? = some (t, n) := by
  rw [H.1]
  simp
theorem hOne1.hg {h h' : gH} {t n A k : Nat} (H : hOne1 h h' t n A k) (hl : 84 ≤ h.1.length) (hA : A < 55) (hn : n ≤ 400) : hG h h' := by
  refine ⟨⟨[(t, n)], H.1, by simp, by simpa using hn⟩, fun q hq => H.2.1 q (by omega), fun q h0 h1 => H.2.2.1 q (by omega) (by omega)⟩
theorem C_addDeed {sg : Nat → Int → Int} (hC : OKC h) (R : RDs 1 sg rho h) (W : WD sg) (hl : 84 ≤ h.1.length) {p k d : Int} (hp : 0 ≤ p ∧ p < sg 1 1) (hk : 0 ≤ k ∧ k ≤ 5) (hd : 0 ≤ d ∧ d ≤ sg 1 0) (h8 : sg 1 2 ≠ 16) :
    ∃ h', hOne1 h h' (if sAgeOn sg p d < 18 then 9 else 0) 5 4 (sg 1 2).toNat ∧ (h'.2.1 h.1.length 0 = iI (sg 1 2) ∧ h'.2.1 h.1.length 1 = iI k ∧ h'.2.1 h.1.length 2 = iI p ∧ h'.2.1 h.1.length 3 = iI d ∧ h'.2.1 h.1.length 4 = iI (sAgeOn sg p d)) ∧ m1_addDeed 1 (iI p) (iI k) (iI d) (cK rho h) = some (iI (sg 1 2), cK (s3 rho 1 4 (sg 1 2 + 1)) h') := by
  have n2 := W.n2
  have n0 := W.n0
  have np := W.pe p hp.1 hp.2
  have hl55 : 55 ≤ h.1.length := by omega
  have ay : 0 ≤ sAgeOn sg p d ∧ sAgeOn sg p d ≤ 118 := by unfold sAgeOn; omega
  have key : ∀ t : Nat, (t = 0 ∨ t = 9) → ∃ h', hOne1 h h' t 5 4 (sg 1 2).toNat ∧ (h'.2.1 h.1.length 0 = iI (sg 1 2) ∧ h'.2.1 h.1.length 1 = iI k ∧ h'.2.1 h.1.length 2 = iI p ∧ h'.2.1 h.1.length 3 = iI d ∧ h'.2.1 h.1.length 4 = iI (sAgeOn sg p d)) ∧ mb (gNew t 5) (fun r5 => (mb (gGetI [1] 1 4) fun x6 => (mb (m0_init r5 x6 (iI k) (iI p) (iI d) (iI (sAgeOn sg p d))) fun _ => (m1_addDeed_p58 1 4 (iI (sg 1 2)) r5)))) (cK rho h) = some (iI (sg 1 2), cK (s3 rho 1 4 (sg 1 2 + 1)) h') := by
    intro t ht
    have C1 : OKC (hNew h t 5) := hC.of (fun q x hq => hNew_old hq) (fun a ha _ _ _ _ => by
      unfold hNew
      funext j
      dsimp only
      rw [if_neg (by omega)])
    have t1 : ([0, 9] : List Nat).contains t = true := by rcases ht with rfl | rfl <;> rfl
    have t2 : ([0, 2, 3, 4, 7, 9] : List Nat).contains t = true := by rcases ht with rfl | rfl <;> rfl
    have hat := hNew_at (h := h) (t := t) (n := 5)
    have C2 : OKC (hPr (hPt (hPt (hPt (hPt (hPt (hNew h t 5) h.1.length 0 (sg 1 2)) h.1.length 1 k) h.1.length 2 p) h.1.length 3 d) h.1.length 4 (sAgeOn sg p d)) 4 (sg 1 2).toNat h.1.length) := C1.of (fun q x hq => hq) (fun a ha a4 _ _ _ => by
      unfold hPr hPt u2
      funext j
      dsimp only
      rw [if_neg (fun q => a4 q.1)])
    have h4 : (hNew h t 5).1[4]? = some (102, 16) := C1.1 4 (by omega)
    have main : mb (gNew t 5) (fun r5 => (mb (gGetI [1] 1 4) fun x6 => (mb (m0_init r5 x6 (iI k) (iI p) (iI d) (iI (sAgeOn sg p d))) fun _ => (m1_addDeed_p58 1 4 (iI (sg 1 2)) r5)))) (cK rho h) = some (iI (sg 1 2), cK (s3 rho 1 4 (sg 1 2 + 1)) (hPr (hPt (hPt (hPt (hPt (hPt (hNew h t 5) h.1.length 0 (sg 1 2)) h.1.length 1 k) h.1.length 2 p) h.1.length 3 d) h.1.length 4 (sAgeOn sg p d)) 4 (sg 1 2).toNat h.1.length)) := by
      rw [cK_new hl55]
      unfold m0_init m6_init m1_addDeed_p58
      simp only [mb_as, mb_mp]
      rw [C1.s1_4, R.1.2.2.1]
      rw [cK_put (t := t) (n := 5) hl55 ?_ t2, cK_put (t := t) (n := 5) hl55 ?_ t2, cK_put (t := t) (n := 5) hl55 ?_ t1, cK_put (t := t) (n := 5) hl55 ?_ t1, cK_put (t := t) (n := 5) hl55 ?_ t1, cK_stR (t := 102) (n := 16) (tx := t) (nx := 5) ?_ n2.1 (by omega) (by omega) ?_ t1]
      · rw [C2.s1_4, R.1.2.2.1]
        simp (config := { maxSteps := 1000000 }) (disch := first | assumption | exact W.i _ _ | exact sLine_i W _ _ _ | exact W1.i _ _ | exact hg _ _ | exact W3.i _ _ | (refine ⟨?_, ?_⟩ <;> omega) | omega | (simp only [sW_1, sW_2, sW_3, sW_4, sW_5, sW_8] <;> first | assumption | omega | (refine ⟨?_, ?_⟩ <;> omega)) | (simp only [sT_1, sT_2, sT_3, sT_4, sT_5, sT_8] <;> first | assumption | omega | (refine ⟨?_, ?_⟩ <;> omega))) only [Int.reduceEq, Int.reduceLT, Int.reduceLE, Int.reduceNeg, Int.reduceAdd, Int.reduceSub, Int.reduceMul, if_true, if_false, not_true, not_false_eq_true, false_or, or_false, true_or, or_true, true_and, and_true, false_and, and_false, iI_on, iI_mul, iI_add, iI_sub, iI_neg, ap_if, mp_eq, mz_0, mz_1, mz_b, b2_0, b2_1, iI_lt, iI_le, iI_inj, mb_div, mb_rem, C2.p1_4]
      · exact h4
      all_goals exact hat
    refine ⟨hPr (hPt (hPt (hPt (hPt (hPt (hNew h t 5) h.1.length 0 (sg 1 2)) h.1.length 1 k) h.1.length 2 p) h.1.length 3 d) h.1.length 4 (sAgeOn sg p d)) 4 (sg 1 2).toNat h.1.length, ⟨rfl, fun q hq => ?_, fun q hq hA => ?_, fun j => ?_⟩, ⟨?_, ?_, ?_, ?_, ?_⟩, main⟩
    · unfold hPr hPt hNew u2
      funext j
      simp [hq]
    · unfold hPr hPt hNew u2
      funext j
      simp [hq, hA]
    · unfold hPr hPt hNew u2
      dsimp only
      by_cases c : j = (sg 1 2).toNat
      · simp [c]
      · have : ¬ 4 = h.1.length := by omega
        simp [c, this]
    all_goals (unfold hPr hPt hNew u2; simp)
  by_cases c : sAgeOn sg p d < 18
  · obtain ⟨h', a, b, e⟩ := key 9 (Or.inr rfl)
    refine ⟨h', by rw [if_pos c]; exact a, b, ?_⟩
    unfold m1_addDeed m10_init
    simp (config := { maxSteps := 1000000 }) (disch := first | assumption | exact W.i _ _ | exact sLine_i W _ _ _ | exact W1.i _ _ | exact hg _ _ | exact W3.i _ _ | (refine ⟨?_, ?_⟩ <;> omega) | omega | (simp only [sW_1, sW_2, sW_3, sW_4, sW_5, sW_8] <;> first | assumption | omega | (refine ⟨?_, ?_⟩ <;> omega)) | (simp only [sT_1, sT_2, sT_3, sT_4, sT_5, sT_8] <;> first | assumption | omega | (refine ⟨?_, ?_⟩ <;> omega))) only [Int.reduceEq, Int.reduceLT, Int.reduceLE, Int.reduceNeg, Int.reduceAdd, Int.reduceSub, Int.reduceMul, if_true, if_false, not_true, not_false_eq_true, false_or, or_false, true_or, or_true, true_and, and_true, false_and, and_false, iI_on, iI_mul, iI_add, iI_sub, iI_neg, ap_if, mp_eq, mz_0, mz_1, mz_b, b2_0, b2_1, iI_lt, iI_le, iI_inj, mb_div, mb_rem, hC.m0, hC.m1, hC.m13, hC.m15, hC.m27, hC.m29, hC.m38, hC.m40, hC.g0_0, hC.g0_1, hC.g0_3, hC.g0_4, hC.g0_5, hC.g0_6, hC.g0_7, hC.g0_8, hC.g0_9, hC.g0_10, hC.g0_11, hC.g0_12, hC.g0_13, hC.g0_14, hC.g1_2, hC.g1_3, hC.g1_5, hC.g1_7, hC.g1_9, hC.g1_11, hC.g1_12, hC.g1_14, hC.g1_15, hC.g1_16, hC.g1_17, hC.g1_18, hC.g13_0, hC.g15_2, hC.g15_3, hC.g15_5, hC.g15_7, hC.g15_9, hC.g15_11, hC.g15_12, hC.g15_14, hC.g15_15, hC.g15_16, hC.g15_17, hC.g15_18, hC.g27_0, hC.g29_3, hC.g29_4, hC.g29_5, hC.g29_6, hC.g29_7, hC.g29_8, hC.g29_9, hC.g29_10, hC.g38_0, hC.g40_0, hC.s0_2, hC.s1_0, hC.s1_1, hC.s1_4, hC.s1_6, hC.s1_8, hC.s1_10, hC.s1_13, hC.s13_1, hC.s15_0, hC.s15_1, hC.s15_4, hC.s15_6, hC.s15_8, hC.s15_10, hC.s15_13, hC.s27_1, hC.s29_0, hC.s29_1, hC.s29_2, hC.s29_11, hC.s29_12, hC.s38_1, hC.s40_1, hC.s40_2, hC.l2, hC.l3, hC.l8, hC.l9, hC.l10, hC.l11, hC.l12, hC.l14, hC.l16, hC.l17, hC.l22, hC.l23, hC.l24, hC.l25, hC.l26, hC.l28, hC.l30, hC.l31, hC.l32, hC.l33, hC.l34, hC.l36, hC.l37, hC.l39, hC.l41, hC.l43, hC.l44, hC.l45, hC.l46, hC.l47, hC.l48, hC.l49, hC.l50, hC.l51, hC.l52, hC.l53, hC.l54, hC.l35, hC.n33, hC.n36, hC.dl R W, hC.fl R W, hC.ll R W, hC.tl R W, R.d1, R.d2, R.d3, R.d4, R.dn, R.da, R.f1, R.f2, R.f3, R.f4, R.fn, R.fa, R.t1, R.t2, R.t3, R.t4, R.t5, R.tn, R.ta, R.l0, R.l1, R.l2, R.l3, R.l7, R.ln, R.lv, R.r5, R.r6, R.r8, R.r13, R.r4, R.r10, R.r11, R.r12, R.r9, R.mt, R.ml, R.lg, R.lp, R.lr, R.lo W, R.ls W, R.1.1, R.1.2.1, R.1.2.2.1, R.1.2.2.2.1, R.1.2.2.2.2.1, R.1.2.2.2.2.2.1, R.1.2.2.2.2.2.2, R.born, R.good, R.unw, R.hp, R.hf, R.ht, mb_eq (C_yearsOf hC R W _ _ _ _), show ¬ 18 ≤ sAgeOn sg p d by omega]
    simp only [mb_as, mb_mp] at e ⊢
    exact e
  · obtain ⟨h', a, b, e⟩ := key 0 (Or.inl rfl)
    refine ⟨h', by rw [if_neg c]; exact a, b, ?_⟩
    unfold m1_addDeed
    simp (config := { maxSteps := 1000000 }) (disch := first | assumption | exact W.i _ _ | exact sLine_i W _ _ _ | exact W1.i _ _ | exact hg _ _ | exact W3.i _ _ | (refine ⟨?_, ?_⟩ <;> omega) | omega | (simp only [sW_1, sW_2, sW_3, sW_4, sW_5, sW_8] <;> first | assumption | omega | (refine ⟨?_, ?_⟩ <;> omega)) | (simp only [sT_1, sT_2, sT_3, sT_4, sT_5, sT_8] <;> first | assumption | omega | (refine ⟨?_, ?_⟩ <;> omega))) only [Int.reduceEq, Int.reduceLT, Int.reduceLE, Int.reduceNeg, Int.reduceAdd, Int.reduceSub, Int.reduceMul, if_true, if_false, not_true, not_false_eq_true, false_or, or_false, true_or, or_true, true_and, and_true, false_and, and_false, iI_on, iI_mul, iI_add, iI_sub, iI_neg, ap_if, mp_eq, mz_0, mz_1, mz_b, b2_0, b2_1, iI_lt, iI_le, iI_inj, mb_div, mb_rem, hC.m0, hC.m1, hC.m13, hC.m15, hC.m27, hC.m29, hC.m38, hC.m40, hC.g0_0, hC.g0_1, hC.g0_3, hC.g0_4, hC.g0_5, hC.g0_6, hC.g0_7, hC.g0_8, hC.g0_9, hC.g0_10, hC.g0_11, hC.g0_12, hC.g0_13, hC.g0_14, hC.g1_2, hC.g1_3, hC.g1_5, hC.g1_7, hC.g1_9, hC.g1_11, hC.g1_12, hC.g1_14, hC.g1_15, hC.g1_16, hC.g1_17, hC.g1_18, hC.g13_0, hC.g15_2, hC.g15_3, hC.g15_5, hC.g15_7, hC.g15_9, hC.g15_11, hC.g15_12, hC.g15_14, hC.g15_15, hC.g15_16, hC.g15_17, hC.g15_18, hC.g27_0, hC.g29_3, hC.g29_4, hC.g29_5, hC.g29_6, hC.g29_7, hC.g29_8, hC.g29_9, hC.g29_10, hC.g38_0, hC.g40_0, hC.s0_2, hC.s1_0, hC.s1_1, hC.s1_4, hC.s1_6, hC.s1_8, hC.s1_10, hC.s1_13, hC.s13_1, hC.s15_0, hC.s15_1, hC.s15_4, hC.s15_6, hC.s15_8, hC.s15_10, hC.s15_13, hC.s27_1, hC.s29_0, hC.s29_1, hC.s29_2, hC.s29_11, hC.s29_12, hC.s38_1, hC.s40_1, hC.s40_2, hC.l2, hC.l3, hC.l8, hC.l9, hC.l10, hC.l11, hC.l12, hC.l14, hC.l16, hC.l17, hC.l22, hC.l23, hC.l24, hC.l25, hC.l26, hC.l28, hC.l30, hC.l31, hC.l32, hC.l33, hC.l34, hC.l36, hC.l37, hC.l39, hC.l41, hC.l43, hC.l44, hC.l45, hC.l46, hC.l47, hC.l48, hC.l49, hC.l50, hC.l51, hC.l52, hC.l53, hC.l54, hC.l35, hC.n33, hC.n36, hC.dl R W, hC.fl R W, hC.ll R W, hC.tl R W, R.d1, R.d2, R.d3, R.d4, R.dn, R.da, R.f1, R.f2, R.f3, R.f4, R.fn, R.fa, R.t1, R.t2, R.t3, R.t4, R.t5, R.tn, R.ta, R.l0, R.l1, R.l2, R.l3, R.l7, R.ln, R.lv, R.r5, R.r6, R.r8, R.r13, R.r4, R.r10, R.r11, R.r12, R.r9, R.mt, R.ml, R.lg, R.lp, R.lr, R.lo W, R.ls W, R.1.1, R.1.2.1, R.1.2.2.1, R.1.2.2.2.1, R.1.2.2.2.2.1, R.1.2.2.2.2.2.1, R.1.2.2.2.2.2.2, R.born, R.good, R.unw, R.hp, R.hf, R.ht, mb_eq (C_yearsOf hC R W _ _ _ _), show 18 ≤ sAgeOn sg p d by omega]
    exact e
end NEW

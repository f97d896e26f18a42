/-! ===== the class keeps a law: its lines ===== -/
section LAWLOOP
variable {rho U : Nat → Int → Int} {h : gH} {v n nc td : Int} {w0 : Nat → Nat → Option Nat}
/-- the range table, all empty -/
theorem C_lawFill (hl : 84 ≤ h.1.length) : ∃ U', mj_fill (h.1.length + 3) (iI (-3)) (cK rho (nK h (L10 n nc) U (wLaw h.1.length w0))) = some ((), cK rho (nK h (L10 n nc) U' (wLaw h.1.length w0))) ∧ (∀ q, q ≠ 3 → U' q = U q) ∧ ∀ j, 0 ≤ j → j < 20 → U' 3 j = -3 := by
  have hl55 : 55 ≤ h.1.length := by omega
  have key : ∀ (m fu : Nat) (i : Int) (U : Nat → Int → Int), 0 ≤ i → i + m = 20 → m < fu → ∃ U', mj_fill_p5 fu (h.1.length + 3) (iI (-3)) (iI i) (iI 20) (cK rho (nK h (L10 n nc) U (wLaw h.1.length w0))) = some ((), cK rho (nK h (L10 n nc) U' (wLaw h.1.length w0))) ∧ (∀ q, q ≠ 3 → U' q = U q) ∧ (∀ j, j < i → U' 3 j = U 3 j) ∧ ∀ j, i ≤ j → j < 20 → U' 3 j = -3 := by
    intro m
    induction m with
    | zero =>
      intro fu i U h0 h1 h2
      obtain ⟨fu, rfl⟩ : ∃ z, fu = z + 1 := ⟨fu - 1, by omega⟩
      refine ⟨U, ?_, fun _ _ => rfl, fun _ _ => rfl, fun j a b => by omega⟩
      rw [mj_fill_p5]
      simp (config := { maxSteps := 1000000 }) (disch := first | assumption | exact W.i _ _ | exact sLine_i W _ _ _ | exact W1.i _ _ | exact hg _ _ | exact W3.i _ _ | (refine ⟨?_, ?_⟩ <;> omega) | omega | (simp only [sW_1, sW_2, sW_3, sW_4, sW_5, sW_8] <;> first | assumption | omega | (refine ⟨?_, ?_⟩ <;> omega)) | (simp only [sT_1, sT_2, sT_3, sT_4, sT_5, sT_8] <;> first | assumption | omega | (refine ⟨?_, ?_⟩ <;> omega)) | (simp only [List.length_append, List.length_cons, List.length_nil, Nat.reduceAdd] <;> omega)) only [Int.reduceEq, Int.reduceLT, Int.reduceLE, Int.reduceNeg, Int.reduceAdd, Int.reduceSub, Int.reduceMul, if_true, if_false, not_true, not_false_eq_true, false_or, or_false, true_or, or_true, true_and, and_true, false_and, and_false, iI_on, iI_mul, iI_add, iI_sub, iI_neg, ap_if, mp_eq, mz_0, mz_1, mz_b, b2_0, b2_1, iI_lt, iI_le, iI_inj, mb_div, mb_rem, show (20 : Int) ≤ i by omega]
    | succ m ih =>
      intro fu i U h0 h1 h2
      obtain ⟨fu, rfl⟩ : ∃ z, fu = z + 1 := ⟨fu - 1, by omega⟩
      obtain ⟨U', r1, r2, r3, r4⟩ := ih fu (i + 1) (s3 U 3 i (-3)) (by omega) (by omega) (by omega)
      refine ⟨U', ?_, fun q q0 => (r2 q q0).trans (s3_o (fun e => q0 e)), fun j hj => (r3 j (by omega)).trans (s3_nj (by omega)), fun j j0 j1 => ?_⟩
      · rw [mj_fill_p5]
        simp (config := { maxSteps := 1000000 }) (disch := first | assumption | exact W.i _ _ | exact sLine_i W _ _ _ | exact W1.i _ _ | exact hg _ _ | exact W3.i _ _ | (refine ⟨?_, ?_⟩ <;> omega) | omega | (simp only [sW_1, sW_2, sW_3, sW_4, sW_5, sW_8] <;> first | assumption | omega | (refine ⟨?_, ?_⟩ <;> omega)) | (simp only [sT_1, sT_2, sT_3, sT_4, sT_5, sT_8] <;> first | assumption | omega | (refine ⟨?_, ?_⟩ <;> omega)) | (simp only [List.length_append, List.length_cons, List.length_nil, Nat.reduceAdd] <;> omega)) only [Int.reduceEq, Int.reduceLT, Int.reduceLE, Int.reduceNeg, Int.reduceAdd, Int.reduceSub, Int.reduceMul, if_true, if_false, not_true, not_false_eq_true, false_or, or_false, true_or, or_true, true_and, and_true, false_and, and_false, iI_on, iI_mul, iI_add, iI_sub, iI_neg, ap_if, mp_eq, mz_0, mz_1, mz_b, b2_0, b2_1, iI_lt, iI_le, iI_inj, mb_div, mb_rem, show ¬ (20 : Int) ≤ i by omega]
        rw [N_stI hl55 (of_decide_eq_true rfl) (m := 20) rfl h0 (by omega) (by omega), ← r1]
      · by_cases c : j = i
        · rw [c, r3 i (by omega), s3_at]
        · exact r4 j (by omega) j1
  obtain ⟨U', r1, r2, r3, r4⟩ := key 20 FU 0 U (Int.le_refl 0) (by omega) (FU_lt (by omega))
  refine ⟨U', ?_, r2, r4⟩
  have ea := nK_at (h := h) (L := L10 n nc) (U := U) (w := wLaw h.1.length w0) (i := 3) (of_decide_eq_true rfl)
  have hv : mv [100] (h.1.length + 3) (gLen (h.1.length + 3)) (cK rho (nK h (L10 n nc) U (wLaw h.1.length w0))) = some (iI 20, cK rho (nK h (L10 n nc) U (wLaw h.1.length w0))) := by
    rw [mv_eq (h := cK rho (nK h (L10 n nc) U (wLaw h.1.length w0))) (t := 100) (n := 20) ea rfl]
    unfold gLen
    rw [show (cK rho (nK h (L10 n nc) U (wLaw h.1.length w0))).1[h.1.length + 3]? = some (100, 20) from ea]
    dsimp only
    rw [if_pos (by omega)]
    rfl
  unfold mj_fill
  rw [mb_eq hv, ← r1]
  simp (config := { maxSteps := 1000000 }) (disch := first | assumption | exact W.i _ _ | exact sLine_i W _ _ _ | exact W1.i _ _ | exact hg _ _ | exact W3.i _ _ | (refine ⟨?_, ?_⟩ <;> omega) | omega | (simp only [sW_1, sW_2, sW_3, sW_4, sW_5, sW_8] <;> first | assumption | omega | (refine ⟨?_, ?_⟩ <;> omega)) | (simp only [sT_1, sT_2, sT_3, sT_4, sT_5, sT_8] <;> first | assumption | omega | (refine ⟨?_, ?_⟩ <;> omega)) | (simp only [List.length_append, List.length_cons, List.length_nil, Nat.reduceAdd] <;> omega)) only [Int.reduceEq, Int.reduceLT, Int.reduceLE, Int.reduceNeg, Int.reduceAdd, Int.reduceSub, Int.reduceMul, if_true, if_false, not_true, not_false_eq_true, false_or, or_false, true_or, or_true, true_and, and_true, false_and, and_false, iI_on, iI_mul, iI_add, iI_sub, iI_neg, ap_if, mp_eq, mz_0, mz_1, mz_b, b2_0, b2_1, iI_lt, iI_le, iI_inj, mb_div, mb_rem]
/-- the lines' numbers, as the class's reader holds them -/
def DL (rho : Nat → Int → Int) (D : Int → Int → Int) (n : Int) : Prop := ∀ l, 0 ≤ l → l < n → (0 ≤ D l 0 ∧ D l 0 ≤ 7) ∧ rho 30 l = D l 0 ∧ (D l 0 ≤ 1 → rho 34 (4 * l) = D l 1 ∧ rho 34 (4 * l + 1) = D l 2 ∧ (0 ≤ D l 1 ∧ D l 1 ≤ 5) ∧ 0 ≤ D l 2 ∧ D l 2 ≤ 9) ∧ (D l 0 = 2 → rho 34 (4 * l) = D l 1 ∧ 0 ≤ D l 1 ∧ D l 1 ≤ 90) ∧ (D l 0 = 3 → rho 34 (4 * l) = D l 1 ∧ rho 34 (4 * l + 1) = D l 2 ∧ rho 34 (4 * l + 2) = D l 3 ∧ rho 34 (4 * l + 3) = D l 4 ∧ (0 ≤ D l 1 ∧ D l 1 ≤ 4) ∧ (0 ≤ D l 2 ∧ D l 2 ≤ 3) ∧ (0 ≤ D l 3 ∧ D l 3 ≤ 240) ∧ 0 ≤ D l 4 ∧ D l 4 ≤ 240) ∧ (D l 0 = 4 ∨ D l 0 = 5 → rho 34 (4 * l) = D l 1 ∧ 0 ≤ D l 1 ∧ D l 1 ≤ 4)
/-- a table's place after the lines from l on -/
def fT (D : Int → Int → Int) (s k : Int) : Int → Int → Int := fun a l => if D l 0 = s ∧ D l 1 = k then D l 2 else a
def fR (D : Int → Int → Int) (g o : Int) : Int → Int → Int := fun a l => if D l 0 = 3 ∧ D l 1 = g ∧ D l 2 = o then 1000 * D l 3 + D l 4 else a
def fO (D : Int → Int → Int) : Int → Int → Int := fun a l => if D l 0 = 2 then D l 1 else a
def fK (D : Int → Int → Int) : Int → Int → Int := fun a l => if a = 1 ∨ D l 0 = 7 then 1 else 0
def lawSt' (D : Int → Int → Int) (l : Int) : Int := if D l 0 = 4 then D l 1 else if D l 0 = 5 then - D l 1 else 0
theorem nk_num (hC : OKC h) (hl : 84 ≤ h.1.length) {L : List (Nat × Nat)} {w : Nat → Nat → Option Nat} {l i : Int} (h0 : 0 ≤ l * 4 + i) (h1 : l * 4 + i < 48) (hi : i32 i ∧ i32 l ∧ i32 (l * 4)) : m5_number 29 (iI l) (iI i) (cK rho (nK h L U w)) = some (iI (rho 34 (l * 4 + i)), cK rho (nK h L U w)) := by
  have hk := nK_ok (L := L) (U := U) (w := w) hC (by omega)
  have i1 := hi.1
  have i2 := hi.2.1
  have i3 := hi.2.2
  unfold m5_number
  rw [hk.g29_7]
  simp (config := { maxSteps := 1000000 }) (disch := first | assumption | exact W.i _ _ | exact sLine_i W _ _ _ | exact W1.i _ _ | exact hg _ _ | exact W3.i _ _ | (refine ⟨?_, ?_⟩ <;> omega) | omega | (simp only [sW_1, sW_2, sW_3, sW_4, sW_5, sW_8] <;> first | assumption | omega | (refine ⟨?_, ?_⟩ <;> omega)) | (simp only [sT_1, sT_2, sT_3, sT_4, sT_5, sT_8] <;> first | assumption | omega | (refine ⟨?_, ?_⟩ <;> omega)) | (simp only [List.length_append, List.length_cons, List.length_nil, Nat.reduceAdd] <;> omega)) only [Int.reduceEq, Int.reduceLT, Int.reduceLE, Int.reduceNeg, Int.reduceAdd, Int.reduceSub, Int.reduceMul, if_true, if_false, not_true, not_false_eq_true, false_or, or_false, true_or, or_true, true_and, and_true, false_and, and_false, iI_on, iI_mul, iI_add, iI_sub, iI_neg, ap_if, mp_eq, mz_0, mz_1, mz_b, b2_0, b2_1, iI_lt, iI_le, iI_inj, mb_div, mb_rem]
  rw [hk.l34 h0 h1]
  rfl
/-- one line's step: what it changes -/
def StepU (D : Int → Int → Int) (l : Int) (U U1 : Nat → Int → Int) : Prop := U1 0 = U 0 ∧ (∀ q, q ≠ 1 → q ≠ 2 → q ≠ 3 → q ≠ 9 → U1 q = U q) ∧ (∀ k, 0 ≤ k → k < 6 → U1 1 k = fT D 0 k (U 1 k) l ∧ U1 2 k = fT D 1 k (U 2 k) l) ∧ (∀ g p a, 0 ≤ g → g ≤ 4 → 0 ≤ p → p ≤ 3 → U 3 (g * 4 + p) = orN a → U1 3 (g * 4 + p) = orN (fR D g p a l)) ∧ (∀ x, x ≠ l → U1 9 x = U 9 x) ∧ U1 9 l = lawSt' D l
theorem C_lawStep (hC : OKC h) (hl : 84 ≤ h.1.length) (hg : okG rho) {D : Int → Int → Int} (hD : DL rho D n) (hn : 0 ≤ n ∧ n ≤ 12) (hc : 0 ≤ nc ∧ nc ≤ 250) {fu : Nat} {l b o : Int} (h0 : 0 ≤ l) (h1 : l < n) (hb : b = 0 ∨ b = 1) (ho : i32 o) (e1 : U 0 1 = n) (e5 : ∀ x, 0 ≤ x → x < n → U 5 x = rho 30 x) (e9 : ∀ x, l ≤ x → x < n → U 9 x = 0) : ∃ U1, m4_init_p135 (fu + 1) (h.1.length + 0) 29 (iI b) (iI o) (iI l) (cK rho (nK h (L10 n nc) U (wLaw h.1.length w0))) = m4_init_p135 fu (h.1.length + 0) 29 (iI (fK D b l)) (iI (fO D o l)) (iI (l + 1)) (cK rho (nK h (L10 n nc) U1 (wLaw h.1.length w0))) ∧ StepU D l U U1 := by
  have hl55 : 55 ≤ h.1.length := by omega
  have hk := nK_ok (L := L10 n nc) (U := U) (w := wLaw h.1.length w0) hC hl55
  obtain ⟨d0, d1, d2, d3, d4, d5⟩ := hD l h0 h1
  have n0 := nk_num (rho := rho) (U := U) (L := L10 n nc) (w := wLaw h.1.length w0) hC hl (l := l) (i := 0) (by omega) (by omega) ⟨⟨by omega, by omega⟩, ⟨by omega, by omega⟩, ⟨by omega, by omega⟩⟩
  have n1 := nk_num (rho := rho) (U := U) (L := L10 n nc) (w := wLaw h.1.length w0) hC hl (l := l) (i := 1) (by omega) (by omega) ⟨⟨by omega, by omega⟩, ⟨by omega, by omega⟩, ⟨by omega, by omega⟩⟩
  have n2 := nk_num (rho := rho) (U := U) (L := L10 n nc) (w := wLaw h.1.length w0) hC hl (l := l) (i := 2) (by omega) (by omega) ⟨⟨by omega, by omega⟩, ⟨by omega, by omega⟩, ⟨by omega, by omega⟩⟩
  have n3 := nk_num (rho := rho) (U := U) (L := L10 n nc) (w := wLaw h.1.length w0) hC hl (l := l) (i := 3) (by omega) (by omega) ⟨⟨by omega, by omega⟩, ⟨by omega, by omega⟩, ⟨by omega, by omega⟩⟩
  have f0 : l * 4 + 0 = 4 * l := by omega
  have f1 : l * 4 + 1 = 4 * l + 1 := by omega
  have f2 : l * 4 + 2 = 4 * l + 2 := by omega
  have f3 : l * 4 + 3 = 4 * l + 3 := by omega
  rw [f0] at n0
  rw [f1] at n1
  rw [f2] at n2
  rw [f3] at n3
  have g1 : ∀ f : Int32 → gM Unit, mb (gGetI [4] (h.1.length + 0) 1) f (cK rho (nK h (L10 n nc) U (wLaw h.1.length w0))) = f (iI n) (cK rho (nK h (L10 n nc) U (wLaw h.1.length w0))) := fun f => by
    rw [N_getI hl55 (of_decide_eq_true rfl) rfl, show ((1 : Nat) : Int) = 1 from rfl, e1]
  have g4 : ∀ f : Nat → gM Unit, mb (gGetR [4] (h.1.length + 0) 4) f (cK rho (nK h (L10 n nc) U (wLaw h.1.length w0))) = f (h.1.length + 5) (cK rho (nK h (L10 n nc) U (wLaw h.1.length w0))) := fun f => N_getR (of_decide_eq_true rfl) rfl rfl f
  have g5 : ∀ f : Nat → gM Unit, mb (gGetR [4] (h.1.length + 0) 5) f (cK rho (nK h (L10 n nc) U (wLaw h.1.length w0))) = f (h.1.length + 1) (cK rho (nK h (L10 n nc) U (wLaw h.1.length w0))) := fun f => N_getR (of_decide_eq_true rfl) rfl rfl f
  have g6 : ∀ f : Nat → gM Unit, mb (gGetR [4] (h.1.length + 0) 6) f (cK rho (nK h (L10 n nc) U (wLaw h.1.length w0))) = f (h.1.length + 2) (cK rho (nK h (L10 n nc) U (wLaw h.1.length w0))) := fun f => N_getR (of_decide_eq_true rfl) rfl rfl f
  have g8 : ∀ f : Nat → gM Unit, mb (gGetR [4] (h.1.length + 0) 8) f (cK rho (nK h (L10 n nc) U (wLaw h.1.length w0))) = f (h.1.length + 3) (cK rho (nK h (L10 n nc) U (wLaw h.1.length w0))) := fun f => N_getR (of_decide_eq_true rfl) rfl rfl f
  have g9 : ∀ f : Nat → gM Unit, mb (gGetR [4] (h.1.length + 0) 9) f (cK rho (nK h (L10 n nc) U (wLaw h.1.length w0))) = f (h.1.length + 9) (cK rho (nK h (L10 n nc) U (wLaw h.1.length w0))) := fun f => N_getR (of_decide_eq_true rfl) rfl rfl f
  have en : ((n.toNat : Nat) : Int) = n := by omega
  have ld5 : ∀ f : Int32 → gM Unit, mb (gLdI 100 (h.1.length + 5) (iI l)) f (cK rho (nK h (L10 n nc) U (wLaw h.1.length w0))) = f (iI (D l 0)) (cK rho (nK h (L10 n nc) U (wLaw h.1.length w0))) := fun f => by
    rw [N_ldI hl55 (of_decide_eq_true rfl) (m := n.toNat) rfl h0 (by omega) (by omega), e5 l h0 h1, d1]
  have ri := fun j => hg 34 j
  have r0 := ri (4 * l)
  have r1 := ri (4 * l + 1)
  have hle : ¬ n ≤ l := by omega
  have kb : ¬ D l 0 = 7 → fK D b l = b := fun q => by unfold fK; split <;> omega
  have ko : ¬ D l 0 = 2 → fO D o l = o := fun q => by unfold fO; rw [if_neg q]
  have z9 := e9 l (Int.le_refl _) h1
  have noT : ∀ s, ¬ D l 0 = s → ∀ k (a : Int), fT D s k a l = a := fun s q k a => by unfold fT; rw [if_neg (fun z => q z.1)]
  have noR : ¬ D l 0 = 3 → ∀ g p (a : Int), fR D g p a l = a := fun q g p a => by unfold fR; rw [if_neg (fun z => q z.1)]
  have noS : ¬ D l 0 = 4 → ¬ D l 0 = 5 → lawSt' D l = 0 := fun q r => by unfold lawSt'; rw [if_neg q, if_neg r]
  have cs : D l 0 = 0 ∨ D l 0 = 1 ∨ D l 0 = 2 ∨ D l 0 = 3 ∨ D l 0 = 4 ∨ D l 0 = 5 ∨ D l 0 = 6 ∨ D l 0 = 7 := by omega
  rw [m4_init_p135]
  unfold m4_init_p312
  have idle : ¬ D l 0 = 0 → ¬ D l 0 = 1 → ¬ D l 0 = 3 → ¬ D l 0 = 4 → ¬ D l 0 = 5 → StepU D l U U := fun q0 q1 q3 q4 q5 => ⟨rfl, fun _ _ _ _ _ => rfl, fun k _ _ => ⟨(noT 0 q0 k _).symm, (noT 1 q1 k _).symm⟩, fun g p a _ _ _ _ e => by rw [noR q3]; exact e, fun _ _ => rfl, by rw [z9, noS q4 q5]⟩
  rcases cs with e | e | e | e | e | e | e | e
  · obtain ⟨y1, y2, y3, y4⟩ := d2 (by omega)
    rw [e] at ld5
    rw [y1] at n0
    rw [y2] at n1
    rw [kb (by omega), ko (by omega)]
    refine ⟨s3 U 1 (D l 1) (D l 2), ?_, s3_o (by omega), fun q q1 _ _ _ => s3_o (fun z => q1 z), fun k k0 k1 => ⟨?_, ?_⟩, fun g p a _ _ _ _ z => by rw [s3_nk (by omega), noR (by omega)]; exact z, fun x _ => s3_nk (by omega), by rw [s3_nk (by omega), z9, noS (by omega) (by omega)]⟩
    · simp (config := { maxSteps := 1000000 }) (disch := first | assumption | exact W.i _ _ | exact sLine_i W _ _ _ | exact W1.i _ _ | exact hg _ _ | exact W3.i _ _ | (refine ⟨?_, ?_⟩ <;> omega) | omega | (simp only [sW_1, sW_2, sW_3, sW_4, sW_5, sW_8] <;> first | assumption | omega | (refine ⟨?_, ?_⟩ <;> omega)) | (simp only [sT_1, sT_2, sT_3, sT_4, sT_5, sT_8] <;> first | assumption | omega | (refine ⟨?_, ?_⟩ <;> omega)) | (simp only [List.length_append, List.length_cons, List.length_nil, Nat.reduceAdd] <;> omega)) only [Int.reduceEq, Int.reduceLT, Int.reduceLE, Int.reduceNeg, Int.reduceAdd, Int.reduceSub, Int.reduceMul, if_true, if_false, not_true, not_false_eq_true, false_or, or_false, true_or, or_true, true_and, and_true, false_and, and_false, iI_on, iI_mul, iI_add, iI_sub, iI_neg, ap_if, mp_eq, mz_0, mz_1, mz_b, b2_0, b2_1, iI_lt, iI_le, iI_inj, mb_div, mb_rem, g1, hle, hk.m29, mb_eq n0, mb_eq n1, g4, ld5, g5]
      rw [N_stI hl55 (of_decide_eq_true rfl) (m := 6) rfl (by omega) (by omega) (by omega)]
    · unfold fT
      by_cases c : D l 1 = k
      · rw [if_pos ⟨e, c⟩, c, s3_at]
      · rw [if_neg (fun z => c z.2), s3_nj (fun z => c z.symm)]
    · rw [noT 1 (by omega), s3_nk (by omega)]
  · obtain ⟨y1, y2, y3, y4⟩ := d2 (by omega)
    rw [e] at ld5
    rw [y1] at n0
    rw [y2] at n1
    rw [kb (by omega), ko (by omega)]
    refine ⟨s3 U 2 (D l 1) (D l 2), ?_, s3_o (by omega), fun q _ q2 _ _ => s3_o (fun z => q2 z), fun k k0 k1 => ⟨?_, ?_⟩, fun g p a _ _ _ _ z => by rw [s3_nk (by omega), noR (by omega)]; exact z, fun x _ => s3_nk (by omega), by rw [s3_nk (by omega), z9, noS (by omega) (by omega)]⟩
    · simp (config := { maxSteps := 1000000 }) (disch := first | assumption | exact W.i _ _ | exact sLine_i W _ _ _ | exact W1.i _ _ | exact hg _ _ | exact W3.i _ _ | (refine ⟨?_, ?_⟩ <;> omega) | omega | (simp only [sW_1, sW_2, sW_3, sW_4, sW_5, sW_8] <;> first | assumption | omega | (refine ⟨?_, ?_⟩ <;> omega)) | (simp only [sT_1, sT_2, sT_3, sT_4, sT_5, sT_8] <;> first | assumption | omega | (refine ⟨?_, ?_⟩ <;> omega)) | (simp only [List.length_append, List.length_cons, List.length_nil, Nat.reduceAdd] <;> omega)) only [Int.reduceEq, Int.reduceLT, Int.reduceLE, Int.reduceNeg, Int.reduceAdd, Int.reduceSub, Int.reduceMul, if_true, if_false, not_true, not_false_eq_true, false_or, or_false, true_or, or_true, true_and, and_true, false_and, and_false, iI_on, iI_mul, iI_add, iI_sub, iI_neg, ap_if, mp_eq, mz_0, mz_1, mz_b, b2_0, b2_1, iI_lt, iI_le, iI_inj, mb_div, mb_rem, g1, hle, hk.m29, mb_eq n0, mb_eq n1, g4, ld5, g6]
      rw [N_stI hl55 (of_decide_eq_true rfl) (m := 6) rfl (by omega) (by omega) (by omega)]
    · rw [noT 0 (by omega), s3_nk (by omega)]
    · unfold fT
      by_cases c : D l 1 = k
      · rw [if_pos ⟨e, c⟩, c, s3_at]
      · rw [if_neg (fun z => c z.2), s3_nj (fun z => c z.symm)]
  · obtain ⟨y1, y2⟩ := d3 (by omega)
    rw [e] at ld5
    rw [y1] at n0
    have eo : fO D o l = D l 1 := by unfold fO; rw [if_pos e]
    rw [kb (by omega), eo]
    refine ⟨U, ?_, idle (by omega) (by omega) (by omega) (by omega) (by omega)⟩
    simp (config := { maxSteps := 1000000 }) (disch := first | assumption | exact W.i _ _ | exact sLine_i W _ _ _ | exact W1.i _ _ | exact hg _ _ | exact W3.i _ _ | (refine ⟨?_, ?_⟩ <;> omega) | omega | (simp only [sW_1, sW_2, sW_3, sW_4, sW_5, sW_8] <;> first | assumption | omega | (refine ⟨?_, ?_⟩ <;> omega)) | (simp only [sT_1, sT_2, sT_3, sT_4, sT_5, sT_8] <;> first | assumption | omega | (refine ⟨?_, ?_⟩ <;> omega)) | (simp only [List.length_append, List.length_cons, List.length_nil, Nat.reduceAdd] <;> omega)) only [Int.reduceEq, Int.reduceLT, Int.reduceLE, Int.reduceNeg, Int.reduceAdd, Int.reduceSub, Int.reduceMul, if_true, if_false, not_true, not_false_eq_true, false_or, or_false, true_or, or_true, true_and, and_true, false_and, and_false, iI_on, iI_mul, iI_add, iI_sub, iI_neg, ap_if, mp_eq, mz_0, mz_1, mz_b, b2_0, b2_1, iI_lt, iI_le, iI_inj, mb_div, mb_rem, g1, hle, hk.m29, mb_eq n0, mb_eq n1, g4, ld5]
  · obtain ⟨y1, y2, y3, y4, y5, y6, y7, y8⟩ := d4 (by omega)
    rw [e] at ld5
    rw [y1] at n0
    rw [y2] at n1
    rw [y3] at n2
    rw [y4] at n3
    rw [kb (by omega), ko (by omega)]
    refine ⟨s3 U 3 (D l 1 * 4 + D l 2) (1000 * D l 3 + D l 4), ?_, s3_o (by omega), fun q _ _ q3 _ => s3_o (fun z => q3 z), fun k k0 k1 => ⟨by rw [noT 0 (by omega), s3_nk (by omega)], by rw [noT 1 (by omega), s3_nk (by omega)]⟩, fun g p a g0 g1 p0 p1 z => ?_, fun x _ => s3_nk (by omega), by rw [s3_nk (by omega), z9, noS (by omega) (by omega)]⟩
    · simp (config := { maxSteps := 1000000 }) (disch := first | assumption | exact W.i _ _ | exact sLine_i W _ _ _ | exact W1.i _ _ | exact hg _ _ | exact W3.i _ _ | (refine ⟨?_, ?_⟩ <;> omega) | omega | (simp only [sW_1, sW_2, sW_3, sW_4, sW_5, sW_8] <;> first | assumption | omega | (refine ⟨?_, ?_⟩ <;> omega)) | (simp only [sT_1, sT_2, sT_3, sT_4, sT_5, sT_8] <;> first | assumption | omega | (refine ⟨?_, ?_⟩ <;> omega)) | (simp only [List.length_append, List.length_cons, List.length_nil, Nat.reduceAdd] <;> omega)) only [Int.reduceEq, Int.reduceLT, Int.reduceLE, Int.reduceNeg, Int.reduceAdd, Int.reduceSub, Int.reduceMul, if_true, if_false, not_true, not_false_eq_true, false_or, or_false, true_or, or_true, true_and, and_true, false_and, and_false, iI_on, iI_mul, iI_add, iI_sub, iI_neg, ap_if, mp_eq, mz_0, mz_1, mz_b, b2_0, b2_1, iI_lt, iI_le, iI_inj, mb_div, mb_rem, g1, hle, hk.m29, mb_eq n0, mb_eq n1, g4, ld5, g8, mb_eq n2, mb_eq n3]
      rw [N_stI hl55 (of_decide_eq_true rfl) (m := 20) rfl (by omega) (by omega) (by omega)]
    · unfold fR
      by_cases c : D l 1 = g ∧ D l 2 = p
      · rw [if_pos ⟨e, c⟩, c.1, c.2, s3_at]
        unfold orN
        rw [if_neg (by omega)]
      · rw [if_neg (fun z => c z.2), s3_nj (by omega)]
        exact z
  · obtain ⟨y1, y2⟩ := d5 (Or.inl e)
    rw [e] at ld5
    rw [y1] at n0
    rw [kb (by omega), ko (by omega)]
    refine ⟨s3 U 9 l (D l 1), ?_, s3_o (by omega), fun q _ _ _ q9 => s3_o (fun z => q9 z), fun k k0 k1 => ⟨by rw [noT 0 (by omega), s3_nk (by omega)], by rw [noT 1 (by omega), s3_nk (by omega)]⟩, fun g p a _ _ _ _ z => by rw [s3_nk (by omega), noR (by omega)]; exact z, fun x hx => s3_nj hx, ?_⟩
    · simp (config := { maxSteps := 1000000 }) (disch := first | assumption | exact W.i _ _ | exact sLine_i W _ _ _ | exact W1.i _ _ | exact hg _ _ | exact W3.i _ _ | (refine ⟨?_, ?_⟩ <;> omega) | omega | (simp only [sW_1, sW_2, sW_3, sW_4, sW_5, sW_8] <;> first | assumption | omega | (refine ⟨?_, ?_⟩ <;> omega)) | (simp only [sT_1, sT_2, sT_3, sT_4, sT_5, sT_8] <;> first | assumption | omega | (refine ⟨?_, ?_⟩ <;> omega)) | (simp only [List.length_append, List.length_cons, List.length_nil, Nat.reduceAdd] <;> omega)) only [Int.reduceEq, Int.reduceLT, Int.reduceLE, Int.reduceNeg, Int.reduceAdd, Int.reduceSub, Int.reduceMul, if_true, if_false, not_true, not_false_eq_true, false_or, or_false, true_or, or_true, true_and, and_true, false_and, and_false, iI_on, iI_mul, iI_add, iI_sub, iI_neg, ap_if, mp_eq, mz_0, mz_1, mz_b, b2_0, b2_1, iI_lt, iI_le, iI_inj, mb_div, mb_rem, g1, hle, hk.m29, mb_eq n0, mb_eq n1, g4, ld5, g9]
      rw [N_stI hl55 (of_decide_eq_true rfl) (m := n.toNat) rfl h0 (by omega) (by omega)]
    · rw [s3_at]
      unfold lawSt'
      rw [if_pos e]
  · obtain ⟨y1, y2⟩ := d5 (Or.inr e)
    rw [e] at ld5
    rw [y1] at n0
    rw [kb (by omega), ko (by omega)]
    refine ⟨s3 U 9 l (- D l 1), ?_, s3_o (by omega), fun q _ _ _ q9 => s3_o (fun z => q9 z), fun k k0 k1 => ⟨by rw [noT 0 (by omega), s3_nk (by omega)], by rw [noT 1 (by omega), s3_nk (by omega)]⟩, fun g p a _ _ _ _ z => by rw [s3_nk (by omega), noR (by omega)]; exact z, fun x hx => s3_nj hx, ?_⟩
    · simp (config := { maxSteps := 1000000 }) (disch := first | assumption | exact W.i _ _ | exact sLine_i W _ _ _ | exact W1.i _ _ | exact hg _ _ | exact W3.i _ _ | (refine ⟨?_, ?_⟩ <;> omega) | omega | (simp only [sW_1, sW_2, sW_3, sW_4, sW_5, sW_8] <;> first | assumption | omega | (refine ⟨?_, ?_⟩ <;> omega)) | (simp only [sT_1, sT_2, sT_3, sT_4, sT_5, sT_8] <;> first | assumption | omega | (refine ⟨?_, ?_⟩ <;> omega)) | (simp only [List.length_append, List.length_cons, List.length_nil, Nat.reduceAdd] <;> omega)) only [Int.reduceEq, Int.reduceLT, Int.reduceLE, Int.reduceNeg, Int.reduceAdd, Int.reduceSub, Int.reduceMul, if_true, if_false, not_true, not_false_eq_true, false_or, or_false, true_or, or_true, true_and, and_true, false_and, and_false, iI_on, iI_mul, iI_add, iI_sub, iI_neg, ap_if, mp_eq, mz_0, mz_1, mz_b, b2_0, b2_1, iI_lt, iI_le, iI_inj, mb_div, mb_rem, g1, hle, hk.m29, mb_eq n0, mb_eq n1, g4, ld5, g9]
      rw [N_stI hl55 (of_decide_eq_true rfl) (m := n.toNat) rfl h0 (by omega) (by omega)]
    · rw [s3_at]
      unfold lawSt'
      rw [if_neg (by omega), if_pos e]
  · rw [e] at ld5
    rw [kb (by omega), ko (by omega)]
    refine ⟨U, ?_, idle (by omega) (by omega) (by omega) (by omega) (by omega)⟩
    simp (config := { maxSteps := 1000000 }) (disch := first | assumption | exact W.i _ _ | exact sLine_i W _ _ _ | exact W1.i _ _ | exact hg _ _ | exact W3.i _ _ | (refine ⟨?_, ?_⟩ <;> omega) | omega | (simp only [sW_1, sW_2, sW_3, sW_4, sW_5, sW_8] <;> first | assumption | omega | (refine ⟨?_, ?_⟩ <;> omega)) | (simp only [sT_1, sT_2, sT_3, sT_4, sT_5, sT_8] <;> first | assumption | omega | (refine ⟨?_, ?_⟩ <;> omega)) | (simp only [List.length_append, List.length_cons, List.length_nil, Nat.reduceAdd] <;> omega)) only [Int.reduceEq, Int.reduceLT, Int.reduceLE, Int.reduceNeg, Int.reduceAdd, Int.reduceSub, Int.reduceMul, if_true, if_false, not_true, not_false_eq_true, false_or, or_false, true_or, or_true, true_and, and_true, false_and, and_false, iI_on, iI_mul, iI_add, iI_sub, iI_neg, ap_if, mp_eq, mz_0, mz_1, mz_b, b2_0, b2_1, iI_lt, iI_le, iI_inj, mb_div, mb_rem, g1, hle, hk.m29, mb_eq n0, mb_eq n1, g4, ld5]
  · rw [e] at ld5
    have eb : fK D b l = 1 := by unfold fK; rw [if_pos (Or.inr e)]
    rw [eb, ko (by omega)]
    refine ⟨U, ?_, idle (by omega) (by omega) (by omega) (by omega) (by omega)⟩
    simp (config := { maxSteps := 1000000 }) (disch := first | assumption | exact W.i _ _ | exact sLine_i W _ _ _ | exact W1.i _ _ | exact hg _ _ | exact W3.i _ _ | (refine ⟨?_, ?_⟩ <;> omega) | omega | (simp only [sW_1, sW_2, sW_3, sW_4, sW_5, sW_8] <;> first | assumption | omega | (refine ⟨?_, ?_⟩ <;> omega)) | (simp only [sT_1, sT_2, sT_3, sT_4, sT_5, sT_8] <;> first | assumption | omega | (refine ⟨?_, ?_⟩ <;> omega)) | (simp only [List.length_append, List.length_cons, List.length_nil, Nat.reduceAdd] <;> omega)) only [Int.reduceEq, Int.reduceLT, Int.reduceLE, Int.reduceNeg, Int.reduceAdd, Int.reduceSub, Int.reduceMul, if_true, if_false, not_true, not_false_eq_true, false_or, or_false, true_or, or_true, true_and, and_true, false_and, and_false, iI_on, iI_mul, iI_add, iI_sub, iI_neg, ap_if, mp_eq, mz_0, mz_1, mz_b, b2_0, b2_1, iI_lt, iI_le, iI_inj, mb_div, mb_rem, g1, hle, hk.m29, mb_eq n0, mb_eq n1, g4, ld5]
theorem C_lawLoop (hC : OKC h) (hl : 84 ≤ h.1.length) (hg : okG rho) {D : Int → Int → Int} (hD : DL rho D n) (hn : 0 ≤ n ∧ n ≤ 12) (hc : 0 ≤ nc ∧ nc ≤ 250) : ∀ (m fu : Nat) (l b o : Int) (U : Nat → Int → Int), 0 ≤ l → l + m = n → m < fu → (b = 0 ∨ b = 1) → i32 o → U 0 1 = n → (∀ x, 0 ≤ x → x < n → U 5 x = rho 30 x) → (∀ x, l ≤ x → x < n → U 9 x = 0) →
    ∃ U', m4_init_p135 fu (h.1.length + 0) 29 (iI b) (iI o) (iI l) (cK rho (nK h (L10 n nc) U (wLaw h.1.length w0))) = some ((), cK rho (nK h (L10 n nc) U' (wLaw h.1.length w0))) ∧ (U' 0 3 = fo (fK D) m b l ∧ U' 0 7 = fo (fO D) m o l ∧ ∀ j, j ≠ 3 → j ≠ 7 → U' 0 j = U 0 j) ∧ (∀ q, q ≠ 0 → q ≠ 1 → q ≠ 2 → q ≠ 3 → q ≠ 9 → U' q = U q) ∧ (∀ k, 0 ≤ k → k < 6 → U' 1 k = fo (fT D 0 k) m (U 1 k) l ∧ U' 2 k = fo (fT D 1 k) m (U 2 k) l) ∧ (∀ g p a, 0 ≤ g → g ≤ 4 → 0 ≤ p → p ≤ 3 → U 3 (g * 4 + p) = orN a → U' 3 (g * 4 + p) = orN (fo (fR D g p) m a l)) ∧ (∀ x, x < l → U' 9 x = U 9 x) ∧ ∀ x, l ≤ x → x < n → U' 9 x = lawSt' D x := by
  intro m
  induction m with
  | zero =>
    intro fu l b o U h0 h1 h2 hb ho e1 e5 e9
    obtain ⟨fu, rfl⟩ : ∃ z, fu = z + 1 := ⟨fu - 1, by omega⟩
    have hl55 : 55 ≤ h.1.length := by omega
    refine ⟨s3 (s3 U 0 3 b) 0 7 o, ?_, ⟨by rw [s3_nj (by omega), s3_at]; rfl, by rw [s3_at]; rfl, fun j j3 j7 => by rw [s3_nj j7, s3_nj j3]⟩, fun q q0 _ _ _ _ => by rw [s3_o (by omega), s3_o (by omega)], fun k _ _ => by rw [s3_nk (by omega), s3_nk (by omega), s3_nk (by omega), s3_nk (by omega)]; exact ⟨rfl, rfl⟩, fun g p a _ _ _ _ e => by rw [s3_nk (by omega), s3_nk (by omega)]; exact e, fun x _ => by rw [s3_nk (by omega), s3_nk (by omega)], fun x x0 x1 => by omega⟩
    rw [m4_init_p135, N_getI hl55 (of_decide_eq_true rfl) rfl, show ((1 : Nat) : Int) = 1 from rfl, e1]
    have hle : iI n ≤ iI l := by rw [iI_le ⟨by omega, by omega⟩ ⟨by omega, by omega⟩]; omega
    rw [if_pos hle, gPutZ_b hb, N_putI hl55 (of_decide_eq_true rfl) rfl, N_putI hl55 (of_decide_eq_true rfl) rfl]
    rfl
  | succ m ih =>
    intro fu l b o U h0 h1 h2 hb ho e1 e5 e9
    obtain ⟨fu, rfl⟩ : ∃ z, fu = z + 1 := ⟨fu - 1, by omega⟩
    obtain ⟨U1, s1, t0, t1, t2, t3, t4, t5⟩ := C_lawStep (fu := fu) hC hl hg hD hn hc h0 (by omega) hb ho e1 e5 e9
    have d0 := hD l h0 (by omega)
    have hb' : fK D b l = 0 ∨ fK D b l = 1 := by unfold fK; split <;> omega
    have ho' : i32 (fO D o l) := by
      unfold fO
      split
      · rename_i z
        have := d0.2.2.2.1 z
        exact ⟨by omega, by omega⟩
      · exact ho
    obtain ⟨U', r1, ⟨r2, r3, r4⟩, r5, r6, r7, r8, r9⟩ := ih fu (l + 1) (fK D b l) (fO D o l) U1 (by omega) (by omega) (by omega) hb' ho' (by rw [t0]; exact e1) (fun x x0 x1 => by rw [t1 5 (by omega) (by omega) (by omega) (by omega)]; exact e5 x x0 x1) (fun x x0 x1 => by rw [t4 x (by omega)]; exact e9 x (by omega) x1)
    refine ⟨U', s1.trans r1, ⟨r2, r3, fun j j3 j7 => by rw [r4 j j3 j7, t0]⟩, fun q q0 q1 q2 q3 q9 => (r5 q q0 q1 q2 q3 q9).trans (t1 q q1 q2 q3 q9), fun k k0 k1 => ?_, fun g p a g0 g1 p0 p1 e => r7 g p _ g0 g1 p0 p1 (t3 g p a g0 g1 p0 p1 e), fun x hx => (r8 x (by omega)).trans (t4 x (by omega)), fun x x0 x1 => ?_⟩
    · obtain ⟨a1, a2⟩ := r6 k k0 k1
      obtain ⟨c1, c2⟩ := t2 k k0 k1
      rw [a1, a2, c1, c2]
      exact ⟨rfl, rfl⟩
    · by_cases c : x = l
      · rw [c, r8 l (by omega), t5]
      · exact r9 x (by omega) x1
end LAWLOOP

/-! ===== the reference reads a line ===== -/
/-- a cursor: whether all was right so far, and where -/
abbrev Cu : Type := Bool × Int
def cN (c : Int → Int) (l m : Int) (x : Cu) : Cu := if x.1 = true then (if l ≤ c x.2 ∧ c x.2 ≤ m then (true, x.2 + 1) else (false, x.2)) else x
def cW (c : Int → Int) (v : Int) (x : Cu) : Cu := if x.1 = true then (if c x.2 = v then (true, x.2 + 1) else (false, x.2)) else x
def cC (c : Int → Int) (x : Cu) : Cu := if x.1 = true then ((pC c 6 0 x.2).1, (pC c 6 0 x.2).2.1) else x
def bodyX (c : Int → Int) (s k : Int) : Cu := if s ≤ 1 then cN c 0 9 (cN c 0 5 (true, k)) else if s = 2 then cN c 0 90 (true, k) else if s = 3 then cN c (c (k + 2)) 240 (cW c 1017 (cN c 0 240 (cN c 0 3 (cN c 0 4 (true, k))))) else if s ≤ 5 then cC c (cW c 1016 (cN c 0 4 (true, k))) else if s = 6 then cC c (cW c 1016 (true, k)) else (true, k)
def lnX (c : Int → Int) (k : Int) : Cu := if 1000 ≤ c k ∧ c k ≤ 1007 then cW c 2059 (bodyX c (c k - 1000) (k + 1)) else (false, k)
/-- the condition of a line -/
def condX (c : Int → Int) (k : Int) : Rs := if c k = 1004 ∨ c k = 1005 then pC c 6 0 (k + 3) else if c k = 1006 then pC c 6 0 (k + 2) else (true, k, [], [])
section CUR
variable {c : Int → Int} {N : Int}
abbrev okX (N : Int) (x : Cu) : Prop := 0 ≤ x.2 ∧ x.2 ≤ N
theorem cN_b (H : CN c N) {l m : Int} (hm : m ≤ 999) {x : Cu} (h : okX N x) : okX N (cN c l m x) ∧ x.2 ≤ (cN c l m x).2 := by
  unfold cN
  by_cases c1 : x.1 = true
  · rw [if_pos c1]
    by_cases c2 : l ≤ c x.2 ∧ c x.2 ≤ m
    · rw [if_pos c2]
      have : x.2 < N := by
        rcases Int.lt_or_le x.2 N with q | q
        · exact q
        · have := H.2.1 _ q; omega
      exact ⟨⟨by dsimp only; omega, by dsimp only; omega⟩, by dsimp only; omega⟩
    · rw [if_neg c2]; exact ⟨h, Int.le_refl _⟩
  · rw [if_neg c1]; exact ⟨h, Int.le_refl _⟩
theorem cW_b (H : CN c N) {v : Int} (hv : v ≠ 3000) {x : Cu} (h : okX N x) : okX N (cW c v x) ∧ x.2 ≤ (cW c v x).2 := by
  unfold cW
  by_cases c1 : x.1 = true
  · rw [if_pos c1]
    by_cases c2 : c x.2 = v
    · rw [if_pos c2]
      have : x.2 < N := by
        rcases Int.lt_or_le x.2 N with q | q
        · exact q
        · have := H.2.1 _ q; omega
      exact ⟨⟨by dsimp only; omega, by dsimp only; omega⟩, by dsimp only; omega⟩
    · rw [if_neg c2]; exact ⟨h, Int.le_refl _⟩
  · rw [if_neg c1]; exact ⟨h, Int.le_refl _⟩
theorem cC_b (H : CN c N) {x : Cu} (h : okX N x) : okX N (cC c x) ∧ x.2 ≤ (cC c x).2 := by
  have hb := pC_b H 6 0 x.2 h.1 h.2
  unfold cC
  by_cases c1 : x.1 = true
  · rw [if_pos c1]
    exact ⟨⟨by dsimp only; omega, hb.2.1⟩, hb.1⟩
  · rw [if_neg c1]; exact ⟨h, Int.le_refl _⟩
end CUR
section RLINE
variable {M : Nat} {b b0 b' : Nat → Int → Int} {h s : gH} {g : Int → Int} {f k l : Int} {S w : List Int} {x : Cu} {L : List (Int × Int)}
theorem rSt_row {q : Nat} {j v : Int} (h0 : q ≠ 0) (h1 : q ≠ 12) (h2 : q ≠ 13) : s3 (rSt b g f k S w) q j v = rSt (s3 b q j v) g f k S w ∨ (q = 10 ∨ q = 14) := by
  by_cases c : q = 10
  · exact Or.inr (Or.inl c)
  · left
    have e10 : s3 b q j v 10 = b 10 := s3_o (fun e => c e.symm)
    have e00 : s3 b q j v 0 = b 0 := s3_o (fun e => h0 e.symm)
    funext q' j'
    by_cases e : q' = q ∧ j' = j
    · rw [e.1, e.2, s3_at, rSt_o h0 h1 h2, s3_at]
    · rw [s3_ne (by omega)]
      unfold rSt
      rw [e10, e00]
      by_cases a0 : q' = 0
      · rw [if_pos a0, if_pos a0]
      · rw [if_neg a0, if_neg a0]
        by_cases a1 : q' = 12
        · rw [if_pos a1, if_pos a1, s3_o (fun e => h1 e.symm)]
        · rw [if_neg a1, if_neg a1]
          by_cases a2 : q' = 13
          · rw [if_pos a2, if_pos a2]
          · rw [if_neg a2, if_neg a2, s3_ne (by omega)]
theorem rSt_11w (j v : Int) : s3 (rSt b g f k S w) 11 j v = rSt (s3 b 11 j v) g f k S w := (rSt_row (by omega) (by omega) (by omega)).elim id (fun q => by omega)
/-- the same but for the line's own numbers -/
def sm (l : Int) (b0 b' : Nat → Int → Int) : Prop := (∀ q, q ≠ 11 → b' q = b0 q) ∧ ∀ j, (j < 7 * l ∨ 7 * l + 6 < j) → b' 11 j = b0 11 j
theorem sm.rf : sm l b0 b0 := ⟨fun _ _ => rfl, fun _ _ => rfl⟩
theorem sm.st (H : sm l b0 b') {j v : Int} (hj : 7 * l ≤ j ∧ j ≤ 7 * l + 6) : sm l b0 (s3 b' 11 j v) := ⟨fun q q0 => (s3_o q0).trans (H.1 q q0), fun i hi => (s3_nj (by omega)).trans (H.2 i hi)⟩
theorem sm.br (H : sm l b0 b') (B : BR b0) (g0 : okG b') : BR b' := by
  refine ⟨g0, ?_⟩
  unfold TY
  rw [H.1 0 (by omega), H.1 10 (by omega), H.1 14 (by omega)]
  exact B.2
theorem sm.cd (H : sm l b0 b') : CD b' = CD b0 := by
  unfold CD
  rw [H.1 0 (by omega), H.1 10 (by omega)]
theorem sm.ct (H : sm l b0 b') : CT b' = CT b0 := by
  unfold CT
  rw [H.1 0 (by omega), H.1 10 (by omega)]
theorem sm.pa (H : sm l b0 b') (k : Int) : pA0 b' k = pA0 b0 k := by
  unfold pA0
  rw [H.1 0 (by omega), H.1 10 (by omega)]
/-- where the reference stands -/
def St (M : Nat) (b0 : Nat → Int → Int) (l : Int) (h : gH) (x : Cu) (S : List Int) (L : List (Int × Int)) (s : gH) : Prop :=
  (x.1 = true → ∃ b' g, s = mK M (rSt b' g (-1) x.2 S []) h ∧ QR g (-1) x.2 S [] ∧ okG b' ∧ sm l b0 b' ∧ ∀ p, p ∈ L → b' 11 p.1 = p.2) ∧
  (x.1 = false → ∃ b' g k S' w, s = mK M (rSt b' g (pA0 b0 x.2) k S' w) h ∧ QR g (pA0 b0 x.2) k S' w ∧ okG b' ∧ sm l b0 b')
theorem mK_cong {X : Nat → Int → Int} {q : Nat} {j v v' : Int} (e : iI v = iI v') : mK M (s3 X q j v) h = mK M (s3 X q j v') h := by
  unfold mK
  simp only [Prod.mk.injEq, true_and, and_true]
  funext a n
  by_cases c : M ≤ a ∧ a ≤ M + 28
  · rw [if_pos c, if_pos c]
    by_cases c2 : a - M = q ∧ (n : Int) = j
    · rw [c2.1, c2.2, s3_at, s3_at, e]
    · rw [s3_ne (by omega), s3_ne (by omega)]
  · rw [if_neg c, if_neg c]
theorem ftn {x : Bool} (h : ¬ x = true) : x = false := by revert h; cases x <;> simp
/-- a number is wanted, and laid down -/
theorem R_stN (hM : OKM M h) (B : BR b0) (hx : okX (CT b0) x) (hl : 0 ≤ l ∧ l < 12) (H : St M b0 l h x S L s) {lo m : Int} {lo' : Int32} (h0 : 0 ≤ lo) (hm : m ≤ 999) (im : i32 m) (il : i32 lo) (elo : x.1 = true → lo' = iI lo) {i : Int} (hi : 7 * l ≤ i ∧ i ≤ 7 * l + 6) (hn : ∀ p, p ∈ L → p.1 ≠ i) : ∃ s', St M b0 l h (cN (CD b0) lo m x) S ((i, CD b0 x.2) :: L) s' ∧ ∀ K : Unit → gM Unit, mb (m12_wantNumber M lo' (iI m)) (fun v => mb (gStI 100 (M + 11) (iI i) v) K) s = K () s' := by
  by_cases c1 : x.1 = true
  · obtain ⟨b', g, rfl, Q, g0, sb, hL⟩ := H.1 c1
    have B' := sb.br B g0
    rw [elo c1]
    obtain ⟨e1, e2⟩ := R_wantNumber (h := h) hM B' Q (by omega) (l := lo) (m := m) h0 hm il im
    have it := tv_ok B' Q.2.2.2.2.1
    rw [sb.cd] at e1 e2
    unfold cN
    rw [if_pos c1]
    by_cases c2 : lo ≤ CD b0 x.2 ∧ CD b0 x.2 ≤ m
    · rw [if_pos c2] at e1 ⊢
      rw [e2 c2] at e1
      refine ⟨mK M (rSt (s3 b' 11 i (CD b0 x.2)) g (-1) (x.2 + 1) S []) h, ⟨fun _ => ⟨_, g, rfl, Q.nx, g0.s ⟨by omega, by omega⟩, sb.st hi, fun p hp => ?_⟩, fun z => by cases z⟩, fun K => ?_⟩
      · rcases List.mem_cons.mp hp with e | e
        · rw [e]; exact s3_at _ _ _ _
        · rw [s3_nj (hn p e)]; exact hL p e
      · rw [mb_eq e1, ← rSt_11w, hM.w11 (by omega) (by omega)]
    · rw [if_neg c2] at e1 ⊢
      refine ⟨mK M (rSt (s3 b' 11 i (tv (b' 10) (b' 0 10) (pA0 b' x.2))) g (pA0 b' x.2) x.2 S []) h, ⟨fun z => (by cases z), fun _ => ⟨_, g, x.2, S, [], by rw [sb.pa], Q.fa (pA0_i B hx.1), g0.s it, sb.st hi⟩⟩, fun K => ?_⟩
      rw [mb_eq e1, ← rSt_11w, hM.w11 (by omega) (by omega)]
  · obtain ⟨b', g, k, S', w, rfl, Q, g0, sb⟩ := H.2 (ftn c1)
    have B' := sb.br B g0
    have pa := B.a hx.1
    have e1 := R_wantNumberB (h := h) hM B' Q (by omega) (l := lo') (m := iI m)
    have it := tv_ok B' Q.2.2.2.2.1
    unfold cN
    rw [if_neg c1]
    refine ⟨mK M (rSt (s3 b' 11 i (tv (b' 10) (b' 0 10) (pA0 b' k))) g (pA0 b0 x.2) k S' w) h, ⟨fun z => absurd z c1, fun _ => ⟨_, g, k, S', w, rfl, Q, g0.s it, sb.st hi⟩⟩, fun K => ?_⟩
    rw [mb_eq e1, ← rSt_11w, hM.w11 (by omega) (by omega)]
/-- a word or sign is wanted -/
theorem R_stW (hM : OKM M h) (B : BR b0) (hx : okX (CT b0) x) (H : St M b0 l h x S L s) {v : Int} {q : gM Int32} (hq : ∀ (b : Nat → Int → Int) (g : Int → Int) (f k : Int) (S w : List Int), BR b → QR g f k S w → q (mK M (rSt b g f k S w) h) = some (iI (b2 (CD b k = v)), mK M (rSt b g f k S w) h)) : ∃ s', St M b0 l h (cW (CD b0) v x) S L s' ∧ ∀ K : Unit → gM Unit, mb q (fun z => mb (mv [11] M (m12_want M z)) K) s = K () s' := by
  by_cases c1 : x.1 = true
  · obtain ⟨b', g, rfl, Q, g0, sb, hL⟩ := H.1 c1
    have B' := sb.br B g0
    have e1 := hq b' g (-1) x.2 S [] B' Q
    rw [sb.cd] at e1
    unfold cW
    rw [if_pos c1]
    by_cases c2 : CD b0 x.2 = v
    · rw [if_pos c2]
      rw [b2_t c2] at e1
      refine ⟨_, ⟨fun _ => ⟨b', g, rfl, Q.nx, g0, sb, hL⟩, fun z => by cases z⟩, fun K => ?_⟩
      rw [mb_eq e1, hM.m, mb_eq (R_want1 hM B' Q (by omega))]
    · rw [if_neg c2]
      rw [b2_f c2] at e1
      refine ⟨_, ⟨fun z => (by cases z), fun _ => ⟨b', g, x.2, S, [], rfl, Q.fa (pA0_i B hx.1), g0, sb⟩⟩, fun K => ?_⟩
      rw [mb_eq e1, hM.m, mb_eq (R_want0 hM Q (by omega)), sb.pa]
  · obtain ⟨b', g, k, S', w, rfl, Q, g0, sb⟩ := H.2 (ftn c1)
    have B' := sb.br B g0
    have pa := B.a hx.1
    have e1 := hq b' g _ k S' w B' Q
    unfold cW
    rw [if_neg c1]
    refine ⟨_, ⟨fun z => absurd z c1, fun _ => ⟨b', g, k, S', w, rfl, Q, g0, sb⟩⟩, fun K => ?_⟩
    rw [mb_eq e1, hM.m, mb_eq (R_wantB hM Q (by omega) _)]
/-- the waiting signs are forgotten -/
theorem rSt_w0 : s3 (rSt b g f k S w) 0 20 0 = rSt b (fun j => if 0 ≤ j ∧ j < (w.length : Int) then w.getD (w.length - 1 - j.toNat) 0 else g j) f k S [] := by
  funext q j
  by_cases e : q = 0 ∧ j = 20
  · rw [e.1, e.2, s3_at, rSt_20]; rfl
  · rw [s3_ne (by omega)]
    unfold rSt
    by_cases a0 : q = 0
    · have : j ≠ 20 := by omega
      rw [if_pos a0, if_pos a0]
      simp only [this, if_false]
    · rw [if_neg a0, if_neg a0]
      by_cases a1 : q = 12
      · rw [if_pos a1, if_pos a1]
      · rw [if_neg a1, if_neg a1]
        by_cases a2 : q = 13
        · rw [if_pos a2, if_pos a2]
          have e0 : (([] : List Int).length : Int) = 0 := rfl
          rw [e0, if_neg (show ¬ (0 ≤ j ∧ j < 0) by omega)]
        · rw [if_neg a2, if_neg a2]
theorem R_wantCondB (hM : OKM M h) (Q : QR g f k S w) (hf : 0 ≤ f) : ∃ g' S' w', QR g' f k S' w' ∧ m12_wantCond M (mK M (rSt b g f k S w) h) = some ((), mK M (rSt b g' f k S' w') h) := by
  have Q1 : QR (fun j => if 0 ≤ j ∧ j < (w.length : Int) then w.getD (w.length - 1 - j.toNat) 0 else g j) f k S [] := by
    refine ⟨fun j => ?_, Q.2.1, Q.2.2.1, fun y hy => (by cases hy), Q.2.2.2.2.1, by have := Q.2.2.2.2.2; rw [List.length_nil]; omega⟩
    dsimp only
    split
    · exact getD_i Q.2.2.2.1 _
    · exact Q.1 j
  obtain ⟨g2, y1, y2⟩ := L_out (M := M) (b := b) (h := h) (o := 0) (a := 1) (m := 1) hM Q1 ⟨by omega, by omega⟩ (Or.inr ⟨rfl, hf⟩)
  refine ⟨g2, _, _, y1, ?_⟩
  have y3 := y2 (FU - 1)
  have ef : FU - 1 + 1 = FU := by unfold FU; omega
  rw [ef] at y3
  refine Eq.trans ?_ y3
  unfold m12_wantCond
  simp (config := { maxSteps := 1000000 }) (disch := first | assumption | exact W.i _ _ | exact sLine_i W _ _ _ | exact W1.i _ _ | exact hg _ _ | exact W3.i _ _ | (refine ⟨?_, ?_⟩ <;> omega) | omega | (simp only [sW_1, sW_2, sW_3, sW_4, sW_5, sW_8] <;> first | assumption | omega | (refine ⟨?_, ?_⟩ <;> omega)) | (simp only [sT_1, sT_2, sT_3, sT_4, sT_5, sT_8] <;> first | assumption | omega | (refine ⟨?_, ?_⟩ <;> omega)) | (simp only [List.length_append, List.length_cons, List.length_nil, Nat.reduceAdd] <;> omega)) only [Int.reduceEq, Int.reduceLT, Int.reduceLE, Int.reduceNeg, Int.reduceAdd, Int.reduceSub, Int.reduceMul, if_true, if_false, not_true, not_false_eq_true, false_or, or_false, true_or, or_true, true_and, and_true, false_and, and_false, iI_on, iI_mul, iI_add, iI_sub, iI_neg, ap_if, mp_eq, mz_0, mz_1, mz_b, b2_0, b2_1, iI_lt, iI_le, iI_inj, mb_div, mb_rem, hM.m, hM.a1, hM.a2, hM.a3, hM.a4, hM.a5, hM.a6, hM.a7, hM.a8, hM.a9, hM.a10, hM.a11, hM.a12, hM.a13, hM.a14, hM.a15, hM.a16, hM.a17, hM.a18, hM.a19, hM.a20, hM.a21, hM.a22, hM.a23, hM.a24, hM.a25, hM.a26, hM.a27, hM.a28, hM.l1, hM.l2, hM.l3, hM.l4, hM.l5, hM.l6, hM.l7, hM.l8, hM.l9, hM.l10, hM.l11, hM.l12, hM.l13, hM.l14, hM.l15, hM.l16, hM.l17, hM.l18, hM.l19, hM.l20, hM.l21, hM.l22, hM.l23, hM.l24, hM.l25, hM.l26, hM.l27, hM.l28, hM.c10, hM.c11, hM.c12, hM.c13, hM.c14, hM.c15, hM.c19, hM.c20, hM.c23, hM.c27, hM.c36, hM.c37, hM.c38, hM.c40, hM.c41, hM.c42, hM.c44, hM.w1, hM.w2, hM.w3, hM.w4, hM.w5, hM.w6, hM.w7, hM.w8, hM.w9, hM.w10, hM.w11, hM.w12, hM.w13, hM.w14, hM.w15, hM.w16, hM.w17, hM.w18, hM.w19, hM.w20, hM.w21, hM.w22, hM.w23, hM.w24, hM.w25, hM.w26, hM.w27, hM.w28, hM.p10, hM.p11, hM.p12, hM.p13, hM.p14, hM.p15, hM.p19, hM.p20, hM.p23, hM.p27, hM.p36, hM.p37, hM.p38, hM.p40, hM.p41, hM.p42, hM.p44, s3_at, s3_nk, s3_nj, hM.ps 20, rSt_w0]
theorem R_stC (hM : OKM M h) (B : BR b0) (hx : okX (CT b0) x) (H : St M b0 l h x S L s) (hS : x.1 = true → (S.length : Int) ≤ x.2) : ∃ s', St M b0 l h (cC (CD b0) x) (S ++ (pC (CD b0) 6 0 x.2).2.2.1) L s' ∧ m12_wantCond M s = some ((), s') := by
  by_cases c1 : x.1 = true
  · obtain ⟨b', g, rfl, Q, g0, sb, hL⟩ := H.1 c1
    have B' := sb.br B g0
    obtain ⟨ok, no⟩ := R_wantCond (h := h) hM B' Q (hS c1) (by rw [sb.ct]; exact hx.2)
    rw [sb.cd] at ok no
    unfold cC
    rw [if_pos c1]
    by_cases c2 : (pC (CD b0) 6 0 x.2).1 = true
    · obtain ⟨g', q1, q2⟩ := ok c2
      exact ⟨_, ⟨fun _ => ⟨b', g', rfl, q1, g0, sb, hL⟩, fun z => absurd (c2.symm.trans z) (by simp)⟩, q2⟩
    · obtain ⟨g', k2, S2, w2, q1, q2⟩ := no (ftn c2)
      rw [sb.pa] at q1 q2
      exact ⟨_, ⟨fun z => absurd z c2, fun _ => ⟨b', g', k2, S2, w2, rfl, q1, g0, sb⟩⟩, q2⟩
  · obtain ⟨b', g, k, S', w, rfl, Q, g0, sb⟩ := H.2 (ftn c1)
    have pa := B.a hx.1
    obtain ⟨g', S2, w2, q1, q2⟩ := R_wantCondB (b := b') (h := h) hM Q (by omega)
    unfold cC
    rw [if_neg c1]
    exact ⟨_, ⟨fun z => absurd z c1, fun _ => ⟨b', g', k, S2, w2, rfl, q1, g0, sb⟩⟩, q2⟩
/-- a line's end -/
theorem R_stE (hM : OKM M h) (B : BR b0) (hx : okX (CT b0) x) (hl : 0 ≤ l ∧ l < 12) (H : St M b0 l h x S L s) {n0 : Int} (h5 : (7 * l + 5, n0) ∈ L) (i0 : 0 ≤ n0 ∧ n0 ≤ 300) (hn : ∀ p, p ∈ L → p.1 ≠ 7 * l + 6) : ∃ s', St M b0 l h (cW (CD b0) 2059 x) S ((7 * l + 6, (S.length : Int) - n0) :: L) s' ∧ m12_wantLine_p269 M (iI (7 * l)) s = some ((), s') := by
  have hq : ∀ (b : Nat → Int → Int) (g : Int → Int) (f k : Int) (S w : List Int), BR b → QR g f k S w → m12_isMark M (iI 59) (mK M (rSt b g f k S w) h) = some (iI (b2 (CD b k = 2059)), mK M (rSt b g f k S w) h) := fun b g f k S w B Q => R_isMark hM B Q (m := 59) ⟨by omega, by omega⟩
  have key : ∃ s1, St M b0 l h x S ((7 * l + 6, (S.length : Int) - n0) :: L) s1 ∧ m12_wantLine_p269 M (iI (7 * l)) s = (mb (m12_isMark M (iI 59)) fun x5 => mb (mv [11] M (m12_want M x5)) fun _ => mp ()) s1 := by
    by_cases c1 : x.1 = true
    · obtain ⟨b', g, rfl, Q, g0, sb, hL⟩ := H.1 c1
      have e5 : b' 11 (7 * l + 5) = n0 := hL _ h5
      have ql := Q.2.2.2.2.2
      refine ⟨mK M (rSt (s3 b' 11 (7 * l + 6) ((S.length : Int) - n0)) g (-1) x.2 S []) h, ⟨fun _ => ⟨_, g, rfl, Q, g0.s ⟨by omega, by omega⟩, sb.st ⟨by omega, by omega⟩, fun p hp => ?_⟩, fun z => absurd (c1.symm.trans z) (by simp)⟩, ?_⟩
      · rcases List.mem_cons.mp hp with e | e
        · rw [e]; exact s3_at _ _ _ _
        · rw [s3_nj (hn p e)]; exact hL p e
      · have e11 : rSt b' g (-1) x.2 S [] 11 (7 * l + 5) = n0 := by rw [rSt_o (by omega) (by omega) (by omega)]; exact e5
        rw [← rSt_11w]
        unfold m12_wantLine_p269
        simp (config := { maxSteps := 1000000 }) (disch := first | assumption | exact W.i _ _ | exact sLine_i W _ _ _ | exact W1.i _ _ | exact hg _ _ | exact W3.i _ _ | (refine ⟨?_, ?_⟩ <;> omega) | omega | (simp only [sW_1, sW_2, sW_3, sW_4, sW_5, sW_8] <;> first | assumption | omega | (refine ⟨?_, ?_⟩ <;> omega)) | (simp only [sT_1, sT_2, sT_3, sT_4, sT_5, sT_8] <;> first | assumption | omega | (refine ⟨?_, ?_⟩ <;> omega)) | (simp only [List.length_append, List.length_cons, List.length_nil, Nat.reduceAdd] <;> omega)) only [Int.reduceEq, Int.reduceLT, Int.reduceLE, Int.reduceNeg, Int.reduceAdd, Int.reduceSub, Int.reduceMul, if_true, if_false, not_true, not_false_eq_true, false_or, or_false, true_or, or_true, true_and, and_true, false_and, and_false, iI_on, iI_mul, iI_add, iI_sub, iI_neg, ap_if, mp_eq, mz_0, mz_1, mz_b, b2_0, b2_1, iI_lt, iI_le, iI_inj, mb_div, mb_rem, hM.m, hM.a1, hM.a2, hM.a3, hM.a4, hM.a5, hM.a6, hM.a7, hM.a8, hM.a9, hM.a10, hM.a11, hM.a12, hM.a13, hM.a14, hM.a15, hM.a16, hM.a17, hM.a18, hM.a19, hM.a20, hM.a21, hM.a22, hM.a23, hM.a24, hM.a25, hM.a26, hM.a27, hM.a28, hM.l1, hM.l2, hM.l3, hM.l4, hM.l5, hM.l6, hM.l7, hM.l8, hM.l9, hM.l10, hM.l11, hM.l12, hM.l13, hM.l14, hM.l15, hM.l16, hM.l17, hM.l18, hM.l19, hM.l20, hM.l21, hM.l22, hM.l23, hM.l24, hM.l25, hM.l26, hM.l27, hM.l28, hM.c10, hM.c11, hM.c12, hM.c13, hM.c14, hM.c15, hM.c19, hM.c20, hM.c23, hM.c27, hM.c36, hM.c37, hM.c38, hM.c40, hM.c41, hM.c42, hM.c44, hM.w1, hM.w2, hM.w3, hM.w4, hM.w5, hM.w6, hM.w7, hM.w8, hM.w9, hM.w10, hM.w11, hM.w12, hM.w13, hM.w14, hM.w15, hM.w16, hM.w17, hM.w18, hM.w19, hM.w20, hM.w21, hM.w22, hM.w23, hM.w24, hM.w25, hM.w26, hM.w27, hM.w28, hM.p10, hM.p11, hM.p12, hM.p13, hM.p14, hM.p15, hM.p19, hM.p20, hM.p23, hM.p27, hM.p36, hM.p37, hM.p38, hM.p40, hM.p41, hM.p42, hM.p44, s3_at, s3_nk, s3_nj, hM.sc 19, rSt_19, e11]
    · obtain ⟨b', g, k, S', w, rfl, Q, g0, sb⟩ := H.2 (ftn c1)
      have i11 := g0 11 (7 * l + 5)
      have ql := Q.2.2.2.2.2
      generalize hv : iI ((S'.length : Int) - b' 11 (7 * l + 5)) = v32
      have ev : v32 = iI v32.toInt := (iI_of v32).symm
      refine ⟨mK M (rSt (s3 b' 11 (7 * l + 6) v32.toInt) g (pA0 b0 x.2) k S' w) h, ⟨fun z => absurd z c1, fun _ => ⟨_, g, k, S', w, rfl, Q, g0.s (i32_of _), sb.st ⟨by omega, by omega⟩⟩⟩, ?_⟩
      have e11 : rSt b' g (pA0 b0 x.2) k S' w 11 (7 * l + 5) = b' 11 (7 * l + 5) := by rw [rSt_o (by omega) (by omega) (by omega)]
      rw [← rSt_11w]
      unfold m12_wantLine_p269
      simp (config := { maxSteps := 1000000 }) (disch := first | assumption | exact W.i _ _ | exact sLine_i W _ _ _ | exact W1.i _ _ | exact hg _ _ | exact W3.i _ _ | (refine ⟨?_, ?_⟩ <;> omega) | omega | (simp only [sW_1, sW_2, sW_3, sW_4, sW_5, sW_8] <;> first | assumption | omega | (refine ⟨?_, ?_⟩ <;> omega)) | (simp only [sT_1, sT_2, sT_3, sT_4, sT_5, sT_8] <;> first | assumption | omega | (refine ⟨?_, ?_⟩ <;> omega)) | (simp only [List.length_append, List.length_cons, List.length_nil, Nat.reduceAdd] <;> omega)) only [Int.reduceEq, Int.reduceLT, Int.reduceLE, Int.reduceNeg, Int.reduceAdd, Int.reduceSub, Int.reduceMul, if_true, if_false, not_true, not_false_eq_true, false_or, or_false, true_or, or_true, true_and, and_true, false_and, and_false, iI_on, iI_mul, iI_add, iI_sub, iI_neg, ap_if, mp_eq, mz_0, mz_1, mz_b, b2_0, b2_1, iI_lt, iI_le, iI_inj, mb_div, mb_rem, hM.m, hM.a1, hM.a2, hM.a3, hM.a4, hM.a5, hM.a6, hM.a7, hM.a8, hM.a9, hM.a10, hM.a11, hM.a12, hM.a13, hM.a14, hM.a15, hM.a16, hM.a17, hM.a18, hM.a19, hM.a20, hM.a21, hM.a22, hM.a23, hM.a24, hM.a25, hM.a26, hM.a27, hM.a28, hM.l1, hM.l2, hM.l3, hM.l4, hM.l5, hM.l6, hM.l7, hM.l8, hM.l9, hM.l10, hM.l11, hM.l12, hM.l13, hM.l14, hM.l15, hM.l16, hM.l17, hM.l18, hM.l19, hM.l20, hM.l21, hM.l22, hM.l23, hM.l24, hM.l25, hM.l26, hM.l27, hM.l28, hM.c10, hM.c11, hM.c12, hM.c13, hM.c14, hM.c15, hM.c19, hM.c20, hM.c23, hM.c27, hM.c36, hM.c37, hM.c38, hM.c40, hM.c41, hM.c42, hM.c44, hM.w1, hM.w2, hM.w3, hM.w4, hM.w5, hM.w6, hM.w7, hM.w8, hM.w9, hM.w10, hM.w11, hM.w12, hM.w13, hM.w14, hM.w15, hM.w16, hM.w17, hM.w18, hM.w19, hM.w20, hM.w21, hM.w22, hM.w23, hM.w24, hM.w25, hM.w26, hM.w27, hM.w28, hM.p10, hM.p11, hM.p12, hM.p13, hM.p14, hM.p15, hM.p19, hM.p20, hM.p23, hM.p27, hM.p36, hM.p37, hM.p38, hM.p40, hM.p41, hM.p42, hM.p44, s3_at, s3_nk, s3_nj, hM.sc 19, rSt_19, e11]
      rw [mK_cong (hv.trans ev)]
  obtain ⟨s1, k1, k2⟩ := key
  obtain ⟨s2, z1, z2⟩ := R_stW hM B hx k1 hq
  exact ⟨s2, z1, k2.trans (z2 _)⟩
end RLINE

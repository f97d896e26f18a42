/-! ===== a call on both: keep, again ===== -/
section KEEP2
variable {M : Nat} {sg rho r : Nat → Int → Int} {h : gH} {X Y : Nat} {α : Type}
theorem nc0 : ((0 : Nat) : Int) = 0 := rfl
theorem nc1 : ((1 : Nat) : Int) = 1 := rfl
theorem nc4 : ((4 : Nat) : Int) = 4 := rfl
theorem nc6 : ((6 : Nat) : Int) = 6 := rfl
theorem nc8 : ((8 : Nat) : Int) = 8 := rfl
theorem nc10 : ((10 : Nat) : Int) = 10 := rfl
theorem nc13 : ((13 : Nat) : Int) = 13 := rfl
/-- what a docket has taken of another so far -/
def BJ (X Y : Nat) (rho : Nat → Int → Int) (h : gH) (c0 c1 c2 c3 c4 c5 : Int) (s : gH) : Prop := ∃ r h', s = cK r h' ∧ okG r ∧ h'.1 = h.1 ∧ h'.2.1 = h.2.1 ∧ (∀ q, (q < X + 3 ∨ X + 6 < q) → h'.2.2 q = h.2.2 q) ∧ (∀ q, (q < X ∨ X + 10 < q) → r q = rho q) ∧ (r X 0 = rho Y 0 ∧ r X 1 = rho Y 1 ∧ r X 4 = rho Y 4 ∧ r X 6 = rho Y 6 ∧ r X 8 = rho Y 8 ∧ r X 10 = rho Y 10 ∧ r X 13 = rho Y 13) ∧
  (∀ i, 0 ≤ i → i < c0 → r (X + 1) i = rho (Y + 1) i ∧ r (X + 2) i = rho (Y + 2) i) ∧ (∀ i : Int, 0 ≤ i → i < c1 → h'.2.2 (X + 3) i.toNat = h.2.2 (Y + 3) i.toNat) ∧ (∀ i : Int, 0 ≤ i → i < c2 → h'.2.2 (X + 4) i.toNat = h.2.2 (Y + 4) i.toNat) ∧ (∀ i : Int, 0 ≤ i → i < c3 → h'.2.2 (X + 5) i.toNat = h.2.2 (Y + 5) i.toNat) ∧ (∀ i : Int, 0 ≤ i → i < c4 → h'.2.2 (X + 6) i.toNat = h.2.2 (Y + 6) i.toNat ∧ r (X + 7) i = rho (Y + 7) i) ∧ (∀ i, 0 ≤ i → i < c5 → r (X + 8) i = rho (Y + 8) i ∧ r (X + 9) i = rho (Y + 9) i ∧ r (X + 10) i = rho (Y + 10) i)
theorem cPt_no2 {a k t : Nat} (h : cPt a k = some t) : a < 18 ∨ 21 < a := by
  unfold cPt at h
  split at h <;> first | omega | cases h
theorem OKC.bj {X : Nat} {h h' : gH} (hX : X = 1 ∨ X = 15) (hC : OKC h) (e1 : h'.1 = h.1) (e2 : ∀ q, (q < X + 3 ∨ X + 6 < q) → h'.2.2 q = h.2.2 q) : OKC h' := by
  refine ⟨fun a ha => by rw [e1]; exact hC.1 a ha, fun a k t hp => ?_⟩
  have h1 := cPt_no hp
  have h2 := cPt_no2 hp
  rw [e2 a (by omega)]
  exact hC.2 a k t hp
abbrev XYp (X Y : Nat) : Prop := (X = 15 ∧ Y = 1) ∨ (X = 1 ∧ Y = 15)
theorem OKC.xs (hC : OKC h) (hX : X = 1 ∨ X = 15) (k : Nat) (f : Int32 → gM α) : mb (gGetI [1] X k) f (cK r h) = f (iI (r X k)) (cK r h) := hC.sc (t := 1) (n := 19) k (by omega) (by rcases hX with rfl | rfl <;> rfl) rfl f
theorem OKC.xp (hC : OKC h) (hX : X = 1 ∨ X = 15) (k : Nat) {v : Int} (f : Unit → gM α) : mb (gPutI [1] X k (iI v)) f (cK r h) = f () (cK (s3 r X k v) h) := hC.ps (t := 1) (n := 19) k v (by omega) (by rcases hX with rfl | rfl <;> rfl) rfl f
theorem OKC.xg2 (hC : OKC h) (hX : X = 1 ∨ X = 15) (f : Nat → gM α) : mb (gGetR [1] X 2) f (cK r h) = f (X + 1) (cK r h) := hC.gt (t := 1) (n := 19) (by omega) (by rcases hX with rfl | rfl <;> rfl) rfl (by rcases hX with rfl | rfl <;> rfl) f
theorem OKC.xg3 (hC : OKC h) (hX : X = 1 ∨ X = 15) (f : Nat → gM α) : mb (gGetR [1] X 3) f (cK r h) = f (X + 2) (cK r h) := hC.gt (t := 1) (n := 19) (by omega) (by rcases hX with rfl | rfl <;> rfl) rfl (by rcases hX with rfl | rfl <;> rfl) f
theorem OKC.xg5 (hC : OKC h) (hX : X = 1 ∨ X = 15) (f : Nat → gM α) : mb (gGetR [1] X 5) f (cK r h) = f (X + 3) (cK r h) := hC.gt (t := 1) (n := 19) (by omega) (by rcases hX with rfl | rfl <;> rfl) rfl (by rcases hX with rfl | rfl <;> rfl) f
theorem OKC.xg7 (hC : OKC h) (hX : X = 1 ∨ X = 15) (f : Nat → gM α) : mb (gGetR [1] X 7) f (cK r h) = f (X + 4) (cK r h) := hC.gt (t := 1) (n := 19) (by omega) (by rcases hX with rfl | rfl <;> rfl) rfl (by rcases hX with rfl | rfl <;> rfl) f
theorem OKC.xg9 (hC : OKC h) (hX : X = 1 ∨ X = 15) (f : Nat → gM α) : mb (gGetR [1] X 9) f (cK r h) = f (X + 5) (cK r h) := hC.gt (t := 1) (n := 19) (by omega) (by rcases hX with rfl | rfl <;> rfl) rfl (by rcases hX with rfl | rfl <;> rfl) f
theorem OKC.xg11 (hC : OKC h) (hX : X = 1 ∨ X = 15) (f : Nat → gM α) : mb (gGetR [1] X 11) f (cK r h) = f (X + 6) (cK r h) := hC.gt (t := 1) (n := 19) (by omega) (by rcases hX with rfl | rfl <;> rfl) rfl (by rcases hX with rfl | rfl <;> rfl) f
theorem OKC.xg12 (hC : OKC h) (hX : X = 1 ∨ X = 15) (f : Nat → gM α) : mb (gGetR [1] X 12) f (cK r h) = f (X + 7) (cK r h) := hC.gt (t := 1) (n := 19) (by omega) (by rcases hX with rfl | rfl <;> rfl) rfl (by rcases hX with rfl | rfl <;> rfl) f
theorem OKC.xg14 (hC : OKC h) (hX : X = 1 ∨ X = 15) (f : Nat → gM α) : mb (gGetR [1] X 14) f (cK r h) = f (X + 8) (cK r h) := hC.gt (t := 1) (n := 19) (by omega) (by rcases hX with rfl | rfl <;> rfl) rfl (by rcases hX with rfl | rfl <;> rfl) f
theorem OKC.xg15 (hC : OKC h) (hX : X = 1 ∨ X = 15) (f : Nat → gM α) : mb (gGetR [1] X 15) f (cK r h) = f (X + 9) (cK r h) := hC.gt (t := 1) (n := 19) (by omega) (by rcases hX with rfl | rfl <;> rfl) rfl (by rcases hX with rfl | rfl <;> rfl) f
theorem OKC.xg16 (hC : OKC h) (hX : X = 1 ∨ X = 15) (f : Nat → gM α) : mb (gGetR [1] X 16) f (cK r h) = f (X + 10) (cK r h) := hC.gt (t := 1) (n := 19) (by omega) (by rcases hX with rfl | rfl <;> rfl) rfl (by rcases hX with rfl | rfl <;> rfl) f
theorem OKC.xl1 (hC : OKC h) (hX : X = 1 ∨ X = 15) {j : Int} (h0 : 0 ≤ j) (h1 : j < 8) (f : Int32 → gM α) : mb (gLdI 100 (X + 1) (iI j)) f (cK r h) = f (iI (r (X + 1) j)) (cK r h) := hC.ld (n := 8) (by omega) (by rcases hX with rfl | rfl <;> rfl) h0 h1 (by omega) f
theorem OKC.xw1 (hC : OKC h) (hX : X = 1 ∨ X = 15) {j v : Int} (h0 : 0 ≤ j) (h1 : j < 8) (f : Unit → gM α) : mb (gStI 100 (X + 1) (iI j) (iI v)) f (cK r h) = f () (cK (s3 r (X + 1) j v) h) := hC.st (n := 8) (by omega) (by rcases hX with rfl | rfl <;> rfl) h0 h1 (by omega) f
theorem OKC.xl2 (hC : OKC h) (hX : X = 1 ∨ X = 15) {j : Int} (h0 : 0 ≤ j) (h1 : j < 8) (f : Int32 → gM α) : mb (gLdI 100 (X + 2) (iI j)) f (cK r h) = f (iI (r (X + 2) j)) (cK r h) := hC.ld (n := 8) (by omega) (by rcases hX with rfl | rfl <;> rfl) h0 h1 (by omega) f
theorem OKC.xw2 (hC : OKC h) (hX : X = 1 ∨ X = 15) {j v : Int} (h0 : 0 ≤ j) (h1 : j < 8) (f : Unit → gM α) : mb (gStI 100 (X + 2) (iI j) (iI v)) f (cK r h) = f () (cK (s3 r (X + 2) j v) h) := hC.st (n := 8) (by omega) (by rcases hX with rfl | rfl <;> rfl) h0 h1 (by omega) f
theorem OKC.xl7 (hC : OKC h) (hX : X = 1 ∨ X = 15) {j : Int} (h0 : 0 ≤ j) (h1 : j < 16) (f : Int32 → gM α) : mb (gLdI 100 (X + 7) (iI j)) f (cK r h) = f (iI (r (X + 7) j)) (cK r h) := hC.ld (n := 16) (by omega) (by rcases hX with rfl | rfl <;> rfl) h0 h1 (by omega) f
theorem OKC.xw7 (hC : OKC h) (hX : X = 1 ∨ X = 15) {j v : Int} (h0 : 0 ≤ j) (h1 : j < 16) (f : Unit → gM α) : mb (gStI 100 (X + 7) (iI j) (iI v)) f (cK r h) = f () (cK (s3 r (X + 7) j v) h) := hC.st (n := 16) (by omega) (by rcases hX with rfl | rfl <;> rfl) h0 h1 (by omega) f
theorem OKC.xl8 (hC : OKC h) (hX : X = 1 ∨ X = 15) {j : Int} (h0 : 0 ≤ j) (h1 : j < 12) (f : Int32 → gM α) : mb (gLdI 100 (X + 8) (iI j)) f (cK r h) = f (iI (r (X + 8) j)) (cK r h) := hC.ld (n := 12) (by omega) (by rcases hX with rfl | rfl <;> rfl) h0 h1 (by omega) f
theorem OKC.xw8 (hC : OKC h) (hX : X = 1 ∨ X = 15) {j v : Int} (h0 : 0 ≤ j) (h1 : j < 12) (f : Unit → gM α) : mb (gStI 100 (X + 8) (iI j) (iI v)) f (cK r h) = f () (cK (s3 r (X + 8) j v) h) := hC.st (n := 12) (by omega) (by rcases hX with rfl | rfl <;> rfl) h0 h1 (by omega) f
theorem OKC.xl9 (hC : OKC h) (hX : X = 1 ∨ X = 15) {j : Int} (h0 : 0 ≤ j) (h1 : j < 12) (f : Int32 → gM α) : mb (gLdI 100 (X + 9) (iI j)) f (cK r h) = f (iI (r (X + 9) j)) (cK r h) := hC.ld (n := 12) (by omega) (by rcases hX with rfl | rfl <;> rfl) h0 h1 (by omega) f
theorem OKC.xw9 (hC : OKC h) (hX : X = 1 ∨ X = 15) {j v : Int} (h0 : 0 ≤ j) (h1 : j < 12) (f : Unit → gM α) : mb (gStI 100 (X + 9) (iI j) (iI v)) f (cK r h) = f () (cK (s3 r (X + 9) j v) h) := hC.st (n := 12) (by omega) (by rcases hX with rfl | rfl <;> rfl) h0 h1 (by omega) f
theorem OKC.xl10 (hC : OKC h) (hX : X = 1 ∨ X = 15) {j : Int} (h0 : 0 ≤ j) (h1 : j < 12) (f : Int32 → gM α) : mb (gLdI 100 (X + 10) (iI j)) f (cK r h) = f (iI (r (X + 10) j)) (cK r h) := hC.ld (n := 12) (by omega) (by rcases hX with rfl | rfl <;> rfl) h0 h1 (by omega) f
theorem OKC.xw10 (hC : OKC h) (hX : X = 1 ∨ X = 15) {j v : Int} (h0 : 0 ≤ j) (h1 : j < 12) (f : Unit → gM α) : mb (gStI 100 (X + 10) (iI j) (iI v)) f (cK r h) = f () (cK (s3 r (X + 10) j v) h) := hC.st (n := 12) (by omega) (by rcases hX with rfl | rfl <;> rfl) h0 h1 (by omega) f
theorem C_bec5 (hXY : XYp X Y) (hC : OKC h) (hg : okG rho) (nn : 0 ≤ rho Y 13 ∧ rho Y 13 ≤ 12) {c0 : Int} {c1 : Int} {c2 : Int} {c3 : Int} {c4 : Int} {s : gH} (hs : BJ X Y rho h c0 c1 c2 c3 c4 0 s) : ∃ s', BJ X Y rho h c0 c1 c2 c3 c4 (rho Y 13) s' ∧ m1_become_p222 FU X Y (iI 0) s = some ((), s') := by
  have hX : X = 1 ∨ X = 15 := by omega
  have hY : Y = 1 ∨ Y = 15 := by omega
  refine lopQ (F := fun n (_ : Unit) i s => m1_become_p222 n X Y (iI i) s) (K := fun _ s => some ((), s)) (N := rho Y 13) (st := fun _ _ => ()) (R := fun _ i s => BJ X Y rho h c0 c1 c2 c3 c4 i s) (fun n a s hR => ?_) (fun n a i s hR h0 h1 => ?_) (rho Y 13).toNat FU () 0 s hs (by omega) (by omega) (FU_lt (by omega))
  · obtain ⟨r, h', rfl, gr, e1, e2, e3, e4, e5, e6⟩ := hR
    have hC' := hC.bj hX e1 e3
    have b6 := e5.2.2.2.2.2.2
    show m1_become_p222 (n + 1) X Y (iI (rho Y 13)) (cK r h') = _
    rw [m1_become_p222]
    simp (config := { maxSteps := 1000000 }) (disch := first | assumption | exact W.i _ _ | exact sLine_i W _ _ _ | exact W1.i _ _ | exact hg _ _ | exact W3.i _ _ | (refine ⟨?_, ?_⟩ <;> omega) | omega | (simp only [sW_1, sW_2, sW_3, sW_4, sW_5, sW_8] <;> first | assumption | omega | (refine ⟨?_, ?_⟩ <;> omega)) | (simp only [sT_1, sT_2, sT_3, sT_4, sT_5, sT_8] <;> first | assumption | omega | (refine ⟨?_, ?_⟩ <;> omega)) | (simp only [List.length_append, List.length_cons, List.length_nil, Nat.reduceAdd] <;> omega)) only [Int.reduceEq, Int.reduceLT, Int.reduceLE, Int.reduceNeg, Int.reduceAdd, Int.reduceSub, Int.reduceMul, if_true, if_false, not_true, not_false_eq_true, false_or, or_false, true_or, or_true, true_and, and_true, false_and, and_false, iI_on, iI_mul, iI_add, iI_sub, iI_neg, ap_if, mp_eq, mz_0, mz_1, mz_b, b2_0, b2_1, iI_lt, iI_le, iI_inj, mb_div, mb_rem, hC'.xs hX, nc0, nc1, nc4, nc6, nc8, nc10, nc13, b6]
    rw [if_pos (by omega)]
  · obtain ⟨r, h', rfl, gr, e1, e2, e3, e4, e5, d0, d1, d2, d3, d4, d5⟩ := hR
    have hC' := hC.bj hX e1 e3
    have b6 := e5.2.2.2.2.2.2
    have ilt : ¬ rho Y 13 ≤ i := by omega
    have y8 : ∀ j, r (Y + 8) j = rho (Y + 8) j := fun j => by rw [e4 (Y + 8) (by omega)]
    have y9 : ∀ j, r (Y + 9) j = rho (Y + 9) j := fun j => by rw [e4 (Y + 9) (by omega)]
    have y10 : ∀ j, r (Y + 10) j = rho (Y + 10) j := fun j => by rw [e4 (Y + 10) (by omega)]
    refine ⟨cK (s3 (s3 (s3 (r) (X + 8) i (rho (Y + 8) i)) (X + 9) i (rho (Y + 9) i)) (X + 10) i (rho (Y + 10) i)) h', ⟨_, h', rfl, (((gr).s (hg _ _)).s (hg _ _)).s (hg _ _), e1, e2, e3, fun q hq => ?_, ?_, fun j j0 j1 => ?_, d1, d2, d3, fun j j0 j1 => ⟨(d4 j j0 j1).1, ?_⟩, fun j j0 j1 => ?_⟩, ?_⟩
    · rw [s3_o (by omega), s3_o (by omega), s3_o (by omega)]
      exact e4 q hq
    · rw [s3_o (show X ≠ X + 10 by omega), s3_o (show X ≠ X + 9 by omega), s3_o (show X ≠ X + 8 by omega)]
      exact e5
    · rw [s3_nk (show X + 1 ≠ X + 10 by omega), s3_nk (show X + 1 ≠ X + 9 by omega), s3_nk (show X + 1 ≠ X + 8 by omega), s3_nk (show X + 2 ≠ X + 10 by omega), s3_nk (show X + 2 ≠ X + 9 by omega), s3_nk (show X + 2 ≠ X + 8 by omega)]
      exact d0 j j0 j1
    · rw [s3_nk (show X + 7 ≠ X + 10 by omega), s3_nk (show X + 7 ≠ X + 9 by omega), s3_nk (show X + 7 ≠ X + 8 by omega)]
      exact (d4 j j0 j1).2
    · by_cases c : j = i
      · subst c
        simp (disch := omega) only [s3_at, s3_nk, and_self]
      · simp (disch := omega) only [s3_nk, s3_nj]
        exact d5 j j0 (by omega)
    · show m1_become_p222 (n + 1) X Y (iI i) (cK r h') = m1_become_p222 n X Y (iI (i + 1)) (cK _ h')
      rw [m1_become_p222]
      simp (config := { maxSteps := 1000000 }) (disch := first | assumption | exact W.i _ _ | exact sLine_i W _ _ _ | exact W1.i _ _ | exact hg _ _ | exact W3.i _ _ | (refine ⟨?_, ?_⟩ <;> omega) | omega | (simp only [sW_1, sW_2, sW_3, sW_4, sW_5, sW_8] <;> first | assumption | omega | (refine ⟨?_, ?_⟩ <;> omega)) | (simp only [sT_1, sT_2, sT_3, sT_4, sT_5, sT_8] <;> first | assumption | omega | (refine ⟨?_, ?_⟩ <;> omega)) | (simp only [List.length_append, List.length_cons, List.length_nil, Nat.reduceAdd] <;> omega)) only [Int.reduceEq, Int.reduceLT, Int.reduceLE, Int.reduceNeg, Int.reduceAdd, Int.reduceSub, Int.reduceMul, if_true, if_false, not_true, not_false_eq_true, false_or, or_false, true_or, or_true, true_and, and_true, false_and, and_false, iI_on, iI_mul, iI_add, iI_sub, iI_neg, ap_if, mp_eq, mz_0, mz_1, mz_b, b2_0, b2_1, iI_lt, iI_le, iI_inj, mb_div, mb_rem, hC'.xs hX, nc0, nc1, nc4, nc6, nc8, nc10, nc13, b6, ilt, hC'.xg14 hX, hC'.xg14 hY, hC'.xg15 hX, hC'.xg15 hY, hC'.xg16 hX, hC'.xg16 hY, hC'.xl8 hY, hC'.xw8 hX, y8, hC'.xl9 hY, hC'.xw9 hX, y9, hC'.xl10 hY, hC'.xw10 hX, y10, s3_nk]
theorem C_bec0 (hXY : XYp X Y) (hC : OKC h) (hg : okG rho) (nn : 0 ≤ rho Y 1 ∧ rho Y 1 ≤ 8) {c1 : Int} {c2 : Int} {c3 : Int} {c4 : Int} {c5 : Int} {s : gH} (hs : BJ X Y rho h 0 c1 c2 c3 c4 c5 s) : ∃ s', BJ X Y rho h (rho Y 1) c1 c2 c3 c4 c5 s' ∧ m1_become_p58 FU X Y (iI 0) s = m1_become_p98 FU X Y (iI 0) s' := by
  have hX : X = 1 ∨ X = 15 := by omega
  have hY : Y = 1 ∨ Y = 15 := by omega
  refine lopQ (F := fun n (_ : Unit) i s => m1_become_p58 n X Y (iI i) s) (K := fun _ s => m1_become_p98 FU X Y (iI 0) s) (N := rho Y 1) (st := fun _ _ => ()) (R := fun _ i s => BJ X Y rho h i c1 c2 c3 c4 c5 s) (fun n a s hR => ?_) (fun n a i s hR h0 h1 => ?_) (rho Y 1).toNat FU () 0 s hs (by omega) (by omega) (FU_lt (by omega))
  · obtain ⟨r, h', rfl, gr, e1, e2, e3, e4, e5, e6⟩ := hR
    have hC' := hC.bj hX e1 e3
    have b6 := e5.2.1
    show m1_become_p58 (n + 1) X Y (iI (rho Y 1)) (cK r h') = _
    rw [m1_become_p58]
    simp (config := { maxSteps := 1000000 }) (disch := first | assumption | exact W.i _ _ | exact sLine_i W _ _ _ | exact W1.i _ _ | exact hg _ _ | exact W3.i _ _ | (refine ⟨?_, ?_⟩ <;> omega) | omega | (simp only [sW_1, sW_2, sW_3, sW_4, sW_5, sW_8] <;> first | assumption | omega | (refine ⟨?_, ?_⟩ <;> omega)) | (simp only [sT_1, sT_2, sT_3, sT_4, sT_5, sT_8] <;> first | assumption | omega | (refine ⟨?_, ?_⟩ <;> omega)) | (simp only [List.length_append, List.length_cons, List.length_nil, Nat.reduceAdd] <;> omega)) only [Int.reduceEq, Int.reduceLT, Int.reduceLE, Int.reduceNeg, Int.reduceAdd, Int.reduceSub, Int.reduceMul, if_true, if_false, not_true, not_false_eq_true, false_or, or_false, true_or, or_true, true_and, and_true, false_and, and_false, iI_on, iI_mul, iI_add, iI_sub, iI_neg, ap_if, mp_eq, mz_0, mz_1, mz_b, b2_0, b2_1, iI_lt, iI_le, iI_inj, mb_div, mb_rem, hC'.xs hX, nc0, nc1, nc4, nc6, nc8, nc10, nc13, b6]
    rw [if_pos (by omega)]
  · obtain ⟨r, h', rfl, gr, e1, e2, e3, e4, e5, d0, d1, d2, d3, d4, d5⟩ := hR
    have hC' := hC.bj hX e1 e3
    have b6 := e5.2.1
    have ilt : ¬ rho Y 1 ≤ i := by omega
    have y1 : ∀ j, r (Y + 1) j = rho (Y + 1) j := fun j => by rw [e4 (Y + 1) (by omega)]
    have y2 : ∀ j, r (Y + 2) j = rho (Y + 2) j := fun j => by rw [e4 (Y + 2) (by omega)]
    refine ⟨cK (s3 (s3 (r) (X + 1) i (rho (Y + 1) i)) (X + 2) i (rho (Y + 2) i)) h', ⟨_, h', rfl, ((gr).s (hg _ _)).s (hg _ _), e1, e2, e3, fun q hq => ?_, ?_, fun j j0 j1 => ?_, d1, d2, d3, fun j j0 j1 => ⟨(d4 j j0 j1).1, ?_⟩, fun j j0 j1 => ?_⟩, ?_⟩
    · rw [s3_o (by omega), s3_o (by omega)]
      exact e4 q hq
    · rw [s3_o (show X ≠ X + 2 by omega), s3_o (show X ≠ X + 1 by omega)]
      exact e5
    · by_cases c : j = i
      · subst c
        simp (disch := omega) only [s3_at, s3_nk, and_self]
      · simp (disch := omega) only [s3_nk, s3_nj]
        exact d0 j j0 (by omega)
    · rw [s3_nk (show X + 7 ≠ X + 2 by omega), s3_nk (show X + 7 ≠ X + 1 by omega)]
      exact (d4 j j0 j1).2
    · rw [s3_nk (show X + 8 ≠ X + 2 by omega), s3_nk (show X + 8 ≠ X + 1 by omega), s3_nk (show X + 9 ≠ X + 2 by omega), s3_nk (show X + 9 ≠ X + 1 by omega), s3_nk (show X + 10 ≠ X + 2 by omega), s3_nk (show X + 10 ≠ X + 1 by omega)]
      exact d5 j j0 j1
    · show m1_become_p58 (n + 1) X Y (iI i) (cK r h') = m1_become_p58 n X Y (iI (i + 1)) (cK _ h')
      rw [m1_become_p58]
      simp (config := { maxSteps := 1000000 }) (disch := first | assumption | exact W.i _ _ | exact sLine_i W _ _ _ | exact W1.i _ _ | exact hg _ _ | exact W3.i _ _ | (refine ⟨?_, ?_⟩ <;> omega) | omega | (simp only [sW_1, sW_2, sW_3, sW_4, sW_5, sW_8] <;> first | assumption | omega | (refine ⟨?_, ?_⟩ <;> omega)) | (simp only [sT_1, sT_2, sT_3, sT_4, sT_5, sT_8] <;> first | assumption | omega | (refine ⟨?_, ?_⟩ <;> omega)) | (simp only [List.length_append, List.length_cons, List.length_nil, Nat.reduceAdd] <;> omega)) only [Int.reduceEq, Int.reduceLT, Int.reduceLE, Int.reduceNeg, Int.reduceAdd, Int.reduceSub, Int.reduceMul, if_true, if_false, not_true, not_false_eq_true, false_or, or_false, true_or, or_true, true_and, and_true, false_and, and_false, iI_on, iI_mul, iI_add, iI_sub, iI_neg, ap_if, mp_eq, mz_0, mz_1, mz_b, b2_0, b2_1, iI_lt, iI_le, iI_inj, mb_div, mb_rem, hC'.xs hX, nc0, nc1, nc4, nc6, nc8, nc10, nc13, b6, ilt, hC'.xg2 hX, hC'.xg2 hY, hC'.xg3 hX, hC'.xg3 hY, hC'.xl1 hY, hC'.xw1 hX, y1, hC'.xl2 hY, hC'.xw2 hX, y2, s3_nk]
theorem hPr_o {p k x q : Nat} (hq : q ≠ p) : (hPr h p k x).2.2 q = h.2.2 q := by
  funext j
  show u2 h.2.2 p k (some x) q j = _
  unfold u2
  rw [if_neg (fun c => hq c.1)]
theorem hPr_at {p k x : Nat} : (hPr h p k x).2.2 p k = some x := by
  show u2 h.2.2 p k (some x) p k = _
  unfold u2
  rw [if_pos ⟨rfl, rfl⟩]
theorem hPr_n {p k x j : Nat} (hj : j ≠ k) : (hPr h p k x).2.2 p j = h.2.2 p j := by
  show u2 h.2.2 p k (some x) p j = _
  unfold u2
  rw [if_neg (fun c => hj c.2)]
theorem C_bec1 (hXY : XYp X Y) (hC : OKC h) (hg : okG rho) (nn : 0 ≤ rho Y 4 ∧ rho Y 4 ≤ 16) (hP : ∀ i : Int, 0 ≤ i → i < rho Y 4 → ∃ p t n, h.2.2 (Y + 3) i.toNat = some p ∧ h.1[p]? = some (t, n) ∧ ([0, 9] : List Nat).contains t = true) {c0 : Int} {c2 : Int} {c3 : Int} {c4 : Int} {c5 : Int} {s : gH} (hs : BJ X Y rho h c0 0 c2 c3 c4 c5 s) : ∃ s', BJ X Y rho h c0 (rho Y 4) c2 c3 c4 c5 s' ∧ m1_become_p98 FU X Y (iI 0) s = m1_become_p126 FU X Y (iI 0) s' := by
  have hX : X = 1 ∨ X = 15 := by omega
  have hY : Y = 1 ∨ Y = 15 := by omega
  refine lopQ (F := fun n (_ : Unit) i s => m1_become_p98 n X Y (iI i) s) (K := fun _ s => m1_become_p126 FU X Y (iI 0) s) (N := rho Y 4) (st := fun _ _ => ()) (R := fun _ i s => BJ X Y rho h c0 i c2 c3 c4 c5 s) (fun n a s hR => ?_) (fun n a i s hR h0 h1 => ?_) (rho Y 4).toNat FU () 0 s hs (by omega) (by omega) (FU_lt (by omega))
  · obtain ⟨r, h', rfl, gr, e1, e2, e3, e4, e5, e6⟩ := hR
    have hC' := hC.bj hX e1 e3
    have b6 := e5.2.2.1
    show m1_become_p98 (n + 1) X Y (iI (rho Y 4)) (cK r h') = _
    rw [m1_become_p98]
    simp (config := { maxSteps := 1000000 }) (disch := first | assumption | exact W.i _ _ | exact sLine_i W _ _ _ | exact W1.i _ _ | exact hg _ _ | exact W3.i _ _ | (refine ⟨?_, ?_⟩ <;> omega) | omega | (simp only [sW_1, sW_2, sW_3, sW_4, sW_5, sW_8] <;> first | assumption | omega | (refine ⟨?_, ?_⟩ <;> omega)) | (simp only [sT_1, sT_2, sT_3, sT_4, sT_5, sT_8] <;> first | assumption | omega | (refine ⟨?_, ?_⟩ <;> omega)) | (simp only [List.length_append, List.length_cons, List.length_nil, Nat.reduceAdd] <;> omega)) only [Int.reduceEq, Int.reduceLT, Int.reduceLE, Int.reduceNeg, Int.reduceAdd, Int.reduceSub, Int.reduceMul, if_true, if_false, not_true, not_false_eq_true, false_or, or_false, true_or, or_true, true_and, and_true, false_and, and_false, iI_on, iI_mul, iI_add, iI_sub, iI_neg, ap_if, mp_eq, mz_0, mz_1, mz_b, b2_0, b2_1, iI_lt, iI_le, iI_inj, mb_div, mb_rem, hC'.xs hX, nc0, nc1, nc4, nc6, nc8, nc10, nc13, b6]
    rw [if_pos (by omega)]
  · obtain ⟨r, h', rfl, gr, e1, e2, e3, e4, e5, d0, d1, d2, d3, d4, d5⟩ := hR
    have hC' := hC.bj hX e1 e3
    have b6 := e5.2.2.1
    have ilt : ¬ rho Y 4 ≤ i := by omega
    obtain ⟨p, t, n0, hp0, hp1, hp2⟩ := hP i h0 h1
    have hp0' : h'.2.2 (Y + 3) i.toNat = some p := by rw [e3 (Y + 3) (by omega)]; exact hp0
    have hp1' : h'.1[p]? = some (t, n0) := by rw [e1]; exact hp1
    have shY : (cK r h').1[Y + 3]? = some (102, 16) := (hC'.sh (a := Y + 3) (by omega)).trans (by rcases hY with rfl | rfl <;> rfl)
    have shX : h'.1[X + 3]? = some (102, 16) := (hC'.sh (rho := r) (a := X + 3) (by omega)).trans (by rcases hX with rfl | rfl <;> rfl)
    have ld : ∀ f : Nat → gM Unit, mb (gLdR 102 (Y + 3) (iI i)) f (cK r h') = f p (cK r h') := fun f => ldR_ok f (cK r h') shY h0 (n := 16) (by omega) (by omega) hp0'
    have st : ∀ f : Unit → gM Unit, mb (gStRk 102 (X + 3) (iI i) p) f (cK r h') = f () (cK r (hPr h' (X + 3) i.toNat p)) := fun f => cK_stR shX h0 (n := 16) (by omega) (by omega) hp1' hp2 f
    have hCn : OKC (hPr h' (X + 3) i.toNat p) := hC'.bj hX rfl (fun q hq => hPr_o (by omega))
    refine ⟨cK (r) (hPr h' (X + 3) i.toNat p), ⟨r, hPr h' (X + 3) i.toNat p, rfl, gr, e1, e2, fun q hq => (hPr_o (by omega)).trans (e3 q hq), e4, e5, d0, fun j j0 j1 => ?_, fun j j0 j1 => by rw [hPr_o (by omega)]; exact d2 j j0 j1, fun j j0 j1 => by rw [hPr_o (by omega)]; exact d3 j j0 j1, fun j j0 j1 => ⟨by rw [hPr_o (by omega)]; exact (d4 j j0 j1).1, (d4 j j0 j1).2⟩, d5⟩, ?_⟩
    · by_cases c : j = i
      · subst c
        rw [hPr_at, hp0]
      · rw [hPr_n (by omega)]
        exact d1 j j0 (by omega)
    · show m1_become_p98 (n + 1) X Y (iI i) (cK r h') = m1_become_p98 n X Y (iI (i + 1)) (cK _ _)
      rw [m1_become_p98]
      simp (config := { maxSteps := 1000000 }) (disch := first | assumption | exact W.i _ _ | exact sLine_i W _ _ _ | exact W1.i _ _ | exact hg _ _ | exact W3.i _ _ | (refine ⟨?_, ?_⟩ <;> omega) | omega | (simp only [sW_1, sW_2, sW_3, sW_4, sW_5, sW_8] <;> first | assumption | omega | (refine ⟨?_, ?_⟩ <;> omega)) | (simp only [sT_1, sT_2, sT_3, sT_4, sT_5, sT_8] <;> first | assumption | omega | (refine ⟨?_, ?_⟩ <;> omega)) | (simp only [List.length_append, List.length_cons, List.length_nil, Nat.reduceAdd] <;> omega)) only [Int.reduceEq, Int.reduceLT, Int.reduceLE, Int.reduceNeg, Int.reduceAdd, Int.reduceSub, Int.reduceMul, if_true, if_false, not_true, not_false_eq_true, false_or, or_false, true_or, or_true, true_and, and_true, false_and, and_false, iI_on, iI_mul, iI_add, iI_sub, iI_neg, ap_if, mp_eq, mz_0, mz_1, mz_b, b2_0, b2_1, iI_lt, iI_le, iI_inj, mb_div, mb_rem, hC'.xs hX, nc0, nc1, nc4, nc6, nc8, nc10, nc13, b6, ilt, hC'.xg5 hX, hC'.xg5 hY, ld, st]
theorem C_bec2 (hXY : XYp X Y) (hC : OKC h) (hg : okG rho) (nn : 0 ≤ rho Y 6 ∧ rho Y 6 ≤ 24) (hP : ∀ i : Int, 0 ≤ i → i < rho Y 6 → ∃ p t n, h.2.2 (Y + 4) i.toNat = some p ∧ h.1[p]? = some (t, n) ∧ ([3] : List Nat).contains t = true) {c0 : Int} {c1 : Int} {c3 : Int} {c4 : Int} {c5 : Int} {s : gH} (hs : BJ X Y rho h c0 c1 0 c3 c4 c5 s) : ∃ s', BJ X Y rho h c0 c1 (rho Y 6) c3 c4 c5 s' ∧ m1_become_p126 FU X Y (iI 0) s = m1_become_p154 FU X Y (iI 0) s' := by
  have hX : X = 1 ∨ X = 15 := by omega
  have hY : Y = 1 ∨ Y = 15 := by omega
  refine lopQ (F := fun n (_ : Unit) i s => m1_become_p126 n X Y (iI i) s) (K := fun _ s => m1_become_p154 FU X Y (iI 0) s) (N := rho Y 6) (st := fun _ _ => ()) (R := fun _ i s => BJ X Y rho h c0 c1 i c3 c4 c5 s) (fun n a s hR => ?_) (fun n a i s hR h0 h1 => ?_) (rho Y 6).toNat FU () 0 s hs (by omega) (by omega) (FU_lt (by omega))
  · obtain ⟨r, h', rfl, gr, e1, e2, e3, e4, e5, e6⟩ := hR
    have hC' := hC.bj hX e1 e3
    have b6 := e5.2.2.2.1
    show m1_become_p126 (n + 1) X Y (iI (rho Y 6)) (cK r h') = _
    rw [m1_become_p126]
    simp (config := { maxSteps := 1000000 }) (disch := first | assumption | exact W.i _ _ | exact sLine_i W _ _ _ | exact W1.i _ _ | exact hg _ _ | exact W3.i _ _ | (refine ⟨?_, ?_⟩ <;> omega) | omega | (simp only [sW_1, sW_2, sW_3, sW_4, sW_5, sW_8] <;> first | assumption | omega | (refine ⟨?_, ?_⟩ <;> omega)) | (simp only [sT_1, sT_2, sT_3, sT_4, sT_5, sT_8] <;> first | assumption | omega | (refine ⟨?_, ?_⟩ <;> omega)) | (simp only [List.length_append, List.length_cons, List.length_nil, Nat.reduceAdd] <;> omega)) only [Int.reduceEq, Int.reduceLT, Int.reduceLE, Int.reduceNeg, Int.reduceAdd, Int.reduceSub, Int.reduceMul, if_true, if_false, not_true, not_false_eq_true, false_or, or_false, true_or, or_true, true_and, and_true, false_and, and_false, iI_on, iI_mul, iI_add, iI_sub, iI_neg, ap_if, mp_eq, mz_0, mz_1, mz_b, b2_0, b2_1, iI_lt, iI_le, iI_inj, mb_div, mb_rem, hC'.xs hX, nc0, nc1, nc4, nc6, nc8, nc10, nc13, b6]
    rw [if_pos (by omega)]
  · obtain ⟨r, h', rfl, gr, e1, e2, e3, e4, e5, d0, d1, d2, d3, d4, d5⟩ := hR
    have hC' := hC.bj hX e1 e3
    have b6 := e5.2.2.2.1
    have ilt : ¬ rho Y 6 ≤ i := by omega
    obtain ⟨p, t, n0, hp0, hp1, hp2⟩ := hP i h0 h1
    have hp0' : h'.2.2 (Y + 4) i.toNat = some p := by rw [e3 (Y + 4) (by omega)]; exact hp0
    have hp1' : h'.1[p]? = some (t, n0) := by rw [e1]; exact hp1
    have shY : (cK r h').1[Y + 4]? = some (103, 24) := (hC'.sh (a := Y + 4) (by omega)).trans (by rcases hY with rfl | rfl <;> rfl)
    have shX : h'.1[X + 4]? = some (103, 24) := (hC'.sh (rho := r) (a := X + 4) (by omega)).trans (by rcases hX with rfl | rfl <;> rfl)
    have ld : ∀ f : Nat → gM Unit, mb (gLdR 103 (Y + 4) (iI i)) f (cK r h') = f p (cK r h') := fun f => ldR_ok f (cK r h') shY h0 (n := 24) (by omega) (by omega) hp0'
    have st : ∀ f : Unit → gM Unit, mb (gStRk 103 (X + 4) (iI i) p) f (cK r h') = f () (cK r (hPr h' (X + 4) i.toNat p)) := fun f => cK_stR shX h0 (n := 24) (by omega) (by omega) hp1' hp2 f
    have hCn : OKC (hPr h' (X + 4) i.toNat p) := hC'.bj hX rfl (fun q hq => hPr_o (by omega))
    refine ⟨cK (r) (hPr h' (X + 4) i.toNat p), ⟨r, hPr h' (X + 4) i.toNat p, rfl, gr, e1, e2, fun q hq => (hPr_o (by omega)).trans (e3 q hq), e4, e5, d0, fun j j0 j1 => by rw [hPr_o (by omega)]; exact d1 j j0 j1, fun j j0 j1 => ?_, fun j j0 j1 => by rw [hPr_o (by omega)]; exact d3 j j0 j1, fun j j0 j1 => ⟨by rw [hPr_o (by omega)]; exact (d4 j j0 j1).1, (d4 j j0 j1).2⟩, d5⟩, ?_⟩
    · by_cases c : j = i
      · subst c
        rw [hPr_at, hp0]
      · rw [hPr_n (by omega)]
        exact d2 j j0 (by omega)
    · show m1_become_p126 (n + 1) X Y (iI i) (cK r h') = m1_become_p126 n X Y (iI (i + 1)) (cK _ _)
      rw [m1_become_p126]
      simp (config := { maxSteps := 1000000 }) (disch := first | assumption | exact W.i _ _ | exact sLine_i W _ _ _ | exact W1.i _ _ | exact hg _ _ | exact W3.i _ _ | (refine ⟨?_, ?_⟩ <;> omega) | omega | (simp only [sW_1, sW_2, sW_3, sW_4, sW_5, sW_8] <;> first | assumption | omega | (refine ⟨?_, ?_⟩ <;> omega)) | (simp only [sT_1, sT_2, sT_3, sT_4, sT_5, sT_8] <;> first | assumption | omega | (refine ⟨?_, ?_⟩ <;> omega)) | (simp only [List.length_append, List.length_cons, List.length_nil, Nat.reduceAdd] <;> omega)) only [Int.reduceEq, Int.reduceLT, Int.reduceLE, Int.reduceNeg, Int.reduceAdd, Int.reduceSub, Int.reduceMul, if_true, if_false, not_true, not_false_eq_true, false_or, or_false, true_or, or_true, true_and, and_true, false_and, and_false, iI_on, iI_mul, iI_add, iI_sub, iI_neg, ap_if, mp_eq, mz_0, mz_1, mz_b, b2_0, b2_1, iI_lt, iI_le, iI_inj, mb_div, mb_rem, hC'.xs hX, nc0, nc1, nc4, nc6, nc8, nc10, nc13, b6, ilt, hC'.xg7 hX, hC'.xg7 hY, ld, st]
theorem C_bec3 (hXY : XYp X Y) (hC : OKC h) (hg : okG rho) (nn : 0 ≤ rho Y 8 ∧ rho Y 8 ≤ 6) (hP : ∀ i : Int, 0 ≤ i → i < rho Y 8 → ∃ p t n, h.2.2 (Y + 5) i.toNat = some p ∧ h.1[p]? = some (t, n) ∧ ([4] : List Nat).contains t = true) {c0 : Int} {c1 : Int} {c2 : Int} {c4 : Int} {c5 : Int} {s : gH} (hs : BJ X Y rho h c0 c1 c2 0 c4 c5 s) : ∃ s', BJ X Y rho h c0 c1 c2 (rho Y 8) c4 c5 s' ∧ m1_become_p154 FU X Y (iI 0) s = m1_become_p182 FU X Y (iI 0) s' := by
  have hX : X = 1 ∨ X = 15 := by omega
  have hY : Y = 1 ∨ Y = 15 := by omega
  refine lopQ (F := fun n (_ : Unit) i s => m1_become_p154 n X Y (iI i) s) (K := fun _ s => m1_become_p182 FU X Y (iI 0) s) (N := rho Y 8) (st := fun _ _ => ()) (R := fun _ i s => BJ X Y rho h c0 c1 c2 i c4 c5 s) (fun n a s hR => ?_) (fun n a i s hR h0 h1 => ?_) (rho Y 8).toNat FU () 0 s hs (by omega) (by omega) (FU_lt (by omega))
  · obtain ⟨r, h', rfl, gr, e1, e2, e3, e4, e5, e6⟩ := hR
    have hC' := hC.bj hX e1 e3
    have b6 := e5.2.2.2.2.1
    show m1_become_p154 (n + 1) X Y (iI (rho Y 8)) (cK r h') = _
    rw [m1_become_p154]
    simp (config := { maxSteps := 1000000 }) (disch := first | assumption | exact W.i _ _ | exact sLine_i W _ _ _ | exact W1.i _ _ | exact hg _ _ | exact W3.i _ _ | (refine ⟨?_, ?_⟩ <;> omega) | omega | (simp only [sW_1, sW_2, sW_3, sW_4, sW_5, sW_8] <;> first | assumption | omega | (refine ⟨?_, ?_⟩ <;> omega)) | (simp only [sT_1, sT_2, sT_3, sT_4, sT_5, sT_8] <;> first | assumption | omega | (refine ⟨?_, ?_⟩ <;> omega)) | (simp only [List.length_append, List.length_cons, List.length_nil, Nat.reduceAdd] <;> omega)) only [Int.reduceEq, Int.reduceLT, Int.reduceLE, Int.reduceNeg, Int.reduceAdd, Int.reduceSub, Int.reduceMul, if_true, if_false, not_true, not_false_eq_true, false_or, or_false, true_or, or_true, true_and, and_true, false_and, and_false, iI_on, iI_mul, iI_add, iI_sub, iI_neg, ap_if, mp_eq, mz_0, mz_1, mz_b, b2_0, b2_1, iI_lt, iI_le, iI_inj, mb_div, mb_rem, hC'.xs hX, nc0, nc1, nc4, nc6, nc8, nc10, nc13, b6]
    rw [if_pos (by omega)]
  · obtain ⟨r, h', rfl, gr, e1, e2, e3, e4, e5, d0, d1, d2, d3, d4, d5⟩ := hR
    have hC' := hC.bj hX e1 e3
    have b6 := e5.2.2.2.2.1
    have ilt : ¬ rho Y 8 ≤ i := by omega
    obtain ⟨p, t, n0, hp0, hp1, hp2⟩ := hP i h0 h1
    have hp0' : h'.2.2 (Y + 5) i.toNat = some p := by rw [e3 (Y + 5) (by omega)]; exact hp0
    have hp1' : h'.1[p]? = some (t, n0) := by rw [e1]; exact hp1
    have shY : (cK r h').1[Y + 5]? = some (104, 6) := (hC'.sh (a := Y + 5) (by omega)).trans (by rcases hY with rfl | rfl <;> rfl)
    have shX : h'.1[X + 5]? = some (104, 6) := (hC'.sh (rho := r) (a := X + 5) (by omega)).trans (by rcases hX with rfl | rfl <;> rfl)
    have ld : ∀ f : Nat → gM Unit, mb (gLdR 104 (Y + 5) (iI i)) f (cK r h') = f p (cK r h') := fun f => ldR_ok f (cK r h') shY h0 (n := 6) (by omega) (by omega) hp0'
    have st : ∀ f : Unit → gM Unit, mb (gStRk 104 (X + 5) (iI i) p) f (cK r h') = f () (cK r (hPr h' (X + 5) i.toNat p)) := fun f => cK_stR shX h0 (n := 6) (by omega) (by omega) hp1' hp2 f
    have hCn : OKC (hPr h' (X + 5) i.toNat p) := hC'.bj hX rfl (fun q hq => hPr_o (by omega))
    refine ⟨cK (r) (hPr h' (X + 5) i.toNat p), ⟨r, hPr h' (X + 5) i.toNat p, rfl, gr, e1, e2, fun q hq => (hPr_o (by omega)).trans (e3 q hq), e4, e5, d0, fun j j0 j1 => by rw [hPr_o (by omega)]; exact d1 j j0 j1, fun j j0 j1 => by rw [hPr_o (by omega)]; exact d2 j j0 j1, fun j j0 j1 => ?_, fun j j0 j1 => ⟨by rw [hPr_o (by omega)]; exact (d4 j j0 j1).1, (d4 j j0 j1).2⟩, d5⟩, ?_⟩
    · by_cases c : j = i
      · subst c
        rw [hPr_at, hp0]
      · rw [hPr_n (by omega)]
        exact d3 j j0 (by omega)
    · show m1_become_p154 (n + 1) X Y (iI i) (cK r h') = m1_become_p154 n X Y (iI (i + 1)) (cK _ _)
      rw [m1_become_p154]
      simp (config := { maxSteps := 1000000 }) (disch := first | assumption | exact W.i _ _ | exact sLine_i W _ _ _ | exact W1.i _ _ | exact hg _ _ | exact W3.i _ _ | (refine ⟨?_, ?_⟩ <;> omega) | omega | (simp only [sW_1, sW_2, sW_3, sW_4, sW_5, sW_8] <;> first | assumption | omega | (refine ⟨?_, ?_⟩ <;> omega)) | (simp only [sT_1, sT_2, sT_3, sT_4, sT_5, sT_8] <;> first | assumption | omega | (refine ⟨?_, ?_⟩ <;> omega)) | (simp only [List.length_append, List.length_cons, List.length_nil, Nat.reduceAdd] <;> omega)) only [Int.reduceEq, Int.reduceLT, Int.reduceLE, Int.reduceNeg, Int.reduceAdd, Int.reduceSub, Int.reduceMul, if_true, if_false, not_true, not_false_eq_true, false_or, or_false, true_or, or_true, true_and, and_true, false_and, and_false, iI_on, iI_mul, iI_add, iI_sub, iI_neg, ap_if, mp_eq, mz_0, mz_1, mz_b, b2_0, b2_1, iI_lt, iI_le, iI_inj, mb_div, mb_rem, hC'.xs hX, nc0, nc1, nc4, nc6, nc8, nc10, nc13, b6, ilt, hC'.xg9 hX, hC'.xg9 hY, ld, st]
theorem C_bec4 (hXY : XYp X Y) (hC : OKC h) (hg : okG rho) (nn : 0 ≤ rho Y 10 ∧ rho Y 10 ≤ 16) (hP : ∀ i : Int, 0 ≤ i → i < rho Y 10 → ∃ p t n, h.2.2 (Y + 6) i.toNat = some p ∧ h.1[p]? = some (t, n) ∧ ([7, 2] : List Nat).contains t = true) {c0 : Int} {c1 : Int} {c2 : Int} {c3 : Int} {c5 : Int} {s : gH} (hs : BJ X Y rho h c0 c1 c2 c3 0 c5 s) : ∃ s', BJ X Y rho h c0 c1 c2 c3 (rho Y 10) c5 s' ∧ m1_become_p182 FU X Y (iI 0) s = m1_become_p222 FU X Y (iI 0) s' := by
  have hX : X = 1 ∨ X = 15 := by omega
  have hY : Y = 1 ∨ Y = 15 := by omega
  refine lopQ (F := fun n (_ : Unit) i s => m1_become_p182 n X Y (iI i) s) (K := fun _ s => m1_become_p222 FU X Y (iI 0) s) (N := rho Y 10) (st := fun _ _ => ()) (R := fun _ i s => BJ X Y rho h c0 c1 c2 c3 i c5 s) (fun n a s hR => ?_) (fun n a i s hR h0 h1 => ?_) (rho Y 10).toNat FU () 0 s hs (by omega) (by omega) (FU_lt (by omega))
  · obtain ⟨r, h', rfl, gr, e1, e2, e3, e4, e5, e6⟩ := hR
    have hC' := hC.bj hX e1 e3
    have b6 := e5.2.2.2.2.2.1
    show m1_become_p182 (n + 1) X Y (iI (rho Y 10)) (cK r h') = _
    rw [m1_become_p182]
    simp (config := { maxSteps := 1000000 }) (disch := first | assumption | exact W.i _ _ | exact sLine_i W _ _ _ | exact W1.i _ _ | exact hg _ _ | exact W3.i _ _ | (refine ⟨?_, ?_⟩ <;> omega) | omega | (simp only [sW_1, sW_2, sW_3, sW_4, sW_5, sW_8] <;> first | assumption | omega | (refine ⟨?_, ?_⟩ <;> omega)) | (simp only [sT_1, sT_2, sT_3, sT_4, sT_5, sT_8] <;> first | assumption | omega | (refine ⟨?_, ?_⟩ <;> omega)) | (simp only [List.length_append, List.length_cons, List.length_nil, Nat.reduceAdd] <;> omega)) only [Int.reduceEq, Int.reduceLT, Int.reduceLE, Int.reduceNeg, Int.reduceAdd, Int.reduceSub, Int.reduceMul, if_true, if_false, not_true, not_false_eq_true, false_or, or_false, true_or, or_true, true_and, and_true, false_and, and_false, iI_on, iI_mul, iI_add, iI_sub, iI_neg, ap_if, mp_eq, mz_0, mz_1, mz_b, b2_0, b2_1, iI_lt, iI_le, iI_inj, mb_div, mb_rem, hC'.xs hX, nc0, nc1, nc4, nc6, nc8, nc10, nc13, b6]
    rw [if_pos (by omega)]
  · obtain ⟨r, h', rfl, gr, e1, e2, e3, e4, e5, d0, d1, d2, d3, d4, d5⟩ := hR
    have hC' := hC.bj hX e1 e3
    have b6 := e5.2.2.2.2.2.1
    have ilt : ¬ rho Y 10 ≤ i := by omega
    obtain ⟨p, t, n0, hp0, hp1, hp2⟩ := hP i h0 h1
    have hp0' : h'.2.2 (Y + 6) i.toNat = some p := by rw [e3 (Y + 6) (by omega)]; exact hp0
    have hp1' : h'.1[p]? = some (t, n0) := by rw [e1]; exact hp1
    have shY : (cK r h').1[Y + 6]? = some (105, 16) := (hC'.sh (a := Y + 6) (by omega)).trans (by rcases hY with rfl | rfl <;> rfl)
    have shX : h'.1[X + 6]? = some (105, 16) := (hC'.sh (rho := r) (a := X + 6) (by omega)).trans (by rcases hX with rfl | rfl <;> rfl)
    have ld : ∀ f : Nat → gM Unit, mb (gLdR 105 (Y + 6) (iI i)) f (cK r h') = f p (cK r h') := fun f => ldR_ok f (cK r h') shY h0 (n := 16) (by omega) (by omega) hp0'
    have st : ∀ f : Unit → gM Unit, mb (gStRk 105 (X + 6) (iI i) p) f (cK r h') = f () (cK r (hPr h' (X + 6) i.toNat p)) := fun f => cK_stR shX h0 (n := 16) (by omega) (by omega) hp1' hp2 f
    have hCn : OKC (hPr h' (X + 6) i.toNat p) := hC'.bj hX rfl (fun q hq => hPr_o (by omega))
    have y7 : ∀ j, r (Y + 7) j = rho (Y + 7) j := fun j => by rw [e4 (Y + 7) (by omega)]
    refine ⟨cK (s3 r (X + 7) i (rho (Y + 7) i)) (hPr h' (X + 6) i.toNat p), ⟨s3 r (X + 7) i (rho (Y + 7) i), hPr h' (X + 6) i.toNat p, rfl, gr.s (hg _ _), e1, e2, fun q hq => (hPr_o (by omega)).trans (e3 q hq), fun q hq => (s3_o (by omega)).trans (e4 q hq), by rw [s3_o (show X ≠ X + 7 by omega)]; exact e5, by rw [s3_o (show X + 1 ≠ X + 7 by omega), s3_o (show X + 2 ≠ X + 7 by omega)]; exact d0, fun j j0 j1 => by rw [hPr_o (by omega)]; exact d1 j j0 j1, fun j j0 j1 => by rw [hPr_o (by omega)]; exact d2 j j0 j1, fun j j0 j1 => by rw [hPr_o (by omega)]; exact d3 j j0 j1, fun j j0 j1 => ?_, by rw [s3_o (show X + 8 ≠ X + 7 by omega), s3_o (show X + 9 ≠ X + 7 by omega), s3_o (show X + 10 ≠ X + 7 by omega)]; exact d5⟩, ?_⟩
    · by_cases c : j = i
      · subst c
        rw [hPr_at, hp0, s3_at]
        exact ⟨rfl, rfl⟩
      · rw [hPr_n (by omega), s3_nj c]
        exact d4 j j0 (by omega)
    · show m1_become_p182 (n + 1) X Y (iI i) (cK r h') = m1_become_p182 n X Y (iI (i + 1)) (cK _ _)
      rw [m1_become_p182]
      simp (config := { maxSteps := 1000000 }) (disch := first | assumption | exact W.i _ _ | exact sLine_i W _ _ _ | exact W1.i _ _ | exact hg _ _ | exact W3.i _ _ | (refine ⟨?_, ?_⟩ <;> omega) | omega | (simp only [sW_1, sW_2, sW_3, sW_4, sW_5, sW_8] <;> first | assumption | omega | (refine ⟨?_, ?_⟩ <;> omega)) | (simp only [sT_1, sT_2, sT_3, sT_4, sT_5, sT_8] <;> first | assumption | omega | (refine ⟨?_, ?_⟩ <;> omega)) | (simp only [List.length_append, List.length_cons, List.length_nil, Nat.reduceAdd] <;> omega)) only [Int.reduceEq, Int.reduceLT, Int.reduceLE, Int.reduceNeg, Int.reduceAdd, Int.reduceSub, Int.reduceMul, if_true, if_false, not_true, not_false_eq_true, false_or, or_false, true_or, or_true, true_and, and_true, false_and, and_false, iI_on, iI_mul, iI_add, iI_sub, iI_neg, ap_if, mp_eq, mz_0, mz_1, mz_b, b2_0, b2_1, iI_lt, iI_le, iI_inj, mb_div, mb_rem, hC'.xs hX, nc0, nc1, nc4, nc6, nc8, nc10, nc13, b6, ilt, hC'.xg11 hX, hC'.xg11 hY, ld, st, hCn.xg12 hX, hCn.xg12 hY, hCn.xl7 hY, hCn.xw7 hX, y7]
/-- a docket becomes another -/
theorem C_become (hXY : XYp X Y) (hC : OKC h) (R : RDs Y sg rho h) (W : WD sg) (hg : okG rho) : ∃ r h', m1_become X Y (cK rho h) = some ((), cK r h') ∧ okG r ∧ RDs X sg r h' ∧ h'.1 = h.1 ∧ h'.2.1 = h.2.1 ∧ (∀ q, (q < X + 3 ∨ X + 6 < q) → h'.2.2 q = h.2.2 q) ∧ (∀ q, (q < X ∨ X + 10 < q) → r q = rho q) := by
  have hX : X = 1 ∨ X = 15 := by omega
  have hY : Y = 1 ∨ Y = 15 := by omega
  obtain ⟨⟨z0, z1, z4, z6, z8, z10, z13⟩, rb, rd, rf, rl, rt, ru, rh⟩ := id R
  have n1 := W.n1
  have n2 := W.n2
  have n3 := W.n3
  have n4 := W.n4
  have n5 := W.n5
  have n6 := W.n6
  generalize hr0 : s3 (s3 (s3 (s3 (s3 (s3 (s3 rho X 0 (rho Y 0)) X 1 (rho Y 1)) X 4 (rho Y 4)) X 6 (rho Y 6)) X 8 (rho Y 8)) X 10 (rho Y 10)) X 13 (rho Y 13) = r0
  have start : m1_become X Y (cK rho h) = m1_become_p58 FU X Y (iI 0) (cK r0 h) := by
    unfold m1_become
    rw [← hr0]
    simp (config := { maxSteps := 1000000 }) (disch := first | assumption | exact W.i _ _ | exact sLine_i W _ _ _ | exact W1.i _ _ | exact hg _ _ | exact W3.i _ _ | (refine ⟨?_, ?_⟩ <;> omega) | omega | (simp only [sW_1, sW_2, sW_3, sW_4, sW_5, sW_8] <;> first | assumption | omega | (refine ⟨?_, ?_⟩ <;> omega)) | (simp only [sT_1, sT_2, sT_3, sT_4, sT_5, sT_8] <;> first | assumption | omega | (refine ⟨?_, ?_⟩ <;> omega)) | (simp only [List.length_append, List.length_cons, List.length_nil, Nat.reduceAdd] <;> omega)) only [Int.reduceEq, Int.reduceLT, Int.reduceLE, Int.reduceNeg, Int.reduceAdd, Int.reduceSub, Int.reduceMul, if_true, if_false, not_true, not_false_eq_true, false_or, or_false, true_or, or_true, true_and, and_true, false_and, and_false, iI_on, iI_mul, iI_add, iI_sub, iI_neg, ap_if, mp_eq, mz_0, mz_1, mz_b, b2_0, b2_1, iI_lt, iI_le, iI_inj, mb_div, mb_rem, hC.xs hY, hC.xp hX, nc0, nc1, nc4, nc6, nc8, nc10, nc13, s3_nk]
  have o0 : ∀ q, q ≠ X → r0 q = rho q := fun q q0 => by
    rw [← hr0, s3_o q0, s3_o q0, s3_o q0, s3_o q0, s3_o q0, s3_o q0, s3_o q0]
  have b0 : BJ X Y rho h 0 0 0 0 0 0 (cK r0 h) := by
    refine ⟨r0, h, rfl, ?_, rfl, rfl, fun _ _ => rfl, fun q hq => o0 q (by omega), ?_, fun i i0 i1 => by omega, fun i i0 i1 => by omega, fun i i0 i1 => by omega, fun i i0 i1 => by omega, fun i i0 i1 => by omega, fun i i0 i1 => by omega⟩
    · rw [← hr0]
      exact ((((((hg.s (hg _ _)).s (hg _ _)).s (hg _ _)).s (hg _ _)).s (hg _ _)).s (hg _ _)).s (hg _ _)
    · rw [← hr0]
      simp (disch := omega) only [s3_at, s3_nj, and_self]
  obtain ⟨s1, b1, k1⟩ := C_bec0 hXY hC hg ⟨by omega, by omega⟩ b0
  obtain ⟨s2, b2, k2⟩ := C_bec1 hXY hC hg ⟨by omega, by omega⟩ (fun i i0 i1 => by
    obtain ⟨p, p0, p1⟩ := rd i i0 (by omega)
    exact ⟨p, _, _, p0, p1.2.1, by split <;> rfl⟩) b1
  obtain ⟨s3', b3, k3⟩ := C_bec2 hXY hC hg ⟨by omega, by omega⟩ (fun i i0 i1 => by
    obtain ⟨p, p0, p1⟩ := rf i i0 (by omega)
    exact ⟨p, _, _, p0, p1.2.1, rfl⟩) b2
  obtain ⟨s4, b4, k4⟩ := C_bec3 hXY hC hg ⟨by omega, by omega⟩ (fun i i0 i1 => by
    obtain ⟨p, p0, p1⟩ := rl i i0 (by omega)
    exact ⟨p, _, _, p0, p1.1.2.1, rfl⟩) b3
  obtain ⟨s5, b5, k5⟩ := C_bec4 hXY hC hg ⟨by omega, by omega⟩ (fun i i0 i1 => by
    obtain ⟨p, p0, p1⟩ := rt i i0 (by omega)
    exact ⟨p, _, _, p0, p1.2.1, by split <;> rfl⟩) b4
  obtain ⟨s6, b6, k6⟩ := C_bec5 hXY hC hg ⟨by omega, by omega⟩ b5
  obtain ⟨r, h', rfl, gr, e1, e2, e3, e4, e5, d0, d1, d2, d3, d4, d5⟩ := b6
  refine ⟨r, h', by rw [start, k1, k2, k3, k4, k5, k6], gr, ?_, e1, e2, e3, e4⟩
  have dp : ∀ i : Int, 0 ≤ i → i < sg 1 2 → dpt h'.2.2 (X + 3) i = dpt h.2.2 (Y + 3) i := fun i i0 i1 => by
    unfold dpt
    rw [d1 i i0 (by omega)]
  refine ⟨by rw [e5.1, e5.2.1, e5.2.2.1, e5.2.2.2.1, e5.2.2.2.2.1, e5.2.2.2.2.2.1, e5.2.2.2.2.2.2]; exact R.1, fun i i0 i1 => ?_, fun i i0 i1 => ?_, fun i i0 i1 => ?_, fun i i0 i1 => ?_, fun i i0 i1 => ?_, fun i i0 i1 => ?_, fun i i0 i1 => ?_⟩
  · rw [(d0 i i0 (by omega)).1, (d0 i i0 (by omega)).2]
    exact rb i i0 i1
  · obtain ⟨p, p0, p1⟩ := rd i i0 i1
    refine ⟨p, (d1 i i0 (by omega)).trans p0, ?_⟩
    unfold isDeedO at p1 ⊢
    rw [e1, e2]
    exact p1
  · obtain ⟨p, p0, p1⟩ := rf i i0 i1
    have nf := W.fi i i0 i1
    refine ⟨p, (d2 i i0 (by omega)).trans p0, ?_⟩
    unfold isFindO at p1 ⊢
    rw [e1, e2, dp _ nf.1 nf.2.1, e3 p (by omega)]
    exact p1
  · obtain ⟨p, p0, p1⟩ := rl i i0 i1
    refine ⟨p, (d3 i i0 (by omega)).trans p0, ?_⟩
    have h84 := p1.1.1
    unfold isLawO at p1 ⊢
    rw [e1, e2, e3 p (by omega)]
    exact p1
  · obtain ⟨p, p0, p1⟩ := rt i i0 i1
    have nt := W.te i i0 i1
    refine ⟨p, (d4 i i0 (by omega)).1.trans p0, ?_⟩
    unfold isTermO at p1 ⊢
    rw [e1, e2, dp _ nt.1 nt.2.1, e3 p (by omega)]
    exact p1
  · rw [(d4 i i0 (by omega)).2]
    exact ru i i0 i1
  · rw [(d5 i i0 (by omega)).1, (d5 i i0 (by omega)).2.1, (d5 i i0 (by omega)).2.2]
    exact rh i i0 i1
end KEEP2

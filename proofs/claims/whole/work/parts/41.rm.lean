/-! ===== the reference's object at M, its rows behind it: what they hold is sg -/
/-- the length of the row behind the object -/
def mLn : Nat → Option Nat
  | 1 => some 7
  | 2 => some 16
  | 3 => some 48
  | 4 => some 96
  | 5 => some 12
  | 6 => some 504
  | 7 => some 1560
  | 8 => some 112
  | 9 => some 36
  | 10 => some 250
  | 11 => some 84
  | 12 => some 260
  | 13 => some 260
  | 14 => some 7
  | 15 => some 260
  | 16 => some 16
  | 17 => some 16
  | 18 => some 16
  | 19 => some 48
  | 20 => some 65280
  | 21 => some 4
  | 22 => some 4
  | 23 => some 160
  | 24 => some 4
  | 25 => some 4
  | 26 => some 4
  | 27 => some 30
  | 28 => some 2400
  | _ => none
/-- field k: where its row lies behind the object -/
def mAr : Nat → Option Nat
  | 0 => some 1
  | 1 => some 2
  | 2 => some 3
  | 3 => some 4
  | 4 => some 5
  | 5 => some 6
  | 6 => some 7
  | 7 => some 8
  | 8 => some 9
  | 9 => some 10
  | 16 => some 11
  | 17 => some 12
  | 18 => some 13
  | 21 => some 14
  | 22 => some 15
  | 24 => some 16
  | 25 => some 17
  | 26 => some 18
  | 28 => some 19
  | 29 => some 20
  | 30 => some 21
  | 31 => some 22
  | 32 => some 23
  | 33 => some 24
  | 34 => some 25
  | 35 => some 26
  | 39 => some 27
  | 43 => some 28
  | _ => none
def OKM (M : Nat) (h : gH) : Prop := h.1[M]? = some (11, 45) ∧ (∀ o n, mLn o = some n → h.1[M + o]? = some (100, n)) ∧ ∀ k o, mAr k = some o → h.2.2 M k = some (M + o)
/-- the heap in which the reference holds sg -/
def mK (M : Nat) (sg : Nat → Int → Int) (h : gH) : gH := (h.1, (fun q n => if M ≤ q ∧ q ≤ M + 28 then iI (sg (q - M) n) else h.2.1 q n), h.2.2)
def s3 (sg : Nat → Int → Int) (k : Nat) (j v : Int) : Nat → Int → Int := fun k' j' => if k' = k ∧ j' = j then v else sg k' j'
theorem s3_at (sg : Nat → Int → Int) (k : Nat) (j v : Int) : s3 sg k j v k j = v := by simp [s3]
theorem s3_ne {sg : Nat → Int → Int} {k k' : Nat} {j j' v : Int} (h : k' ≠ k ∨ j' ≠ j) : s3 sg k j v k' j' = sg k' j' := by
  unfold s3
  rw [if_neg (fun q => h.elim (fun z => z q.1) (fun z => z q.2))]
theorem mK_0 {M : Nat} {sg : Nat → Int → Int} {h : gH} {o n : Nat} (ho : o ≤ 28) : (mK M sg h).2.1 (M + o) n = iI (sg o n) := by
  show (if M ≤ M + o ∧ M + o ≤ M + 28 then iI (sg (M + o - M) n) else h.2.1 (M + o) n) = _
  rw [if_pos ⟨by omega, by omega⟩, Nat.add_sub_cancel_left]
theorem mK_w {M : Nat} {sg : Nat → Int → Int} {h : gH} {o : Nat} {j v : Int} (ho : o ≤ 28) (hj : 0 ≤ j) : ((mK M sg h).1, u2 (mK M sg h).2.1 (M + o) j.toNat (iI v), (mK M sg h).2.2) = mK M (s3 sg o j v) h := by
  unfold mK
  simp only [Prod.mk.injEq, true_and, and_true]
  funext q n
  unfold u2 s3
  by_cases h1 : M ≤ q ∧ q ≤ M + 28
  · simp only [h1, and_self, if_true]
    by_cases h2 : q = M + o ∧ n = j.toNat
    · rw [if_pos h2, if_pos ⟨by omega, by omega⟩]
    · rw [if_neg h2, if_neg (fun z => h2 ⟨by omega, by omega⟩)]
  · simp only [h1, if_false]
    rw [if_neg (fun z => h1 (by omega))]
section RMS
variable {M : Nat} {sg : Nat → Int → Int} {h : gH} {α : Type}
theorem OKM.v (hM : OKM M h) (f : gM α) : mv [11] M f (mK M sg h) = f (mK M sg h) := mv_eq hM.1 rfl
theorem OKM.get (hM : OKM M h) {k o : Nat} (hk : mAr k = some o) (f : Nat → gM α) : mb (gGetR [11] M k) f (mK M sg h) = f (M + o) (mK M sg h) := by
  have h1 : (mK M sg h).2.2 M k = some (M + o) := hM.2.2 k o hk
  refine mb_eq ?_
  unfold gGetR
  rw [hM.v, h1]
theorem OKM.ix (hM : OKM M h) {o n : Nat} (hk : mLn o = some n) {j : Int} (h0 : 0 ≤ j) (h1 : j < n) (hn : n ≤ 100000) (f : gM α) : mi 100 (M + o) (iI j) f (mK M sg h) = f (mK M sg h) := by
  have h2 : (mK M sg h).1[M + o]? = some (100, n) := hM.2.1 o n hk
  have hc : (iI j).toNatClampNeg = j.toNat := iI_cl ⟨by omega, by omega⟩
  have h4 : ¬ iI j < 0 := by rw [iI_0, iI_lt ⟨by omega, by omega⟩ ⟨by omega, by omega⟩]; omega
  unfold mi
  rw [h2]
  simp only [hc]
  rw [if_pos ⟨trivial, fun q => q.elim h4 (fun q => by omega)⟩]
theorem OKM.ld (hM : OKM M h) {o n : Nat} (hk : mLn o = some n) (ho : o ≤ 28) {j : Int} (h0 : 0 ≤ j) (h1 : j < n) (hn : n ≤ 100000) (f : Int32 → gM α) : mb (gLdI 100 (M + o) (iI j)) f (mK M sg h) = f (iI (sg o j)) (mK M sg h) := by
  have hc : (iI j).toNatClampNeg = j.toNat := iI_cl ⟨by omega, by omega⟩
  refine mb_eq ?_
  unfold gLdI
  rw [hM.ix hk h0 h1 hn, hc, mK_0 ho, Int.toNat_of_nonneg h0]
theorem OKM.st (hM : OKM M h) {o n : Nat} (hk : mLn o = some n) (ho : o ≤ 28) {j v : Int} (h0 : 0 ≤ j) (h1 : j < n) (hn : n ≤ 100000) (f : Unit → gM α) : mb (gStI 100 (M + o) (iI j) (iI v)) f (mK M sg h) = f () (mK M (s3 sg o j v) h) := by
  have hc : (iI j).toNatClampNeg = j.toNat := iI_cl ⟨by omega, by omega⟩
  refine mb_eq ?_
  unfold gStI
  rw [hM.ix hk h0 h1 hn, hc, mK_w ho h0]
theorem OKM.sc (hM : OKM M h) (k : Nat) (f : Int32 → gM α) : mb (gGetI [11] M k) f (mK M sg h) = f (iI (sg 0 k)) (mK M sg h) := by
  refine mb_eq ?_
  unfold gGetI
  rw [hM.v]
  have := mK_0 (M := M) (sg := sg) (h := h) (o := 0) (n := k) (by omega)
  rw [Nat.add_zero] at this
  rw [this]
theorem OKM.ps (hM : OKM M h) (k : Nat) (v : Int) (f : Unit → gM α) : mb (gPutI [11] M k (iI v)) f (mK M sg h) = f () (mK M (s3 sg 0 k v) h) := by
  refine mb_eq ?_
  unfold gPutI
  rw [hM.v]
  have := mK_w (M := M) (sg := sg) (h := h) (o := 0) (j := k) (v := v) (by omega) (by omega)
  rw [Nat.add_zero, Int.toNat_natCast] at this
  rw [this]
theorem OKM.a1 (hM : OKM M h) (f : Nat → gM α) : mb (gGetR [11] M 0) f (mK M sg h) = f (M + 1) (mK M sg h) := hM.get (k := 0) (o := 1) rfl f
theorem OKM.l1 (hM : OKM M h) {j : Int} (h0 : 0 ≤ j) (h1 : j < 7) (f : Int32 → gM α) : mb (gLdI 100 (M + 1) (iI j)) f (mK M sg h) = f (iI (sg 1 j)) (mK M sg h) := hM.ld (o := 1) (n := 7) rfl (by omega) h0 h1 (by omega) f
theorem OKM.w1 (hM : OKM M h) {j v : Int} (h0 : 0 ≤ j) (h1 : j < 7) (f : Unit → gM α) : mb (gStI 100 (M + 1) (iI j) (iI v)) f (mK M sg h) = f () (mK M (s3 sg 1 j v) h) := hM.st (o := 1) (n := 7) rfl (by omega) h0 h1 (by omega) f
theorem OKM.a2 (hM : OKM M h) (f : Nat → gM α) : mb (gGetR [11] M 1) f (mK M sg h) = f (M + 2) (mK M sg h) := hM.get (k := 1) (o := 2) rfl f
theorem OKM.l2 (hM : OKM M h) {j : Int} (h0 : 0 ≤ j) (h1 : j < 16) (f : Int32 → gM α) : mb (gLdI 100 (M + 2) (iI j)) f (mK M sg h) = f (iI (sg 2 j)) (mK M sg h) := hM.ld (o := 2) (n := 16) rfl (by omega) h0 h1 (by omega) f
theorem OKM.w2 (hM : OKM M h) {j v : Int} (h0 : 0 ≤ j) (h1 : j < 16) (f : Unit → gM α) : mb (gStI 100 (M + 2) (iI j) (iI v)) f (mK M sg h) = f () (mK M (s3 sg 2 j v) h) := hM.st (o := 2) (n := 16) rfl (by omega) h0 h1 (by omega) f
theorem OKM.a3 (hM : OKM M h) (f : Nat → gM α) : mb (gGetR [11] M 2) f (mK M sg h) = f (M + 3) (mK M sg h) := hM.get (k := 2) (o := 3) rfl f
theorem OKM.l3 (hM : OKM M h) {j : Int} (h0 : 0 ≤ j) (h1 : j < 48) (f : Int32 → gM α) : mb (gLdI 100 (M + 3) (iI j)) f (mK M sg h) = f (iI (sg 3 j)) (mK M sg h) := hM.ld (o := 3) (n := 48) rfl (by omega) h0 h1 (by omega) f
theorem OKM.w3 (hM : OKM M h) {j v : Int} (h0 : 0 ≤ j) (h1 : j < 48) (f : Unit → gM α) : mb (gStI 100 (M + 3) (iI j) (iI v)) f (mK M sg h) = f () (mK M (s3 sg 3 j v) h) := hM.st (o := 3) (n := 48) rfl (by omega) h0 h1 (by omega) f
theorem OKM.a4 (hM : OKM M h) (f : Nat → gM α) : mb (gGetR [11] M 3) f (mK M sg h) = f (M + 4) (mK M sg h) := hM.get (k := 3) (o := 4) rfl f
theorem OKM.l4 (hM : OKM M h) {j : Int} (h0 : 0 ≤ j) (h1 : j < 96) (f : Int32 → gM α) : mb (gLdI 100 (M + 4) (iI j)) f (mK M sg h) = f (iI (sg 4 j)) (mK M sg h) := hM.ld (o := 4) (n := 96) rfl (by omega) h0 h1 (by omega) f
theorem OKM.w4 (hM : OKM M h) {j v : Int} (h0 : 0 ≤ j) (h1 : j < 96) (f : Unit → gM α) : mb (gStI 100 (M + 4) (iI j) (iI v)) f (mK M sg h) = f () (mK M (s3 sg 4 j v) h) := hM.st (o := 4) (n := 96) rfl (by omega) h0 h1 (by omega) f
theorem OKM.a5 (hM : OKM M h) (f : Nat → gM α) : mb (gGetR [11] M 4) f (mK M sg h) = f (M + 5) (mK M sg h) := hM.get (k := 4) (o := 5) rfl f
theorem OKM.l5 (hM : OKM M h) {j : Int} (h0 : 0 ≤ j) (h1 : j < 12) (f : Int32 → gM α) : mb (gLdI 100 (M + 5) (iI j)) f (mK M sg h) = f (iI (sg 5 j)) (mK M sg h) := hM.ld (o := 5) (n := 12) rfl (by omega) h0 h1 (by omega) f
theorem OKM.w5 (hM : OKM M h) {j v : Int} (h0 : 0 ≤ j) (h1 : j < 12) (f : Unit → gM α) : mb (gStI 100 (M + 5) (iI j) (iI v)) f (mK M sg h) = f () (mK M (s3 sg 5 j v) h) := hM.st (o := 5) (n := 12) rfl (by omega) h0 h1 (by omega) f
theorem OKM.a6 (hM : OKM M h) (f : Nat → gM α) : mb (gGetR [11] M 5) f (mK M sg h) = f (M + 6) (mK M sg h) := hM.get (k := 5) (o := 6) rfl f
theorem OKM.l6 (hM : OKM M h) {j : Int} (h0 : 0 ≤ j) (h1 : j < 504) (f : Int32 → gM α) : mb (gLdI 100 (M + 6) (iI j)) f (mK M sg h) = f (iI (sg 6 j)) (mK M sg h) := hM.ld (o := 6) (n := 504) rfl (by omega) h0 h1 (by omega) f
theorem OKM.w6 (hM : OKM M h) {j v : Int} (h0 : 0 ≤ j) (h1 : j < 504) (f : Unit → gM α) : mb (gStI 100 (M + 6) (iI j) (iI v)) f (mK M sg h) = f () (mK M (s3 sg 6 j v) h) := hM.st (o := 6) (n := 504) rfl (by omega) h0 h1 (by omega) f
theorem OKM.a7 (hM : OKM M h) (f : Nat → gM α) : mb (gGetR [11] M 6) f (mK M sg h) = f (M + 7) (mK M sg h) := hM.get (k := 6) (o := 7) rfl f
theorem OKM.l7 (hM : OKM M h) {j : Int} (h0 : 0 ≤ j) (h1 : j < 1560) (f : Int32 → gM α) : mb (gLdI 100 (M + 7) (iI j)) f (mK M sg h) = f (iI (sg 7 j)) (mK M sg h) := hM.ld (o := 7) (n := 1560) rfl (by omega) h0 h1 (by omega) f
theorem OKM.w7 (hM : OKM M h) {j v : Int} (h0 : 0 ≤ j) (h1 : j < 1560) (f : Unit → gM α) : mb (gStI 100 (M + 7) (iI j) (iI v)) f (mK M sg h) = f () (mK M (s3 sg 7 j v) h) := hM.st (o := 7) (n := 1560) rfl (by omega) h0 h1 (by omega) f
theorem OKM.a8 (hM : OKM M h) (f : Nat → gM α) : mb (gGetR [11] M 7) f (mK M sg h) = f (M + 8) (mK M sg h) := hM.get (k := 7) (o := 8) rfl f
theorem OKM.l8 (hM : OKM M h) {j : Int} (h0 : 0 ≤ j) (h1 : j < 112) (f : Int32 → gM α) : mb (gLdI 100 (M + 8) (iI j)) f (mK M sg h) = f (iI (sg 8 j)) (mK M sg h) := hM.ld (o := 8) (n := 112) rfl (by omega) h0 h1 (by omega) f
theorem OKM.w8 (hM : OKM M h) {j v : Int} (h0 : 0 ≤ j) (h1 : j < 112) (f : Unit → gM α) : mb (gStI 100 (M + 8) (iI j) (iI v)) f (mK M sg h) = f () (mK M (s3 sg 8 j v) h) := hM.st (o := 8) (n := 112) rfl (by omega) h0 h1 (by omega) f
theorem OKM.a9 (hM : OKM M h) (f : Nat → gM α) : mb (gGetR [11] M 8) f (mK M sg h) = f (M + 9) (mK M sg h) := hM.get (k := 8) (o := 9) rfl f
theorem OKM.l9 (hM : OKM M h) {j : Int} (h0 : 0 ≤ j) (h1 : j < 36) (f : Int32 → gM α) : mb (gLdI 100 (M + 9) (iI j)) f (mK M sg h) = f (iI (sg 9 j)) (mK M sg h) := hM.ld (o := 9) (n := 36) rfl (by omega) h0 h1 (by omega) f
theorem OKM.w9 (hM : OKM M h) {j v : Int} (h0 : 0 ≤ j) (h1 : j < 36) (f : Unit → gM α) : mb (gStI 100 (M + 9) (iI j) (iI v)) f (mK M sg h) = f () (mK M (s3 sg 9 j v) h) := hM.st (o := 9) (n := 36) rfl (by omega) h0 h1 (by omega) f
theorem OKM.a10 (hM : OKM M h) (f : Nat → gM α) : mb (gGetR [11] M 9) f (mK M sg h) = f (M + 10) (mK M sg h) := hM.get (k := 9) (o := 10) rfl f
theorem OKM.l10 (hM : OKM M h) {j : Int} (h0 : 0 ≤ j) (h1 : j < 250) (f : Int32 → gM α) : mb (gLdI 100 (M + 10) (iI j)) f (mK M sg h) = f (iI (sg 10 j)) (mK M sg h) := hM.ld (o := 10) (n := 250) rfl (by omega) h0 h1 (by omega) f
theorem OKM.w10 (hM : OKM M h) {j v : Int} (h0 : 0 ≤ j) (h1 : j < 250) (f : Unit → gM α) : mb (gStI 100 (M + 10) (iI j) (iI v)) f (mK M sg h) = f () (mK M (s3 sg 10 j v) h) := hM.st (o := 10) (n := 250) rfl (by omega) h0 h1 (by omega) f
theorem OKM.a11 (hM : OKM M h) (f : Nat → gM α) : mb (gGetR [11] M 16) f (mK M sg h) = f (M + 11) (mK M sg h) := hM.get (k := 16) (o := 11) rfl f
theorem OKM.l11 (hM : OKM M h) {j : Int} (h0 : 0 ≤ j) (h1 : j < 84) (f : Int32 → gM α) : mb (gLdI 100 (M + 11) (iI j)) f (mK M sg h) = f (iI (sg 11 j)) (mK M sg h) := hM.ld (o := 11) (n := 84) rfl (by omega) h0 h1 (by omega) f
theorem OKM.w11 (hM : OKM M h) {j v : Int} (h0 : 0 ≤ j) (h1 : j < 84) (f : Unit → gM α) : mb (gStI 100 (M + 11) (iI j) (iI v)) f (mK M sg h) = f () (mK M (s3 sg 11 j v) h) := hM.st (o := 11) (n := 84) rfl (by omega) h0 h1 (by omega) f
theorem OKM.a12 (hM : OKM M h) (f : Nat → gM α) : mb (gGetR [11] M 17) f (mK M sg h) = f (M + 12) (mK M sg h) := hM.get (k := 17) (o := 12) rfl f
theorem OKM.l12 (hM : OKM M h) {j : Int} (h0 : 0 ≤ j) (h1 : j < 260) (f : Int32 → gM α) : mb (gLdI 100 (M + 12) (iI j)) f (mK M sg h) = f (iI (sg 12 j)) (mK M sg h) := hM.ld (o := 12) (n := 260) rfl (by omega) h0 h1 (by omega) f
theorem OKM.w12 (hM : OKM M h) {j v : Int} (h0 : 0 ≤ j) (h1 : j < 260) (f : Unit → gM α) : mb (gStI 100 (M + 12) (iI j) (iI v)) f (mK M sg h) = f () (mK M (s3 sg 12 j v) h) := hM.st (o := 12) (n := 260) rfl (by omega) h0 h1 (by omega) f
theorem OKM.a13 (hM : OKM M h) (f : Nat → gM α) : mb (gGetR [11] M 18) f (mK M sg h) = f (M + 13) (mK M sg h) := hM.get (k := 18) (o := 13) rfl f
theorem OKM.l13 (hM : OKM M h) {j : Int} (h0 : 0 ≤ j) (h1 : j < 260) (f : Int32 → gM α) : mb (gLdI 100 (M + 13) (iI j)) f (mK M sg h) = f (iI (sg 13 j)) (mK M sg h) := hM.ld (o := 13) (n := 260) rfl (by omega) h0 h1 (by omega) f
theorem OKM.w13 (hM : OKM M h) {j v : Int} (h0 : 0 ≤ j) (h1 : j < 260) (f : Unit → gM α) : mb (gStI 100 (M + 13) (iI j) (iI v)) f (mK M sg h) = f () (mK M (s3 sg 13 j v) h) := hM.st (o := 13) (n := 260) rfl (by omega) h0 h1 (by omega) f
theorem OKM.a14 (hM : OKM M h) (f : Nat → gM α) : mb (gGetR [11] M 21) f (mK M sg h) = f (M + 14) (mK M sg h) := hM.get (k := 21) (o := 14) rfl f
theorem OKM.l14 (hM : OKM M h) {j : Int} (h0 : 0 ≤ j) (h1 : j < 7) (f : Int32 → gM α) : mb (gLdI 100 (M + 14) (iI j)) f (mK M sg h) = f (iI (sg 14 j)) (mK M sg h) := hM.ld (o := 14) (n := 7) rfl (by omega) h0 h1 (by omega) f
theorem OKM.w14 (hM : OKM M h) {j v : Int} (h0 : 0 ≤ j) (h1 : j < 7) (f : Unit → gM α) : mb (gStI 100 (M + 14) (iI j) (iI v)) f (mK M sg h) = f () (mK M (s3 sg 14 j v) h) := hM.st (o := 14) (n := 7) rfl (by omega) h0 h1 (by omega) f
theorem OKM.a15 (hM : OKM M h) (f : Nat → gM α) : mb (gGetR [11] M 22) f (mK M sg h) = f (M + 15) (mK M sg h) := hM.get (k := 22) (o := 15) rfl f
theorem OKM.l15 (hM : OKM M h) {j : Int} (h0 : 0 ≤ j) (h1 : j < 260) (f : Int32 → gM α) : mb (gLdI 100 (M + 15) (iI j)) f (mK M sg h) = f (iI (sg 15 j)) (mK M sg h) := hM.ld (o := 15) (n := 260) rfl (by omega) h0 h1 (by omega) f
theorem OKM.w15 (hM : OKM M h) {j v : Int} (h0 : 0 ≤ j) (h1 : j < 260) (f : Unit → gM α) : mb (gStI 100 (M + 15) (iI j) (iI v)) f (mK M sg h) = f () (mK M (s3 sg 15 j v) h) := hM.st (o := 15) (n := 260) rfl (by omega) h0 h1 (by omega) f
theorem OKM.a16 (hM : OKM M h) (f : Nat → gM α) : mb (gGetR [11] M 24) f (mK M sg h) = f (M + 16) (mK M sg h) := hM.get (k := 24) (o := 16) rfl f
theorem OKM.l16 (hM : OKM M h) {j : Int} (h0 : 0 ≤ j) (h1 : j < 16) (f : Int32 → gM α) : mb (gLdI 100 (M + 16) (iI j)) f (mK M sg h) = f (iI (sg 16 j)) (mK M sg h) := hM.ld (o := 16) (n := 16) rfl (by omega) h0 h1 (by omega) f
theorem OKM.w16 (hM : OKM M h) {j v : Int} (h0 : 0 ≤ j) (h1 : j < 16) (f : Unit → gM α) : mb (gStI 100 (M + 16) (iI j) (iI v)) f (mK M sg h) = f () (mK M (s3 sg 16 j v) h) := hM.st (o := 16) (n := 16) rfl (by omega) h0 h1 (by omega) f
theorem OKM.a17 (hM : OKM M h) (f : Nat → gM α) : mb (gGetR [11] M 25) f (mK M sg h) = f (M + 17) (mK M sg h) := hM.get (k := 25) (o := 17) rfl f
theorem OKM.l17 (hM : OKM M h) {j : Int} (h0 : 0 ≤ j) (h1 : j < 16) (f : Int32 → gM α) : mb (gLdI 100 (M + 17) (iI j)) f (mK M sg h) = f (iI (sg 17 j)) (mK M sg h) := hM.ld (o := 17) (n := 16) rfl (by omega) h0 h1 (by omega) f
theorem OKM.w17 (hM : OKM M h) {j v : Int} (h0 : 0 ≤ j) (h1 : j < 16) (f : Unit → gM α) : mb (gStI 100 (M + 17) (iI j) (iI v)) f (mK M sg h) = f () (mK M (s3 sg 17 j v) h) := hM.st (o := 17) (n := 16) rfl (by omega) h0 h1 (by omega) f
theorem OKM.a18 (hM : OKM M h) (f : Nat → gM α) : mb (gGetR [11] M 26) f (mK M sg h) = f (M + 18) (mK M sg h) := hM.get (k := 26) (o := 18) rfl f
theorem OKM.l18 (hM : OKM M h) {j : Int} (h0 : 0 ≤ j) (h1 : j < 16) (f : Int32 → gM α) : mb (gLdI 100 (M + 18) (iI j)) f (mK M sg h) = f (iI (sg 18 j)) (mK M sg h) := hM.ld (o := 18) (n := 16) rfl (by omega) h0 h1 (by omega) f
theorem OKM.w18 (hM : OKM M h) {j v : Int} (h0 : 0 ≤ j) (h1 : j < 16) (f : Unit → gM α) : mb (gStI 100 (M + 18) (iI j) (iI v)) f (mK M sg h) = f () (mK M (s3 sg 18 j v) h) := hM.st (o := 18) (n := 16) rfl (by omega) h0 h1 (by omega) f
theorem OKM.a19 (hM : OKM M h) (f : Nat → gM α) : mb (gGetR [11] M 28) f (mK M sg h) = f (M + 19) (mK M sg h) := hM.get (k := 28) (o := 19) rfl f
theorem OKM.l19 (hM : OKM M h) {j : Int} (h0 : 0 ≤ j) (h1 : j < 48) (f : Int32 → gM α) : mb (gLdI 100 (M + 19) (iI j)) f (mK M sg h) = f (iI (sg 19 j)) (mK M sg h) := hM.ld (o := 19) (n := 48) rfl (by omega) h0 h1 (by omega) f
theorem OKM.w19 (hM : OKM M h) {j v : Int} (h0 : 0 ≤ j) (h1 : j < 48) (f : Unit → gM α) : mb (gStI 100 (M + 19) (iI j) (iI v)) f (mK M sg h) = f () (mK M (s3 sg 19 j v) h) := hM.st (o := 19) (n := 48) rfl (by omega) h0 h1 (by omega) f
theorem OKM.a20 (hM : OKM M h) (f : Nat → gM α) : mb (gGetR [11] M 29) f (mK M sg h) = f (M + 20) (mK M sg h) := hM.get (k := 29) (o := 20) rfl f
theorem OKM.l20 (hM : OKM M h) {j : Int} (h0 : 0 ≤ j) (h1 : j < 65280) (f : Int32 → gM α) : mb (gLdI 100 (M + 20) (iI j)) f (mK M sg h) = f (iI (sg 20 j)) (mK M sg h) := hM.ld (o := 20) (n := 65280) rfl (by omega) h0 h1 (by omega) f
theorem OKM.w20 (hM : OKM M h) {j v : Int} (h0 : 0 ≤ j) (h1 : j < 65280) (f : Unit → gM α) : mb (gStI 100 (M + 20) (iI j) (iI v)) f (mK M sg h) = f () (mK M (s3 sg 20 j v) h) := hM.st (o := 20) (n := 65280) rfl (by omega) h0 h1 (by omega) f
theorem OKM.a21 (hM : OKM M h) (f : Nat → gM α) : mb (gGetR [11] M 30) f (mK M sg h) = f (M + 21) (mK M sg h) := hM.get (k := 30) (o := 21) rfl f
theorem OKM.l21 (hM : OKM M h) {j : Int} (h0 : 0 ≤ j) (h1 : j < 4) (f : Int32 → gM α) : mb (gLdI 100 (M + 21) (iI j)) f (mK M sg h) = f (iI (sg 21 j)) (mK M sg h) := hM.ld (o := 21) (n := 4) rfl (by omega) h0 h1 (by omega) f
theorem OKM.w21 (hM : OKM M h) {j v : Int} (h0 : 0 ≤ j) (h1 : j < 4) (f : Unit → gM α) : mb (gStI 100 (M + 21) (iI j) (iI v)) f (mK M sg h) = f () (mK M (s3 sg 21 j v) h) := hM.st (o := 21) (n := 4) rfl (by omega) h0 h1 (by omega) f
theorem OKM.a22 (hM : OKM M h) (f : Nat → gM α) : mb (gGetR [11] M 31) f (mK M sg h) = f (M + 22) (mK M sg h) := hM.get (k := 31) (o := 22) rfl f
theorem OKM.l22 (hM : OKM M h) {j : Int} (h0 : 0 ≤ j) (h1 : j < 4) (f : Int32 → gM α) : mb (gLdI 100 (M + 22) (iI j)) f (mK M sg h) = f (iI (sg 22 j)) (mK M sg h) := hM.ld (o := 22) (n := 4) rfl (by omega) h0 h1 (by omega) f
theorem OKM.w22 (hM : OKM M h) {j v : Int} (h0 : 0 ≤ j) (h1 : j < 4) (f : Unit → gM α) : mb (gStI 100 (M + 22) (iI j) (iI v)) f (mK M sg h) = f () (mK M (s3 sg 22 j v) h) := hM.st (o := 22) (n := 4) rfl (by omega) h0 h1 (by omega) f
theorem OKM.a23 (hM : OKM M h) (f : Nat → gM α) : mb (gGetR [11] M 32) f (mK M sg h) = f (M + 23) (mK M sg h) := hM.get (k := 32) (o := 23) rfl f
theorem OKM.l23 (hM : OKM M h) {j : Int} (h0 : 0 ≤ j) (h1 : j < 160) (f : Int32 → gM α) : mb (gLdI 100 (M + 23) (iI j)) f (mK M sg h) = f (iI (sg 23 j)) (mK M sg h) := hM.ld (o := 23) (n := 160) rfl (by omega) h0 h1 (by omega) f
theorem OKM.w23 (hM : OKM M h) {j v : Int} (h0 : 0 ≤ j) (h1 : j < 160) (f : Unit → gM α) : mb (gStI 100 (M + 23) (iI j) (iI v)) f (mK M sg h) = f () (mK M (s3 sg 23 j v) h) := hM.st (o := 23) (n := 160) rfl (by omega) h0 h1 (by omega) f
theorem OKM.a24 (hM : OKM M h) (f : Nat → gM α) : mb (gGetR [11] M 33) f (mK M sg h) = f (M + 24) (mK M sg h) := hM.get (k := 33) (o := 24) rfl f
theorem OKM.l24 (hM : OKM M h) {j : Int} (h0 : 0 ≤ j) (h1 : j < 4) (f : Int32 → gM α) : mb (gLdI 100 (M + 24) (iI j)) f (mK M sg h) = f (iI (sg 24 j)) (mK M sg h) := hM.ld (o := 24) (n := 4) rfl (by omega) h0 h1 (by omega) f
theorem OKM.w24 (hM : OKM M h) {j v : Int} (h0 : 0 ≤ j) (h1 : j < 4) (f : Unit → gM α) : mb (gStI 100 (M + 24) (iI j) (iI v)) f (mK M sg h) = f () (mK M (s3 sg 24 j v) h) := hM.st (o := 24) (n := 4) rfl (by omega) h0 h1 (by omega) f
theorem OKM.a25 (hM : OKM M h) (f : Nat → gM α) : mb (gGetR [11] M 34) f (mK M sg h) = f (M + 25) (mK M sg h) := hM.get (k := 34) (o := 25) rfl f
theorem OKM.l25 (hM : OKM M h) {j : Int} (h0 : 0 ≤ j) (h1 : j < 4) (f : Int32 → gM α) : mb (gLdI 100 (M + 25) (iI j)) f (mK M sg h) = f (iI (sg 25 j)) (mK M sg h) := hM.ld (o := 25) (n := 4) rfl (by omega) h0 h1 (by omega) f
theorem OKM.w25 (hM : OKM M h) {j v : Int} (h0 : 0 ≤ j) (h1 : j < 4) (f : Unit → gM α) : mb (gStI 100 (M + 25) (iI j) (iI v)) f (mK M sg h) = f () (mK M (s3 sg 25 j v) h) := hM.st (o := 25) (n := 4) rfl (by omega) h0 h1 (by omega) f
theorem OKM.a26 (hM : OKM M h) (f : Nat → gM α) : mb (gGetR [11] M 35) f (mK M sg h) = f (M + 26) (mK M sg h) := hM.get (k := 35) (o := 26) rfl f
theorem OKM.l26 (hM : OKM M h) {j : Int} (h0 : 0 ≤ j) (h1 : j < 4) (f : Int32 → gM α) : mb (gLdI 100 (M + 26) (iI j)) f (mK M sg h) = f (iI (sg 26 j)) (mK M sg h) := hM.ld (o := 26) (n := 4) rfl (by omega) h0 h1 (by omega) f
theorem OKM.w26 (hM : OKM M h) {j v : Int} (h0 : 0 ≤ j) (h1 : j < 4) (f : Unit → gM α) : mb (gStI 100 (M + 26) (iI j) (iI v)) f (mK M sg h) = f () (mK M (s3 sg 26 j v) h) := hM.st (o := 26) (n := 4) rfl (by omega) h0 h1 (by omega) f
theorem OKM.a27 (hM : OKM M h) (f : Nat → gM α) : mb (gGetR [11] M 39) f (mK M sg h) = f (M + 27) (mK M sg h) := hM.get (k := 39) (o := 27) rfl f
theorem OKM.l27 (hM : OKM M h) {j : Int} (h0 : 0 ≤ j) (h1 : j < 30) (f : Int32 → gM α) : mb (gLdI 100 (M + 27) (iI j)) f (mK M sg h) = f (iI (sg 27 j)) (mK M sg h) := hM.ld (o := 27) (n := 30) rfl (by omega) h0 h1 (by omega) f
theorem OKM.w27 (hM : OKM M h) {j v : Int} (h0 : 0 ≤ j) (h1 : j < 30) (f : Unit → gM α) : mb (gStI 100 (M + 27) (iI j) (iI v)) f (mK M sg h) = f () (mK M (s3 sg 27 j v) h) := hM.st (o := 27) (n := 30) rfl (by omega) h0 h1 (by omega) f
theorem OKM.a28 (hM : OKM M h) (f : Nat → gM α) : mb (gGetR [11] M 43) f (mK M sg h) = f (M + 28) (mK M sg h) := hM.get (k := 43) (o := 28) rfl f
theorem OKM.l28 (hM : OKM M h) {j : Int} (h0 : 0 ≤ j) (h1 : j < 2400) (f : Int32 → gM α) : mb (gLdI 100 (M + 28) (iI j)) f (mK M sg h) = f (iI (sg 28 j)) (mK M sg h) := hM.ld (o := 28) (n := 2400) rfl (by omega) h0 h1 (by omega) f
theorem OKM.w28 (hM : OKM M h) {j v : Int} (h0 : 0 ≤ j) (h1 : j < 2400) (f : Unit → gM α) : mb (gStI 100 (M + 28) (iI j) (iI v)) f (mK M sg h) = f () (mK M (s3 sg 28 j v) h) := hM.st (o := 28) (n := 2400) rfl (by omega) h0 h1 (by omega) f
theorem OKM.c10 (hM : OKM M h) (f : Int32 → gM α) : mb (gGetI [11] M 10) f (mK M sg h) = f (iI (sg 0 10)) (mK M sg h) := hM.sc 10 f
theorem OKM.p10 (hM : OKM M h) {v : Int} (f : Unit → gM α) : mb (gPutI [11] M 10 (iI v)) f (mK M sg h) = f () (mK M (s3 sg 0 10 v) h) := hM.ps 10 v f
theorem OKM.c11 (hM : OKM M h) (f : Int32 → gM α) : mb (gGetI [11] M 11) f (mK M sg h) = f (iI (sg 0 11)) (mK M sg h) := hM.sc 11 f
theorem OKM.p11 (hM : OKM M h) {v : Int} (f : Unit → gM α) : mb (gPutI [11] M 11 (iI v)) f (mK M sg h) = f () (mK M (s3 sg 0 11 v) h) := hM.ps 11 v f
theorem OKM.c12 (hM : OKM M h) (f : Int32 → gM α) : mb (gGetI [11] M 12) f (mK M sg h) = f (iI (sg 0 12)) (mK M sg h) := hM.sc 12 f
theorem OKM.p12 (hM : OKM M h) {v : Int} (f : Unit → gM α) : mb (gPutI [11] M 12 (iI v)) f (mK M sg h) = f () (mK M (s3 sg 0 12 v) h) := hM.ps 12 v f
theorem OKM.c13 (hM : OKM M h) (f : Int32 → gM α) : mb (gGetI [11] M 13) f (mK M sg h) = f (iI (sg 0 13)) (mK M sg h) := hM.sc 13 f
theorem OKM.p13 (hM : OKM M h) {v : Int} (f : Unit → gM α) : mb (gPutI [11] M 13 (iI v)) f (mK M sg h) = f () (mK M (s3 sg 0 13 v) h) := hM.ps 13 v f
theorem OKM.c14 (hM : OKM M h) (f : Int32 → gM α) : mb (gGetI [11] M 14) f (mK M sg h) = f (iI (sg 0 14)) (mK M sg h) := hM.sc 14 f
theorem OKM.p14 (hM : OKM M h) {v : Int} (f : Unit → gM α) : mb (gPutI [11] M 14 (iI v)) f (mK M sg h) = f () (mK M (s3 sg 0 14 v) h) := hM.ps 14 v f
theorem OKM.c15 (hM : OKM M h) (f : Int32 → gM α) : mb (gGetI [11] M 15) f (mK M sg h) = f (iI (sg 0 15)) (mK M sg h) := hM.sc 15 f
theorem OKM.p15 (hM : OKM M h) {v : Int} (f : Unit → gM α) : mb (gPutI [11] M 15 (iI v)) f (mK M sg h) = f () (mK M (s3 sg 0 15 v) h) := hM.ps 15 v f
theorem OKM.c19 (hM : OKM M h) (f : Int32 → gM α) : mb (gGetI [11] M 19) f (mK M sg h) = f (iI (sg 0 19)) (mK M sg h) := hM.sc 19 f
theorem OKM.p19 (hM : OKM M h) {v : Int} (f : Unit → gM α) : mb (gPutI [11] M 19 (iI v)) f (mK M sg h) = f () (mK M (s3 sg 0 19 v) h) := hM.ps 19 v f
theorem OKM.c20 (hM : OKM M h) (f : Int32 → gM α) : mb (gGetI [11] M 20) f (mK M sg h) = f (iI (sg 0 20)) (mK M sg h) := hM.sc 20 f
theorem OKM.p20 (hM : OKM M h) {v : Int} (f : Unit → gM α) : mb (gPutI [11] M 20 (iI v)) f (mK M sg h) = f () (mK M (s3 sg 0 20 v) h) := hM.ps 20 v f
theorem OKM.c23 (hM : OKM M h) (f : Int32 → gM α) : mb (gGetI [11] M 23) f (mK M sg h) = f (iI (sg 0 23)) (mK M sg h) := hM.sc 23 f
theorem OKM.p23 (hM : OKM M h) {v : Int} (f : Unit → gM α) : mb (gPutI [11] M 23 (iI v)) f (mK M sg h) = f () (mK M (s3 sg 0 23 v) h) := hM.ps 23 v f
theorem OKM.c27 (hM : OKM M h) (f : Int32 → gM α) : mb (gGetI [11] M 27) f (mK M sg h) = f (iI (sg 0 27)) (mK M sg h) := hM.sc 27 f
theorem OKM.p27 (hM : OKM M h) {v : Int} (f : Unit → gM α) : mb (gPutI [11] M 27 (iI v)) f (mK M sg h) = f () (mK M (s3 sg 0 27 v) h) := hM.ps 27 v f
theorem OKM.c36 (hM : OKM M h) (f : Int32 → gM α) : mb (gGetI [11] M 36) f (mK M sg h) = f (iI (sg 0 36)) (mK M sg h) := hM.sc 36 f
theorem OKM.p36 (hM : OKM M h) {v : Int} (f : Unit → gM α) : mb (gPutI [11] M 36 (iI v)) f (mK M sg h) = f () (mK M (s3 sg 0 36 v) h) := hM.ps 36 v f
theorem OKM.c37 (hM : OKM M h) (f : Int32 → gM α) : mb (gGetI [11] M 37) f (mK M sg h) = f (iI (sg 0 37)) (mK M sg h) := hM.sc 37 f
theorem OKM.p37 (hM : OKM M h) {v : Int} (f : Unit → gM α) : mb (gPutI [11] M 37 (iI v)) f (mK M sg h) = f () (mK M (s3 sg 0 37 v) h) := hM.ps 37 v f
theorem OKM.c38 (hM : OKM M h) (f : Int32 → gM α) : mb (gGetI [11] M 38) f (mK M sg h) = f (iI (sg 0 38)) (mK M sg h) := hM.sc 38 f
theorem OKM.p38 (hM : OKM M h) {v : Int} (f : Unit → gM α) : mb (gPutI [11] M 38 (iI v)) f (mK M sg h) = f () (mK M (s3 sg 0 38 v) h) := hM.ps 38 v f
theorem OKM.c40 (hM : OKM M h) (f : Int32 → gM α) : mb (gGetI [11] M 40) f (mK M sg h) = f (iI (sg 0 40)) (mK M sg h) := hM.sc 40 f
theorem OKM.p40 (hM : OKM M h) {v : Int} (f : Unit → gM α) : mb (gPutI [11] M 40 (iI v)) f (mK M sg h) = f () (mK M (s3 sg 0 40 v) h) := hM.ps 40 v f
theorem OKM.c41 (hM : OKM M h) (f : Int32 → gM α) : mb (gGetI [11] M 41) f (mK M sg h) = f (iI (sg 0 41)) (mK M sg h) := hM.sc 41 f
theorem OKM.p41 (hM : OKM M h) {v : Int} (f : Unit → gM α) : mb (gPutI [11] M 41 (iI v)) f (mK M sg h) = f () (mK M (s3 sg 0 41 v) h) := hM.ps 41 v f
theorem OKM.c42 (hM : OKM M h) (f : Int32 → gM α) : mb (gGetI [11] M 42) f (mK M sg h) = f (iI (sg 0 42)) (mK M sg h) := hM.sc 42 f
theorem OKM.p42 (hM : OKM M h) {v : Int} (f : Unit → gM α) : mb (gPutI [11] M 42 (iI v)) f (mK M sg h) = f () (mK M (s3 sg 0 42 v) h) := hM.ps 42 v f
theorem OKM.c44 (hM : OKM M h) (f : Int32 → gM α) : mb (gGetI [11] M 44) f (mK M sg h) = f (iI (sg 0 44)) (mK M sg h) := hM.sc 44 f
theorem OKM.p44 (hM : OKM M h) {v : Int} (f : Unit → gM α) : mb (gPutI [11] M 44 (iI v)) f (mK M sg h) = f () (mK M (s3 sg 0 44 v) h) := hM.ps 44 v f
end RMS

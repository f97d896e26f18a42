/-! ===== points, conditions, grave, range: the reference ===== -/
theorem fo_invr {A : Type} {st : A → Int → A} {I : A → Prop} {N : Int} (hs : ∀ a i, I a → 0 ≤ i → i < N → I (st a i)) : ∀ (m : Nat) (a : A) (i : Int), I a → 0 ≤ i → i + m ≤ N → I (fo st m a i)
  | 0, a, i, h, _, _ => h
  | m + 1, a, i, h, h0, h1 => fo_invr hs m _ _ (hs a i h h0 (by omega)) (by omega) (by omega)
/-- a loop over states that stay alike -/
theorem lopR {A S X : Type} {F : Nat → A → Int → S → X} {K : A → S → X} {N : Int} {st : A → Int → A} {I : A → Int → Prop} {R : S → Prop}
    (he : ∀ n a s, R s → I a N → F (n + 1) a N s = K a s)
    (hs : ∀ n a i s, R s → I a i → 0 ≤ i → i < N → (∃ s', R s' ∧ F (n + 1) a i s = F n (st a i) (i + 1) s') ∧ I (st a i) (i + 1)) :
    ∀ (m n : Nat) (a : A) (i : Int) (s : S), R s → I a i → 0 ≤ i → N - i = m → m < n → (∃ s', R s' ∧ F n a i s = K (fo st m a i) s') ∧ I (fo st m a i) N
  | 0, n + 1, a, i, s, hR, hI, h0, hm, hn => by
    have e : i = N := by omega
    rw [e] at hI ⊢
    exact ⟨⟨s, hR, he n a s hR hI⟩, hI⟩
  | m + 1, n + 1, a, i, s, hR, hI, h0, hm, hn => by
    obtain ⟨⟨s', h1, h3⟩, h2⟩ := hs n a i s hR hI h0 (by omega)
    rw [h3]
    exact lopR he hs m n (st a i) (i + 1) s' h1 h2 (by omega) (by omega) (by omega)
theorem s3_nk {sg : Nat → Int → Int} {k k' : Nat} {j j' v : Int} (h : k' ≠ k) : s3 sg k j v k' j' = sg k' j' := s3_ne (Or.inl h)
theorem s3_nj {sg : Nat → Int → Int} {k : Nat} {j j' v : Int} (h : j' ≠ j) : s3 sg k j v k j' = sg k j' := s3_ne (Or.inr h)
/-- the reference's scratch: the stack -/
def sW (sg g : Nat → Int → Int) : Nat → Int → Int := fun k => if k = 15 then g k else sg k
abbrev okG (g : Nat → Int → Int) : Prop := ∀ k j, i32 (g k j)
theorem sW_self (sg : Nat → Int → Int) : sW sg sg = sg := by
  funext k
  unfold sW
  split <;> rfl
theorem sW_0 (sg g : Nat → Int → Int) : sW sg g 0 = sg 0 := id rfl
theorem sW_1 (sg g : Nat → Int → Int) : sW sg g 1 = sg 1 := id rfl
theorem sW_2 (sg g : Nat → Int → Int) : sW sg g 2 = sg 2 := id rfl
theorem sW_3 (sg g : Nat → Int → Int) : sW sg g 3 = sg 3 := id rfl
theorem sW_4 (sg g : Nat → Int → Int) : sW sg g 4 = sg 4 := id rfl
theorem sW_5 (sg g : Nat → Int → Int) : sW sg g 5 = sg 5 := id rfl
theorem sW_6 (sg g : Nat → Int → Int) : sW sg g 6 = sg 6 := id rfl
theorem sW_7 (sg g : Nat → Int → Int) : sW sg g 7 = sg 7 := id rfl
theorem sW_8 (sg g : Nat → Int → Int) : sW sg g 8 = sg 8 := id rfl
theorem sW_9 (sg g : Nat → Int → Int) : sW sg g 9 = sg 9 := id rfl
theorem sW_16 (sg g : Nat → Int → Int) : sW sg g 16 = sg 16 := id rfl
theorem sW_17 (sg g : Nat → Int → Int) : sW sg g 17 = sg 17 := id rfl
theorem sW_18 (sg g : Nat → Int → Int) : sW sg g 18 = sg 18 := id rfl
theorem sW_19 (sg g : Nat → Int → Int) : sW sg g 19 = sg 19 := id rfl
theorem sW_15 (sg g : Nat → Int → Int) : sW sg g 15 = g 15 := id rfl
theorem sW_s {sg g : Nat → Int → Int} {k : Nat} {j v : Int} (h : k = 15) : s3 (sW sg g) k j v = sW sg (s3 g k j v) := by
  subst h
  funext k' j'
  unfold s3 sW
  by_cases h1 : k' = 15
  · subst h1; simp
  · simp only [h1, false_and, if_false]
theorem okG.s {g : Nat → Int → Int} (h : okG g) {k : Nat} {j v : Int} (hv : i32 v) : okG (s3 g k j v) := fun k' j' => by
  unfold s3
  split
  · exact hv
  · exact h _ _
theorem WD.w {sg g : Nat → Int → Int} (W : WD sg) (hg : okG g) : WD (sW sg g) := by
  refine ⟨fun k j => ?_, W.2⟩
  unfold sW
  split
  · exact hg _ _
  · exact W.i _ _
/-- the reference's scratch: stack, times, ways -/
def sT (sg g : Nat → Int → Int) : Nat → Int → Int := fun k => if k = 15 ∨ k = 16 ∨ k = 17 ∨ k = 18 ∨ k = 20 then g k else if k = 0 then (fun j => if j = 23 then g 0 23 else sg 0 j) else sg k
theorem sT_self (sg : Nat → Int → Int) : sT sg sg = sg := by
  funext k
  unfold sT
  split
  · rfl
  · split
    · rename_i h; subst h; funext j; split
      · rename_i h; subst h; rfl
      · rfl
    · rfl
theorem sT_1 (sg g : Nat → Int → Int) : sT sg g 1 = sg 1 := id rfl
theorem sT_2 (sg g : Nat → Int → Int) : sT sg g 2 = sg 2 := id rfl
theorem sT_3 (sg g : Nat → Int → Int) : sT sg g 3 = sg 3 := id rfl
theorem sT_4 (sg g : Nat → Int → Int) : sT sg g 4 = sg 4 := id rfl
theorem sT_5 (sg g : Nat → Int → Int) : sT sg g 5 = sg 5 := id rfl
theorem sT_6 (sg g : Nat → Int → Int) : sT sg g 6 = sg 6 := id rfl
theorem sT_7 (sg g : Nat → Int → Int) : sT sg g 7 = sg 7 := id rfl
theorem sT_8 (sg g : Nat → Int → Int) : sT sg g 8 = sg 8 := id rfl
theorem sT_9 (sg g : Nat → Int → Int) : sT sg g 9 = sg 9 := id rfl
theorem sT_15 (sg g : Nat → Int → Int) : sT sg g 15 = g 15 := id rfl
theorem sT_16 (sg g : Nat → Int → Int) : sT sg g 16 = g 16 := id rfl
theorem sT_17 (sg g : Nat → Int → Int) : sT sg g 17 = g 17 := id rfl
theorem sT_18 (sg g : Nat → Int → Int) : sT sg g 18 = g 18 := id rfl
theorem sT_20 (sg g : Nat → Int → Int) : sT sg g 20 = g 20 := id rfl
theorem sT_t (sg g : Nat → Int → Int) : sT sg g 0 23 = g 0 23 := id rfl
theorem sT_s {sg g : Nat → Int → Int} {k : Nat} {j v : Int} (h : k = 15 ∨ k = 16 ∨ k = 17 ∨ k = 18 ∨ k = 20) : s3 (sT sg g) k j v = sT sg (s3 g k j v) := by
  funext k' j'
  unfold s3 sT
  by_cases h1 : k' = k
  · subst h1
    simp only [h, if_true]
  · have hk0 : ¬ 0 = k := by omega
    simp only [h1, hk0, false_and, if_false]
theorem sT_s16 {sg g : Nat → Int → Int} {j v : Int} : s3 (sT sg g) 16 j v = sT sg (s3 g 16 j v) := sT_s (by omega)
theorem sT_s17 {sg g : Nat → Int → Int} {j v : Int} : s3 (sT sg g) 17 j v = sT sg (s3 g 17 j v) := sT_s (by omega)
theorem sT_s18 {sg g : Nat → Int → Int} {j v : Int} : s3 (sT sg g) 18 j v = sT sg (s3 g 18 j v) := sT_s (by omega)
theorem sT_s20 {sg g : Nat → Int → Int} {j v : Int} : s3 (sT sg g) 20 j v = sT sg (s3 g 20 j v) := sT_s (by omega)
theorem sT_st {sg g : Nat → Int → Int} {v : Int} : s3 (sT sg g) 0 23 v = sT sg (s3 g 0 23 v) := by
  funext k' j'
  unfold s3 sT
  by_cases h1 : k' = 0
  · subst h1
    by_cases h2 : j' = 23
    · subst h2; simp
    · simp [h2]
  · simp only [h1, false_and, if_false]
theorem sStands_t (sg g : Nat → Int → Int) (t k : Int) : b2 (sStands (sT sg g) t k) = b2 (sStands sg t k) := id rfl
theorem s3_17 {g : Nat → Int → Int} {j n x y z : Int} (h : j < n) : g 17 j = s3 (s3 (s3 g 17 n x) 18 n y) 0 23 z 17 j := by
  show g 17 j = (if (17 : Nat) = 17 ∧ j = n then x else g 17 j)
  rw [if_neg (fun q => by have := q.2; omega)]
theorem s3_18 {g : Nat → Int → Int} {j n x y z : Int} (h : j < n) : g 18 j = s3 (s3 (s3 g 17 n x) 18 n y) 0 23 z 18 j := by
  show g 18 j = (if (18 : Nat) = 18 ∧ j = n then y else g 18 j)
  rw [if_neg (fun q => by have := q.2; omega)]
theorem sW_sT (sg g g' : Nat → Int → Int) : sW (sT sg g) g' = sT sg (fun k => if k = 15 then g' k else g k) := by
  funext k
  unfold sW sT
  by_cases h : k = 15
  · subst h; simp
  · simp only [h, if_false]
    simp
theorem WD.t {sg g : Nat → Int → Int} (W : WD sg) (hg : okG g) : WD (sT sg g) := by
  refine ⟨fun k j => ?_, W.2⟩
  unfold sT
  split
  · exact hg _ _
  · split
    · show i32 (if j = 23 then g 0 23 else sg 0 j)
      split
      · exact hg _ _
      · exact W.i _ _
    · exact W.i _ _
theorem sLine_w (sg g : Nat → Int → Int) (v l w : Int) : sLine (sW sg g) v l w = sLine sg v l w := id rfl
theorem sTold_w (sg g : Nat → Int → Int) (v l w : Int) : sTold (sW sg g) v l w = sTold sg v l w := id rfl
theorem sLaw_w (sg g : Nat → Int → Int) (v l : Int) : sLaw (sW sg g) v l = sLaw sg v l := id rfl
/-- the reference holds sg, but for scratch -/
def RS (M : Nat) (h : gH) (sg : Nat → Int → Int) (s : gH) : Prop := ∃ g, okG g ∧ s = mK M (sW sg g) h
theorem RS.self {M : Nat} {h : gH} {sg : Nat → Int → Int} (W : WD sg) : RS M h sg (mK M sg h) := ⟨sg, W.i, by rw [sW_self]⟩
section RD3
variable {M : Nat} {sg : Nat → Int → Int} {h : gH}
theorem sTold_b (W : WD sg) {v s k : Int} (h0 : 0 ≤ v) (h1 : v < sg 1 4) (hs : s = 0 ∨ s = 1) : 0 ≤ sTold sg v s k ∧ sTold sg v s k ≤ 9 := by
  have nv := W.ve v h0 h1
  unfold sTold
  refine fo_invr (I := fun a => 0 ≤ a ∧ a ≤ 9) (N := sg 5 (2 * v)) (fun a i ha h2 h3 => ?_) _ _ _ ⟨by omega, by omega⟩ (by omega) (by omega)
  have hl := W.li v h0 h1 i h2 h3
  obtain ⟨_, _, hA, _⟩ := hl
  show 0 ≤ (if sLine sg v i 0 = s ∧ sLine sg v i 1 = k then sLine sg v i 2 else a) ∧ (if sLine sg v i 0 = s ∧ sLine sg v i 1 = k then sLine sg v i 2 else a) ≤ 9
  split
  · rename_i c
    have := hA (by omega)
    omega
  · exact ha
theorem sOld_b (W : WD sg) {v : Int} (h0 : 0 ≤ v) (h1 : v < sg 1 4) : 0 ≤ sOld sg v ∧ sOld sg v ≤ 90 := by
  have nv := W.ve v h0 h1
  unfold sOld
  refine fo_invr (I := fun a => 0 ≤ a ∧ a ≤ 90) (N := sg 5 (2 * v)) (fun a i ha h2 h3 => ?_) _ _ _ ⟨by omega, by omega⟩ (by omega) (by omega)
  have hl := W.li v h0 h1 i h2 h3
  obtain ⟨_, _, _, hA, _⟩ := hl
  show 0 ≤ (if sLine sg v i 0 = 2 then sLine sg v i 1 else a) ∧ (if sLine sg v i 0 = 2 then sLine sg v i 1 else a) ≤ 90
  split
  · rename_i c
    exact hA c
  · exact ha
def sPt (sg : Nat → Int → Int) (d v k o : Int) : Int := if (o ≠ d ∧ sg 3 (3 * o) = sg 3 (3 * d)) ∧ 0 ≤ sTerm sg o k ∧ sg 8 (7 * sTerm sg o k + 5) < sg 3 (3 * d + 2) ∧ sg 3 (3 * d + 2) - sg 3 (3 * o + 2) ≤ 360 * sOld sg v then sTold sg v 1 (sg 3 (3 * o + 1)) else 0
def sPts (sg : Nat → Int → Int) (d v k : Int) : Int := sumN (sPt sg d v k) (sg 1 2).toNat
theorem sPts_b (W : WD sg) {d v k : Int} (h0 : 0 ≤ v) (h1 : v < sg 1 4) : 0 ≤ sPts sg d v k ∧ sPts sg d v k ≤ 144 := by
  have n2 := W.n2
  have := sumN_b (f := sPt sg d v k) (c := 0) (d := 9) (n := (sg 1 2).toNat) (fun i h2 h3 => by
    unfold sPt
    split
    · exact sTold_b W h0 h1 (Or.inr rfl)
    · omega)
  unfold sPts
  omega
theorem B_pointsOf (hM : OKM M h) (W : WD sg) {d v k : Int} (h0 : 0 ≤ d) (h1 : d < sg 1 2) (hv0 : 0 ≤ v) (hv1 : v < sg 1 4) (hk : i32 k) : m12_pointsOf M (iI d) (iI v) (iI k) (mK M sg h) = some (iI (sPts sg d v k), mK M sg h) := by
  have n2 := W.n2
  have n0 := W.n0
  have n4 := W.n4
  have ho := sOld_b W hv0 hv1
  have hd := W.de d h0 h1
  unfold m12_pointsOf sPts sumN
  simp (config := { maxSteps := 1000000 }) (disch := first | assumption | exact W.i _ _ | exact sLine_i W _ _ _ | exact W1.i _ _ | exact hg _ _ | exact W3.i _ _ | (refine ⟨?_, ?_⟩ <;> omega) | omega | (simp only [sW_1, sW_2, sW_3, sW_4, sW_5, sW_8] <;> first | assumption | omega | (refine ⟨?_, ?_⟩ <;> omega)) | (simp only [sT_1, sT_2, sT_3, sT_4, sT_5, sT_8] <;> first | assumption | omega | (refine ⟨?_, ?_⟩ <;> omega))) only [Int.reduceEq, Int.reduceLT, Int.reduceLE, Int.reduceNeg, Int.reduceAdd, Int.reduceSub, Int.reduceMul, if_true, if_false, not_true, not_false_eq_true, false_or, or_false, true_or, or_true, true_and, and_true, false_and, and_false, iI_on, iI_mul, iI_add, iI_sub, iI_neg, ap_if, mp_eq, mz_0, mz_1, mz_b, b2_0, b2_1, iI_lt, iI_le, iI_inj, mb_div, mb_rem, hM.m, hM.a1, hM.a2, hM.a3, hM.a4, hM.a5, hM.a6, hM.a7, hM.a8, hM.a9, hM.a10, hM.a11, hM.a12, hM.a13, hM.a14, hM.a15, hM.a16, hM.a17, hM.a18, hM.a19, hM.a20, hM.a21, hM.a22, hM.a23, hM.a24, hM.a25, hM.a26, hM.a27, hM.a28, hM.l1, hM.l2, hM.l3, hM.l4, hM.l5, hM.l6, hM.l7, hM.l8, hM.l9, hM.l10, hM.l11, hM.l12, hM.l13, hM.l14, hM.l15, hM.l16, hM.l17, hM.l18, hM.l19, hM.l20, hM.l21, hM.l22, hM.l23, hM.l24, hM.l25, hM.l26, hM.l27, hM.l28, hM.c10, hM.c11, hM.c12, hM.c13, hM.c14, hM.c15, hM.c19, hM.c20, hM.c23, hM.c27, hM.c36, hM.c37, hM.c38, hM.c40, hM.c41, hM.c42, hM.c44, mb_eq (B_oldOf hM W _ _)]
  refine (lop (F := fun n a i => m12_pointsOf_p13 n M (iI d) (iI v) (iI k) (iI a) (iI (sOld sg v)) (iI i) (mK M sg h)) (K := fun a => some (iI a, mK M sg h)) (N := sg 1 2) (I := fun _ _ => True) (fun n a _ => ?_) (fun n a i _ h2 h3 => ⟨?_, trivial⟩) (sg 1 2).toNat FU 0 0 trivial (by omega) (by omega) (FU_lt (by omega))).1
  · show m12_pointsOf_p13 (n + 1) M (iI d) (iI v) (iI k) (iI a) (iI (sOld sg v)) (iI (sg 1 2)) (mK M sg h) = some (iI a, mK M sg h)
    rw [m12_pointsOf_p13]
    simp (config := { maxSteps := 1000000 }) (disch := first | assumption | exact W.i _ _ | exact sLine_i W _ _ _ | exact W1.i _ _ | exact hg _ _ | exact W3.i _ _ | (refine ⟨?_, ?_⟩ <;> omega) | omega | (simp only [sW_1, sW_2, sW_3, sW_4, sW_5, sW_8] <;> first | assumption | omega | (refine ⟨?_, ?_⟩ <;> omega)) | (simp only [sT_1, sT_2, sT_3, sT_4, sT_5, sT_8] <;> first | assumption | omega | (refine ⟨?_, ?_⟩ <;> omega))) only [Int.reduceEq, Int.reduceLT, Int.reduceLE, Int.reduceNeg, Int.reduceAdd, Int.reduceSub, Int.reduceMul, if_true, if_false, not_true, not_false_eq_true, false_or, or_false, true_or, or_true, true_and, and_true, false_and, and_false, iI_on, iI_mul, iI_add, iI_sub, iI_neg, ap_if, mp_eq, mz_0, mz_1, mz_b, b2_0, b2_1, iI_lt, iI_le, iI_inj, mb_div, mb_rem, hM.m, hM.a1, hM.a2, hM.a3, hM.a4, hM.a5, hM.a6, hM.a7, hM.a8, hM.a9, hM.a10, hM.a11, hM.a12, hM.a13, hM.a14, hM.a15, hM.a16, hM.a17, hM.a18, hM.a19, hM.a20, hM.a21, hM.a22, hM.a23, hM.a24, hM.a25, hM.a26, hM.a27, hM.a28, hM.l1, hM.l2, hM.l3, hM.l4, hM.l5, hM.l6, hM.l7, hM.l8, hM.l9, hM.l10, hM.l11, hM.l12, hM.l13, hM.l14, hM.l15, hM.l16, hM.l17, hM.l18, hM.l19, hM.l20, hM.l21, hM.l22, hM.l23, hM.l24, hM.l25, hM.l26, hM.l27, hM.l28, hM.c10, hM.c11, hM.c12, hM.c13, hM.c14, hM.c15, hM.c19, hM.c20, hM.c23, hM.c27, hM.c36, hM.c37, hM.c38, hM.c40, hM.c41, hM.c42, hM.c44]
    simp
  · show m12_pointsOf_p13 (n + 1) M (iI d) (iI v) (iI k) (iI a) (iI (sOld sg v)) (iI i) (mK M sg h) = m12_pointsOf_p13 n M (iI d) (iI v) (iI k) (iI (a + sPt sg d v k i)) (iI (sOld sg v)) (iI (i + 1)) (mK M sg h)
    have hi := W.de i h2 h3
    have ht := sTerm_b W i k
    have n5 := W.n5
    rw [m12_pointsOf_p13]
    unfold sPt
    have t5 : 0 ≤ sTerm sg i k → 0 ≤ sg 8 (7 * sTerm sg i k + 5) ∧ sg 8 (7 * sTerm sg i k + 5) ≤ sg 1 0 := fun q => ⟨(W.te _ q ht.2).2.2.2.2.2.2.2.2.2.2.1, (W.te _ q ht.2).2.2.2.2.2.2.2.2.2.2.2.1⟩
    (repeat' (first | simp (config := { maxSteps := 1000000 }) (disch := first | assumption | exact W.i _ _ | exact sLine_i W _ _ _ | exact W1.i _ _ | exact hg _ _ | exact W3.i _ _ | (refine ⟨?_, ?_⟩ <;> omega) | omega | (simp only [sW_1, sW_2, sW_3, sW_4, sW_5, sW_8] <;> first | assumption | omega | (refine ⟨?_, ?_⟩ <;> omega)) | (simp only [sT_1, sT_2, sT_3, sT_4, sT_5, sT_8] <;> first | assumption | omega | (refine ⟨?_, ?_⟩ <;> omega))) only [Int.reduceEq, Int.reduceLT, Int.reduceLE, Int.reduceNeg, Int.reduceAdd, Int.reduceSub, Int.reduceMul, if_true, if_false, not_true, not_false_eq_true, false_or, or_false, true_or, or_true, true_and, and_true, false_and, and_false, iI_on, iI_mul, iI_add, iI_sub, iI_neg, ap_if, mp_eq, mz_0, mz_1, mz_b, b2_0, b2_1, iI_lt, iI_le, iI_inj, mb_div, mb_rem, hM.m, hM.a1, hM.a2, hM.a3, hM.a4, hM.a5, hM.a6, hM.a7, hM.a8, hM.a9, hM.a10, hM.a11, hM.a12, hM.a13, hM.a14, hM.a15, hM.a16, hM.a17, hM.a18, hM.a19, hM.a20, hM.a21, hM.a22, hM.a23, hM.a24, hM.a25, hM.a26, hM.a27, hM.a28, hM.l1, hM.l2, hM.l3, hM.l4, hM.l5, hM.l6, hM.l7, hM.l8, hM.l9, hM.l10, hM.l11, hM.l12, hM.l13, hM.l14, hM.l15, hM.l16, hM.l17, hM.l18, hM.l19, hM.l20, hM.l21, hM.l22, hM.l23, hM.l24, hM.l25, hM.l26, hM.l27, hM.l28, hM.c10, hM.c11, hM.c12, hM.c13, hM.c14, hM.c15, hM.c19, hM.c20, hM.c23, hM.c27, hM.c36, hM.c37, hM.c38, hM.c40, hM.c41, hM.c42, hM.c44, m12_pointsOf_p60, m12_pointsOf_p61, m12_pointsOf_p108, m12_pointsOf_p109, m12_pointsOf_p139, mb_eq (B_termOf hM W _ _), mb_eq (B_of hM _ _), mb_eq (B_dayOf hM _ _), mb_eq (B_toldOf hM W _ _ _ _), Int.add_zero] | split)) <;> (first | with_reducible rfl | omega | rfl | (subst_vars; rfl) | (simp only [*, Int.add_zero]; done) | (rw [b2_t (by omega)]; done) | (rw [b2_f (by omega)]; done) | (rw [b2_f (by omega), Int.add_zero]))
theorem sPts_w (sg g : Nat → Int → Int) (v l w : Int) : sPts (sW sg g) v l w = sPts sg v l w := id rfl
/-! what a condition asks -/
theorem and1 (x : Int32) : x &&& 1 = 0 ∨ x &&& 1 = 1 := by
  have h : (x &&& 1).toBitVec.toNat = x.toBitVec.toNat % 2 := by
    rw [Int32.toBitVec_and, BitVec.toNat_and]
    exact Nat.and_one_is_mod _
  rcases Nat.mod_two_eq_zero_or_one x.toBitVec.toNat with h1 | h1
  · exact Or.inl (Int32.toBitVec_inj.mp (BitVec.eq_of_toNat_eq (by rw [h, h1]; rfl)))
  · exact Or.inr (Int32.toBitVec_inj.mp (BitVec.eq_of_toNat_eq (by rw [h, h1]; rfl)))
def sBit (f i : Int) : Int := ((iI f >>> (iI i &&& 31)) &&& 1).toInt
theorem sBit_b (f i : Int) : sBit f i = 0 ∨ sBit f i = 1 := by
  unfold sBit
  rcases and1 (iI f >>> (iI i &&& 31)) with h | h
  · rw [h]; exact Or.inl rfl
  · rw [h]; exact Or.inr rfl
theorem sBit_i (f i : Int) : (iI f >>> (iI i &&& iI 31)) &&& iI 1 = iI (sBit f i) := (iI_of _).symm
def sEnv (sg : Nat → Int → Int) (d k p s : Int) : Int := if s = 5 then b2 (sAge sg d < 18) else if s = 6 then b2 (sPlead sg d k) else if s = 11 then p else if s = 12 then sg 3 (3 * d + 1) else if s = 13 then sAge sg d else if 1000 ≤ s then s - 1000 else sBit (sFacts sg d k) (s - 1)
theorem sEnv_w (sg g : Nat → Int → Int) (v l w x : Int) : sEnv (sW sg g) v l w x = sEnv sg v l w x := id rfl
theorem b2_bo (P : Prop) [Decidable P] : b2 P = 0 ∨ b2 P = 1 := by
  unfold b2
  split
  · exact Or.inr rfl
  · exact Or.inl rfl
theorem sEnv_ok (W : WD sg) {d k p : Int} (h0 : 0 ≤ d) (h1 : d < sg 1 2) (hp : 0 ≤ p ∧ p ≤ 1000) : EnvOK (sEnv sg d k p) := by
  have hd := W.de d h0 h1
  have ha := sAge_b W h0 h1
  refine ⟨fun s h2 h3 => ?_, fun s h2 h3 => ?_, fun s h2 => ?_⟩
  · unfold sEnv
    by_cases c5 : s = 5
    · rw [if_pos c5]; exact b2_bo _
    · rw [if_neg c5]
      by_cases c6 : s = 6
      · rw [if_pos c6]; exact b2_bo _
      · rw [if_neg c6, if_neg (by omega), if_neg (by omega), if_neg (by omega), if_neg (by omega)]
        exact sBit_b _ _
  · unfold sEnv
    rw [if_neg (by omega), if_neg (by omega)]
    repeat' split
    all_goals omega
  · unfold sEnv
    rw [if_neg (by omega), if_neg (by omega), if_neg (by omega), if_neg (by omega), if_neg (by omega), if_pos h2]
theorem B_valueOf (hM : OKM M h) (W : WD sg) {d k p s : Int} (h0 : 0 ≤ d) (h1 : d < sg 1 2) (hk : i32 k) (hs : (1 ≤ s ∧ s ≤ 17) ∨ (1000 ≤ s ∧ s ≤ 1999)) (hs2 : ¬ s = 7) (hs3 : ¬ s = 8) (hs4 : ¬ s = 9) (hs5 : ¬ s = 10) : m12_valueOf M (iI s) (iI d) (iI k) (iI p) (mK M sg h) = some (iI (sEnv sg d k p s), mK M sg h) := by
  have n2 := W.n2
  unfold m12_valueOf sEnv
  (repeat' (first | simp (config := { maxSteps := 1000000 }) (disch := first | assumption | exact W.i _ _ | exact sLine_i W _ _ _ | exact W1.i _ _ | exact hg _ _ | exact W3.i _ _ | (refine ⟨?_, ?_⟩ <;> omega) | omega | (simp only [sW_1, sW_2, sW_3, sW_4, sW_5, sW_8] <;> first | assumption | omega | (refine ⟨?_, ?_⟩ <;> omega)) | (simp only [sT_1, sT_2, sT_3, sT_4, sT_5, sT_8] <;> first | assumption | omega | (refine ⟨?_, ?_⟩ <;> omega))) only [Int.reduceEq, Int.reduceLT, Int.reduceLE, Int.reduceNeg, Int.reduceAdd, Int.reduceSub, Int.reduceMul, if_true, if_false, not_true, not_false_eq_true, false_or, or_false, true_or, or_true, true_and, and_true, false_and, and_false, iI_on, iI_mul, iI_add, iI_sub, iI_neg, ap_if, mp_eq, mz_0, mz_1, mz_b, b2_0, b2_1, iI_lt, iI_le, iI_inj, mb_div, mb_rem, hM.m, hM.a1, hM.a2, hM.a3, hM.a4, hM.a5, hM.a6, hM.a7, hM.a8, hM.a9, hM.a10, hM.a11, hM.a12, hM.a13, hM.a14, hM.a15, hM.a16, hM.a17, hM.a18, hM.a19, hM.a20, hM.a21, hM.a22, hM.a23, hM.a24, hM.a25, hM.a26, hM.a27, hM.a28, hM.l1, hM.l2, hM.l3, hM.l4, hM.l5, hM.l6, hM.l7, hM.l8, hM.l9, hM.l10, hM.l11, hM.l12, hM.l13, hM.l14, hM.l15, hM.l16, hM.l17, hM.l18, hM.l19, hM.l20, hM.l21, hM.l22, hM.l23, hM.l24, hM.l25, hM.l26, hM.l27, hM.l28, hM.c10, hM.c11, hM.c12, hM.c13, hM.c14, hM.c15, hM.c19, hM.c20, hM.c23, hM.c27, hM.c36, hM.c37, hM.c38, hM.c40, hM.c41, hM.c42, hM.c44, m12_valueOf_p65, m12_valueOf_p80, m12_valueOf_p128, m12_valueOf_p101, mb_eq (B_isYoung hM W _ _), mb_eq (B_isPleaded hM W _ _), mb_eq (B_factsOf hM W _ _), mb_eq (B_ageAt hM W _ _), sBit_i] | split)) <;> (first | with_reducible rfl | omega | rfl | (subst_vars; rfl) | (simp only [*, Int.add_zero]; done) | (rw [b2_t (by omega)]; done) | (rw [b2_f (by omega)]; done) | (rw [b2_f (by omega), Int.add_zero]))
theorem B_joins {s : Int} (hs : i32 s) (H : gH) : m12_joins (iI s) H = some (iI (b2 (jS s)), H) := by
  unfold m12_joins m12_joins_p23 m12_joins_p28
  (repeat' (first | simp (config := { maxSteps := 1000000 }) (disch := first | assumption | exact W.i _ _ | exact sLine_i W _ _ _ | exact W1.i _ _ | exact hg _ _ | exact W3.i _ _ | (refine ⟨?_, ?_⟩ <;> omega) | omega | (simp only [sW_1, sW_2, sW_3, sW_4, sW_5, sW_8] <;> first | assumption | omega | (refine ⟨?_, ?_⟩ <;> omega)) | (simp only [sT_1, sT_2, sT_3, sT_4, sT_5, sT_8] <;> first | assumption | omega | (refine ⟨?_, ?_⟩ <;> omega))) only [Int.reduceEq, Int.reduceLT, Int.reduceLE, Int.reduceNeg, Int.reduceAdd, Int.reduceSub, Int.reduceMul, if_true, if_false, not_true, not_false_eq_true, false_or, or_false, true_or, or_true, true_and, and_true, false_and, and_false, iI_on, iI_mul, iI_add, iI_sub, iI_neg, ap_if, mp_eq, mz_0, mz_1, mz_b, b2_0, b2_1, iI_lt, iI_le, iI_inj, mb_div, mb_rem, mb_eq (B_in _ _ _ _)] | split)) <;> (first | with_reducible rfl | omega | rfl | (subst_vars; rfl) | (simp only [*, Int.add_zero]; done) | (rw [b2_t (by omega)]; done) | (rw [b2_f (by omega)]; done) | (rw [b2_f (by omega), Int.add_zero]))
theorem iI_and (a b : Int) (ha : a = 0 ∨ a = 1) (hb : b = 0 ∨ b = 1) : iI a &&& iI b = iI (b2 (a = 1 ∧ b = 1)) := by
  rcases ha with rfl | rfl <;> rcases hb with rfl | rfl <;> rfl
theorem iI_or (a b : Int) (ha : a = 0 ∨ a = 1) (hb : b = 0 ∨ b = 1) : iI a ||| iI b = iI (b2 (a = 1 ∨ b = 1)) := by
  rcases ha with rfl | rfl <;> rcases hb with rfl | rfl <;> rfl
abbrev okV (x : Int) : Prop := 0 ≤ x ∧ x ≤ 1000000
theorem okV_b2 (P : Prop) [Decidable P] : okV (b2 P) := by
  rcases b2_bo P with h | h <;> rw [h] <;> exact ⟨by omega, by omega⟩
theorem jM_ok {s a b c : Int} (ha : okV a) (hb : okV b) (hj : jM s a b = some c) : okV c := by
  unfold jM at hj
  by_cases c8 : s = 8
  · rw [if_pos c8] at hj
    split at hj
    · cases hj; exact okV_b2 _
    · cases hj
  · rw [if_neg c8] at hj
    by_cases c9 : s = 9
    · rw [if_pos c9] at hj
      split at hj
      · cases hj; exact okV_b2 _
      · cases hj
    · rw [if_neg c9] at hj
      by_cases c14 : s = 14
      · rw [if_pos c14] at hj
        split at hj
        · cases hj; omega
        · cases hj
      · rw [if_neg c14] at hj
        split at hj
        · cases hj; exact okV_b2 _
        · split at hj <;> cases hj <;> exact okV_b2 _
theorem B_joined {s a b c : Int} (hs : jS s) (ha : okV a) (hb : okV b) (hj : jM s a b = some c) (H : gH) : m12_joined (iI s) (iI a) (iI b) H = some (iI c, H) := by
  have : s = 8 ∨ s = 9 ∨ s = 14 ∨ s = 15 ∨ s = 16 ∨ s = 17 := by omega
  unfold jM at hj
  unfold m12_joined
  rcases this with rfl | rfl | rfl | rfl | rfl | rfl
  · rw [if_pos rfl] at hj
    split at hj
    · rename_i c; cases hj
      rw [iI_and _ _ c.1 c.2]; rfl
    · cases hj
  · rw [if_neg (by omega), if_pos rfl] at hj
    split at hj
    · rename_i c; cases hj
      rw [iI_or _ _ c.1 c.2]; rfl
    · cases hj
  · rw [if_neg (by omega), if_neg (by omega), if_pos rfl] at hj
    split at hj
    · cases hj
      rw [iI_add]; rfl
    · cases hj
  · rw [if_neg (by omega), if_neg (by omega), if_neg (by omega), if_pos rfl] at hj
    cases hj
    (repeat' (first | simp (config := { maxSteps := 1000000 }) (disch := first | assumption | exact W.i _ _ | exact sLine_i W _ _ _ | exact W1.i _ _ | exact hg _ _ | exact W3.i _ _ | (refine ⟨?_, ?_⟩ <;> omega) | omega | (simp only [sW_1, sW_2, sW_3, sW_4, sW_5, sW_8] <;> first | assumption | omega | (refine ⟨?_, ?_⟩ <;> omega)) | (simp only [sT_1, sT_2, sT_3, sT_4, sT_5, sT_8] <;> first | assumption | omega | (refine ⟨?_, ?_⟩ <;> omega))) only [Int.reduceEq, Int.reduceLT, Int.reduceLE, Int.reduceNeg, Int.reduceAdd, Int.reduceSub, Int.reduceMul, if_true, if_false, not_true, not_false_eq_true, false_or, or_false, true_or, or_true, true_and, and_true, false_and, and_false, iI_on, iI_mul, iI_add, iI_sub, iI_neg, ap_if, mp_eq, mz_0, mz_1, mz_b, b2_0, b2_1, iI_lt, iI_le, iI_inj, mb_div, mb_rem, m12_joined_p74] | split)) <;> (first | with_reducible rfl | omega | rfl | (subst_vars; rfl) | (simp only [*, Int.add_zero]; done) | (rw [b2_t (by omega)]; done) | (rw [b2_f (by omega)]; done) | (rw [b2_f (by omega), Int.add_zero]))
  · rw [if_neg (by omega), if_neg (by omega), if_neg (by omega), if_neg (by omega), if_pos rfl] at hj
    cases hj
    (repeat' (first | simp (config := { maxSteps := 1000000 }) (disch := first | assumption | exact W.i _ _ | exact sLine_i W _ _ _ | exact W1.i _ _ | exact hg _ _ | exact W3.i _ _ | (refine ⟨?_, ?_⟩ <;> omega) | omega | (simp only [sW_1, sW_2, sW_3, sW_4, sW_5, sW_8] <;> first | assumption | omega | (refine ⟨?_, ?_⟩ <;> omega)) | (simp only [sT_1, sT_2, sT_3, sT_4, sT_5, sT_8] <;> first | assumption | omega | (refine ⟨?_, ?_⟩ <;> omega))) only [Int.reduceEq, Int.reduceLT, Int.reduceLE, Int.reduceNeg, Int.reduceAdd, Int.reduceSub, Int.reduceMul, if_true, if_false, not_true, not_false_eq_true, false_or, or_false, true_or, or_true, true_and, and_true, false_and, and_false, iI_on, iI_mul, iI_add, iI_sub, iI_neg, ap_if, mp_eq, mz_0, mz_1, mz_b, b2_0, b2_1, iI_lt, iI_le, iI_inj, mb_div, mb_rem, m12_joined_p85] | split)) <;> (first | with_reducible rfl | omega | rfl | (subst_vars; rfl) | (simp only [*, Int.add_zero]; done) | (rw [b2_t (by omega)]; done) | (rw [b2_f (by omega)]; done) | (rw [b2_f (by omega), Int.add_zero]))
  · rw [if_neg (by omega), if_neg (by omega), if_neg (by omega), if_neg (by omega), if_neg (by omega)] at hj
    cases hj
    (repeat' (first | simp (config := { maxSteps := 1000000 }) (disch := first | assumption | exact W.i _ _ | exact sLine_i W _ _ _ | exact W1.i _ _ | exact hg _ _ | exact W3.i _ _ | (refine ⟨?_, ?_⟩ <;> omega) | omega | (simp only [sW_1, sW_2, sW_3, sW_4, sW_5, sW_8] <;> first | assumption | omega | (refine ⟨?_, ?_⟩ <;> omega)) | (simp only [sT_1, sT_2, sT_3, sT_4, sT_5, sT_8] <;> first | assumption | omega | (refine ⟨?_, ?_⟩ <;> omega))) only [Int.reduceEq, Int.reduceLT, Int.reduceLE, Int.reduceNeg, Int.reduceAdd, Int.reduceSub, Int.reduceMul, if_true, if_false, not_true, not_false_eq_true, false_or, or_false, true_or, or_true, true_and, and_true, false_and, and_false, iI_on, iI_mul, iI_add, iI_sub, iI_neg, ap_if, mp_eq, mz_0, mz_1, mz_b, b2_0, b2_1, iI_lt, iI_le, iI_inj, mb_div, mb_rem, m12_joined_p86, m12_joined_p96] | split)) <;> (first | with_reducible rfl | omega | rfl | (subst_vars; rfl) | (simp only [*, Int.add_zero]; done) | (rw [b2_t (by omega)]; done) | (rw [b2_f (by omega)]; done) | (rw [b2_f (by omega), Int.add_zero]))
end RD3

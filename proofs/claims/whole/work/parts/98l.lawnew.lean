/-! ===== the class keeps a law ===== -/
section LAWNEW
variable {rho U : Nat → Int → Int} {h : gH} {L : List (Nat × Nat)} {w : Nat → Nat → Option Nat} {α : Type} {i k m t : Nat} {j v n nc td : Int} {ts : List Nat}
theorem nk_s1 (hC : OKC h) (hl : 55 ≤ h.1.length) (f : Int32 → gM α) : mb (gGetI [5] 29 1) f (cK rho (nK h L U w)) = f (iI (rho 29 1)) (cK rho (nK h L U w)) := (nK_ok hC hl).s29_1 f
theorem nk_s2 (hC : OKC h) (hl : 55 ≤ h.1.length) (f : Int32 → gM α) : mb (gGetI [5] 29 2) f (cK rho (nK h L U w)) = f (iI (rho 29 2)) (cK rho (nK h L U w)) := (nK_ok hC hl).s29_2 f
theorem nk_g3 (hC : OKC h) (hl : 55 ≤ h.1.length) (f : Nat → gM α) : mb (gGetR [5] 29 3) f (cK rho (nK h L U w)) = f 30 (cK rho (nK h L U w)) := (nK_ok hC hl).g29_3 f
theorem nk_g4 (hC : OKC h) (hl : 55 ≤ h.1.length) (f : Nat → gM α) : mb (gGetR [5] 29 4) f (cK rho (nK h L U w)) = f 31 (cK rho (nK h L U w)) := (nK_ok hC hl).g29_4 f
theorem nk_g5 (hC : OKC h) (hl : 55 ≤ h.1.length) (f : Nat → gM α) : mb (gGetR [5] 29 5) f (cK rho (nK h L U w)) = f 32 (cK rho (nK h L U w)) := (nK_ok hC hl).g29_5 f
theorem nk_g6 (hC : OKC h) (hl : 55 ≤ h.1.length) (f : Nat → gM α) : mb (gGetR [5] 29 6) f (cK rho (nK h L U w)) = f 33 (cK rho (nK h L U w)) := (nK_ok hC hl).g29_6 f
theorem nk_cp {ln : Nat} (hC : OKC h) (hl : 55 ≤ h.1.length) {a : Nat} (ha : a < 55) (hs : cSh[a]? = some (100, ln)) (hln : ln ≤ 100000) (h0 : 0 ≤ j) (h1 : j ≤ ln) (f : Nat → gM α) : mb (mj_copyOf a (iI j)) f (cK rho (nK h L U w)) = f (h.1.length + L.length) (cK rho (nK h (L ++ [(100, j.toNat)]) (fun q x => if q = L.length then cpR rho a ln j x else U q x) fun q j => if q = L.length then none else w q j)) :=
  N_cp hl ha ((hC.1 a ha).trans hs) hln h0 h1 f
theorem N_getR_ (hi : i < L.length) (ht : ts.contains (L.getD i (0, 0)).1 = true) (hx : (w i k).isSome = true) (f : Nat → gM α) : mb (gGetR ts (h.1.length + i) k) f (cK rho (nK h L U w)) = f ((w i k).getD 0) (cK rho (nK h L U w)) := by
  obtain ⟨x, e⟩ := Option.isSome_iff_exists.mp hx
  rw [N_getR hi ht e, e]
  rfl
theorem nK_eq {L L' : List (Nat × Nat)} {U U' : Nat → Int → Int} {w w' : Nat → Nat → Option Nat} (a : L = L') (b : U = U') (c : w = w') : nK h L U w = nK h L' U' w' := by rw [a, b, c]
/-- the law's cells -/
abbrev L10 (n nc : Int) : List (Nat × Nat) := [(4, 14), (100, 6), (100, 6), (100, 20), (100, 16), (100, n.toNat), (100, n.toNat), (100, n.toNat), (100, nc.toNat), (100, n.toNat)]
/-- where its rows lie -/
def wLaw (p : Nat) (w0 : Nat → Nat → Option Nat) : Nat → Nat → Option Nat := fun q j => if q = 0 then (if j = 5 then some (p + 1) else if j = 6 then some (p + 2) else if j = 8 then some (p + 3) else if j = 13 then some (p + 4) else if j = 4 then some (p + 5) else if j = 10 then some (p + 6) else if j = 11 then some (p + 7) else if j = 12 then some (p + 8) else if j = 9 then some (p + 9) else none) else if q < 10 then none else w0 q j
/-- what they hold at first -/
def uLaw (rho U0 : Nat → Int → Int) (v n td nc : Int) : Nat → Int → Int := fun q j => if q = 0 then (if j = 0 then v else if j = 1 then n else if j = 2 then td else 0) else if q = 5 then cpR rho 30 12 n j else if q = 6 then cpR rho 31 12 n j else if q = 7 then cpR rho 32 12 n j else if q = 8 then cpR rho 33 250 nc j else if q < 10 then 0 else U0 q j
theorem C_lawPre (hC : OKC h) (hl : 84 ≤ h.1.length) (e1 : rho 29 1 = n) (e2 : rho 29 2 = nc) (hn : 0 ≤ n ∧ n ≤ 12) (hc : 0 ≤ nc ∧ nc ≤ 250) {U0 : Nat → Int → Int} {w0 : Nat → Nat → Option Nat} (hU : ∀ j, U0 0 j = 0) (hw : ∀ j, w0 0 j = none) : m4_init (h.1.length + 0) (iI v) (iI td) 29 (cK rho (nK h [(4, 14)] U0 w0)) = (mb (mj_fill (h.1.length + 3) (iI (-3))) fun _ => m4_init_p135 FU (h.1.length + 0) 29 (iI 0) (iI 90) (iI 0)) (cK rho (nK h (L10 n nc) (uLaw rho U0 v n td nc) (wLaw h.1.length w0))) := by
  have hl55 : 55 ≤ h.1.length := by omega
  have c0 : cSh[30]? = some (100, 12) := rfl
  have c1 : cSh[31]? = some (100, 12) := rfl
  have c2 : cSh[32]? = some (100, 12) := rfl
  have c3 : cSh[33]? = some (100, 250) := rfl
  unfold m4_init m6_init
  simp (config := { maxSteps := 3000000 }) (disch := first | exact of_decide_eq_true rfl | rfl | omega) only [mb_as, mb_mp, nk_s1 hC hl55, nk_s2 hC hl55, nk_g3 hC hl55, nk_g4 hC hl55, nk_g5 hC hl55, nk_g6 hC hl55, e1, e2, N_putI hl55, N_putR, N_newA hl55, N_getI hl55, nk_cp hC hl55 (a := 30) (by omega) c0 (by omega), nk_cp hC hl55 (a := 31) (by omega) c1 (by omega), nk_cp hC hl55 (a := 32) (by omega) c2 (by omega), nk_cp hC hl55 (a := 33) (by omega) c3 (by omega), iI_on, Int.reduceNeg, iI_neg, List.nil_append, List.cons_append, List.length_cons, List.length_nil, Nat.reduceAdd, s3_nk, s3_nj, s3_at, Nat.reduceEqDiff, Int.reduceToNat, if_true, if_false]
  refine Eq.trans (congrArg _ (congrArg (cK rho) (nK_eq (L' := L10 n nc) (U' := uLaw rho U0 v n td nc) (w' := wLaw h.1.length w0) ?_ ?_ ?_))) ?_
  · first | rfl | skip
  · funext q j
    unfold uLaw
    by_cases q9 : q = 9
    · simp [q9]
    by_cases q8 : q = 8
    · simp [q8]
    by_cases q7 : q = 7
    · simp [q7]
    by_cases q6 : q = 6
    · simp [q6]
    by_cases q5 : q = 5
    · simp [q5]
    by_cases q4 : q = 4
    · simp [q4, s3]
    by_cases q3 : q = 3
    · simp [q3, s3]
    by_cases q2 : q = 2
    · simp [q2, s3]
    by_cases q1 : q = 1
    · simp [q1, s3]
    by_cases q0 : q = 0
    · subst q0
      by_cases j0 : j = 0
      · subst j0; simp [s3]
      by_cases j1 : j = 1
      · subst j1; simp [s3]
      by_cases j2 : j = 2
      · subst j2; simp [s3]
      simp [s3, j0, j1, j2, hU]
    · have q10 : ¬ q < 10 := by omega
      simp [s3, q0, q1, q2, q3, q4, q5, q6, q7, q8, q9, q10]
  · funext q j
    unfold wLaw u2
    by_cases q0 : q = 0
    · subst q0
      simp [hw]
      repeat' split
      all_goals first | rfl | omega
    · simp [q0]
      repeat' split
      all_goals first | rfl | omega
  · rw [N_getR (of_decide_eq_true rfl) rfl (x := h.1.length + 3) rfl]
end LAWNEW

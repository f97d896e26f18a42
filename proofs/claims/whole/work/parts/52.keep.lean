/-! ===== what always holds goes on holding ===== -/
theorem i32_s {sg : Nat → Int → Int} (h : ∀ k j, i32 (sg k j)) {k : Nat} {j v : Int} (hv : i32 v) : ∀ k' j', i32 (s3 sg k j v k' j') := fun k' j' => by
  unfold s3
  split
  · exact hv
  · exact h _ _
section KEEP
variable {sg : Nat → Int → Int}
theorem WD_days (W : WD sg) {n : Int} (h0 : 1 ≤ n) (h1 : sg 1 0 + n ≤ 9999) : WD (s3 sg 1 0 (sg 1 0 + n)) := by
  have n0 := W.n0
  refine ⟨i32_s W.i ⟨by omega, by omega⟩, ?_, ?_, ?_, ?_, ?_, ?_, ?_, ?_, ?_, ?_, ?_, ?_, ?_, ?_, ?_⟩
  all_goals (simp (disch := omega) only [s3_at, s3_nk, s3_nj, or_true, and_true])
  · omega
  · exact W.n1
  · exact W.n2
  · exact W.n3
  · exact W.n4
  · exact W.n5
  · exact W.n6
  · exact W.pe
  · intro i a b; have := W.de i a b; omega
  · intro i a b; have := W.fi i a b; omega
  · intro i a b; have := W.ve i a b; omega
  · intro i a b; have := W.te i a b; omega
  · exact W.un
  · intro i a b; have := W.ti i a b; omega
  · exact W.li
theorem WD_person (W : WD sg) {y d : Int} (hy : 0 ≤ y ∧ y ≤ 90) (hd : 0 ≤ d ∧ d ≤ 359) (h8 : sg 1 1 ≠ 8) : WD (s3 (s3 (s3 sg 2 (2 * sg 1 1) (360 * y + d)) 2 (2 * sg 1 1 + 1) 0) 1 1 (sg 1 1 + 1)) := by
  have n1 := W.n1
  refine ⟨i32_s (i32_s (i32_s W.i ⟨by omega, by omega⟩) ⟨by omega, by omega⟩) ⟨by omega, by omega⟩, ?_, ?_, ?_, ?_, ?_, ?_, ?_, ?_, ?_, ?_, ?_, ?_, ?_, ?_, ?_⟩
  all_goals (simp (disch := omega) only [s3_at, s3_nk, s3_nj, or_true, and_true])
  · exact W.n0
  · omega
  · exact W.n2
  · exact W.n3
  · exact W.n4
  · exact W.n5
  · exact W.n6
  · intro i a b
    by_cases c : i = sg 1 1
    · subst c
      simp (disch := omega) only [s3_at, s3_nk, s3_nj, or_true, and_true]
      omega
    · have := W.pe i a (by omega)
      simp (disch := omega) only [s3_at, s3_nk, s3_nj, or_true, and_true]
      omega
  · intro i a b; have := W.de i a b; omega
  · exact W.fi
  · exact W.ve
  · exact W.te
  · exact W.un
  · intro i a b; have := W.ti i a b; omega
  · exact W.li
theorem WD_deed (W : WD sg) {p k d : Int} (hp : 0 ≤ p ∧ p < sg 1 1) (hk : 0 ≤ k ∧ k ≤ 5) (hd : 0 ≤ d ∧ d ≤ sg 1 0) (h8 : sg 1 2 ≠ 16) : WD (s3 (s3 (s3 (s3 sg 3 (3 * sg 1 2) p) 3 (3 * sg 1 2 + 1) k) 3 (3 * sg 1 2 + 2) d) 1 2 (sg 1 2 + 1)) := by
  have n2 := W.n2
  have n1 := W.n1
  have n0 := W.n0
  refine ⟨i32_s (i32_s (i32_s (i32_s W.i ⟨by omega, by omega⟩) ⟨by omega, by omega⟩) ⟨by omega, by omega⟩) ⟨by omega, by omega⟩, ?_, ?_, ?_, ?_, ?_, ?_, ?_, ?_, ?_, ?_, ?_, ?_, ?_, ?_, ?_⟩
  all_goals (simp (disch := omega) only [s3_at, s3_nk, s3_nj, or_true, and_true])
  · exact W.n0
  · exact W.n1
  · omega
  · exact W.n3
  · exact W.n4
  · exact W.n5
  · exact W.n6
  · exact W.pe
  · intro i a b
    by_cases c : i = sg 1 2
    · subst c
      simp (disch := omega) only [s3_at, s3_nk, s3_nj, or_true, and_true]
      omega
    · have := W.de i a (by omega)
      simp (disch := omega) only [s3_at, s3_nk, s3_nj, or_true, and_true]
      omega
  · intro i a b; have := W.fi i a b; omega
  · exact W.ve
  · intro i a b; have := W.te i a b; omega
  · exact W.un
  · exact W.ti
  · exact W.li
theorem WD_find (W : WD sg) {d f q : Int} (hd : 0 ≤ d ∧ d < sg 1 2) (hf : 0 ≤ f ∧ f ≤ 15) (hq : q = 0 ∨ q = 1) (h8 : sg 1 3 ≠ 24) : WD (s3 (s3 (s3 (s3 (s3 sg 4 (4 * sg 1 3) d) 4 (4 * sg 1 3 + 1) f) 4 (4 * sg 1 3 + 2) q) 4 (4 * sg 1 3 + 3) (sg 1 0)) 1 3 (sg 1 3 + 1)) := by
  have n3 := W.n3
  have n2 := W.n2
  have n0 := W.n0
  refine ⟨i32_s (i32_s (i32_s (i32_s (i32_s W.i ⟨by omega, by omega⟩) ⟨by omega, by omega⟩) ⟨by omega, by omega⟩) ⟨by omega, by omega⟩) ⟨by omega, by omega⟩, ?_, ?_, ?_, ?_, ?_, ?_, ?_, ?_, ?_, ?_, ?_, ?_, ?_, ?_, ?_⟩
  all_goals (simp (disch := omega) only [s3_at, s3_nk, s3_nj, or_true, and_true])
  · exact W.n0
  · exact W.n1
  · exact W.n2
  · omega
  · exact W.n4
  · exact W.n5
  · exact W.n6
  · exact W.pe
  · exact W.de
  · intro i a b
    by_cases c : i = sg 1 3
    · subst c
      simp (disch := omega) only [s3_at, s3_nk, s3_nj, or_true, and_true]
      omega
    · have := W.fi i a (by omega)
      simp (disch := omega) only [s3_at, s3_nk, s3_nj, or_true, and_true]
      omega
  · exact W.ve
  · exact W.te
  · exact W.un
  · exact W.ti
  · exact W.li
theorem WD_term (W : WD sg) {d c m w : Int} (hd : 0 ≤ d ∧ d < sg 1 2) (hc : 0 ≤ c ∧ c ≤ 4) (hm : 0 ≤ m ∧ m ≤ 240) (hw : 0 ≤ w ∧ w / 10 ≤ 3 ∧ w % 10 ≤ 1) (hn : ¬ 0 ≤ sTerm sg d (sg 1 0)) (h8 : sg 1 5 ≠ 16) : WD (s3 (s3 (s3 (s3 (s3 (s3 (s3 (s3 sg 8 (7 * sg 1 5) d) 8 (7 * sg 1 5 + 1) c) 8 (7 * sg 1 5 + 2) m) 8 (7 * sg 1 5 + 3) (w / 10)) 8 (7 * sg 1 5 + 4) (w % 10)) 8 (7 * sg 1 5 + 5) (sg 1 0)) 8 (7 * sg 1 5 + 6) 100000) 1 5 (sg 1 5 + 1)) := by
  have n5 := W.n5
  have n2 := W.n2
  have n0 := W.n0
  refine ⟨i32_s (i32_s (i32_s (i32_s (i32_s (i32_s (i32_s (i32_s W.i ⟨by omega, by omega⟩) ⟨by omega, by omega⟩) ⟨by omega, by omega⟩) ⟨by omega, by omega⟩) ⟨by omega, by omega⟩) ⟨by omega, by omega⟩) ⟨by omega, by omega⟩) ⟨by omega, by omega⟩, ?_, ?_, ?_, ?_, ?_, ?_, ?_, ?_, ?_, ?_, ?_, ?_, ?_, ?_, ?_⟩
  all_goals (simp (disch := omega) only [s3_at, s3_nk, s3_nj, or_true, and_true])
  · exact W.n0
  · exact W.n1
  · exact W.n2
  · exact W.n3
  · exact W.n4
  · omega
  · exact W.n6
  · exact W.pe
  · exact W.de
  · exact W.fi
  · exact W.ve
  · intro i a b
    by_cases c : i = sg 1 5
    · subst c
      simp (disch := omega) only [s3_at, s3_nk, s3_nj, or_true, and_true]
      omega
    · have := W.te i a (by omega)
      simp (disch := omega) only [s3_at, s3_nk, s3_nj, or_true, and_true]
      omega
  · intro i j a b b2
    have hi := W.te i a (by omega)
    by_cases c : j = sg 1 5
    · subst c
      simp (disch := omega) only [s3_at, s3_nk, s3_nj, or_true, and_true]
      intro e
      have hl := sTerm_b W d (sg 1 0)
      have := lst_no (fun t => sg 8 (7 * t) = d ∧ sStands sg t (sg 1 0)) (sg 1 5).toNat i (by show sTerm sg d (sg 1 0) < i; omega) a (by omega)
      have h2 : ¬ (sg 8 (7 * i) = d ∧ sStands sg i (sg 1 0)) := this
      omega
    · have := W.un i j a b (by omega)
      simp (disch := omega) only [s3_at, s3_nk, s3_nj, or_true, and_true]
      exact this
  · exact W.ti
  · exact W.li
theorem WD_appeal (W : WD sg) (t : Int) (h0 : 0 ≤ t) (h1 : t < sg 1 5) (hs : sStands sg t (sg 1 0)) : WD (s3 sg 8 (7 * t + 6) (sg 1 0)) := by
  have n5 := W.n5
  have n0 := W.n0
  refine ⟨i32_s W.i ⟨by omega, by omega⟩, ?_, ?_, ?_, ?_, ?_, ?_, ?_, ?_, ?_, ?_, ?_, ?_, ?_, ?_, ?_⟩
  all_goals (simp (disch := omega) only [s3_at, s3_nk, s3_nj, or_true, and_true])
  · exact W.n0
  · exact W.n1
  · exact W.n2
  · exact W.n3
  · exact W.n4
  · exact W.n5
  · exact W.n6
  · exact W.pe
  · exact W.de
  · exact W.fi
  · exact W.ve
  · intro i a b
    have := W.te i a b
    by_cases c : i = t
    · subst c
      simp (disch := omega) only [s3_at, s3_nk, s3_nj, or_true, and_true]
      omega
    · simp (disch := omega) only [s3_at, s3_nk, s3_nj, or_true, and_true]
      omega
  · intro i j a b b2 e
    have hu := W.un i j a b b2 e
    have hj := W.te j (by omega) b2
    by_cases c : i = t
    · subst c
      simp (disch := omega) only [s3_at, s3_nk, s3_nj, or_true, and_true]
      omega
    · simp (disch := omega) only [s3_at, s3_nk, s3_nj, or_true, and_true]
      exact hu
  · exact W.ti
  · exact W.li
theorem WD_held (W : WD sg) {p f t : Int} (hp : 0 ≤ p ∧ p < sg 1 1) (hf : 0 ≤ f) (ht : f ≤ t ∧ t ≤ sg 1 0) (h8 : sg 1 6 ≠ 12) : WD (s3 (s3 (s3 (s3 sg 9 (3 * sg 1 6) p) 9 (3 * sg 1 6 + 1) f) 9 (3 * sg 1 6 + 2) t) 1 6 (sg 1 6 + 1)) := by
  have n6 := W.n6
  have n1 := W.n1
  have n0 := W.n0
  refine ⟨i32_s (i32_s (i32_s (i32_s W.i ⟨by omega, by omega⟩) ⟨by omega, by omega⟩) ⟨by omega, by omega⟩) ⟨by omega, by omega⟩, ?_, ?_, ?_, ?_, ?_, ?_, ?_, ?_, ?_, ?_, ?_, ?_, ?_, ?_, ?_⟩
  all_goals (simp (disch := omega) only [s3_at, s3_nk, s3_nj, or_true, and_true])
  · exact W.n0
  · exact W.n1
  · exact W.n2
  · exact W.n3
  · exact W.n4
  · exact W.n5
  · omega
  · exact W.pe
  · exact W.de
  · exact W.fi
  · exact W.ve
  · exact W.te
  · exact W.un
  · intro i a b
    by_cases c : i = sg 1 6
    · subst c
      simp (disch := omega) only [s3_at, s3_nk, s3_nj, or_true, and_true]
      omega
    · have := W.ti i a (by omega)
      simp (disch := omega) only [s3_at, s3_nk, s3_nj, or_true, and_true]
      omega
  · exact W.li
theorem WD_good (W : WD sg) {p n : Int} (hp : 0 ≤ p ∧ p < sg 1 1) (hn : 1 ≤ n) (h9 : sg 2 (2 * p + 1) + n ≤ 999) : WD (s3 sg 2 (2 * p + 1) (sg 2 (2 * p + 1) + n)) := by
  have n1 := W.n1
  have np := W.pe p hp.1 hp.2
  refine ⟨i32_s W.i ⟨by omega, by omega⟩, ?_, ?_, ?_, ?_, ?_, ?_, ?_, ?_, ?_, ?_, ?_, ?_, ?_, ?_, ?_⟩
  all_goals (simp (disch := omega) only [s3_at, s3_nk, s3_nj, or_true, and_true])
  · exact W.n0
  · exact W.n1
  · exact W.n2
  · exact W.n3
  · exact W.n4
  · exact W.n5
  · exact W.n6
  · intro i a b
    have := W.pe i a b
    by_cases c : i = p
    · subst c
      simp (disch := omega) only [s3_at, s3_nk, s3_nj, or_true, and_true]
      omega
    · simp (disch := omega) only [s3_at, s3_nk, s3_nj, or_true, and_true]
      omega
  · exact W.de
  · exact W.fi
  · exact W.ve
  · exact W.te
  · exact W.un
  · exact W.ti
  · exact W.li
/-- numbers that don't lie with the docket -/
theorem WD_out (W : WD sg) {k : Nat} {j v : Int} (hk : k = 0 ∨ 10 ≤ k) (hv : i32 v) : WD (s3 sg k j v) := by
  have e : ∀ k', 1 ≤ k' → k' ≤ 9 → s3 sg k j v k' = sg k' := fun k' h1 h2 => by funext j'; exact s3_nk (by omega)
  refine ⟨i32_s W.i hv, ?_⟩
  have := W.2
  unfold sLine at this ⊢
  rw [e 1 (by omega) (by omega), e 2 (by omega) (by omega), e 3 (by omega) (by omega), e 4 (by omega) (by omega), e 5 (by omega) (by omega), e 6 (by omega) (by omega), e 7 (by omega) (by omega), e 8 (by omega) (by omega), e 9 (by omega) (by omega)]
  exact this
end KEEP

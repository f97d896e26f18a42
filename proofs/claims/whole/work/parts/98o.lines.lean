/-! ===== the lines of a text, one by one ===== -/
section LINES
variable {c : Int → Int} {N : Int}
theorem rowL_of {f : Int → Int} : ∀ (L : List Int) (i : Int), (∀ j : Nat, j < L.length → f (i + j) = L.getD j 0) → rowL f L.length i = L
  | [], i, _ => rfl
  | x :: L, i, h => by
    rw [List.length_cons, rowL]
    have h0 := h 0 (by rw [List.length_cons]; omega)
    have e0 : i + ((0 : Nat) : Int) = i := by omega
    rw [e0] at h0
    rw [h0, rowL_of L (i + 1) (fun j hj => by
      have := h (j + 1) (by rw [List.length_cons]; omega)
      rw [show i + ((j + 1 : Nat) : Int) = i + 1 + (j : Int) by omega] at this
      rw [this]; rfl)]
    rfl
theorem rowL_cg {f g : Int → Int} : ∀ (m : Nat) (i : Int), (∀ j, i ≤ j → j < i + m → f j = g j) → rowL f m i = rowL g m i
  | 0, i, _ => rfl
  | m + 1, i, h => by
    rw [rowL, rowL, h i (by omega) (by omega), rowL_cg m (i + 1) (fun j h0 h1 => h j (by omega) (by omega))]
theorem getD_mid (A B C : List Int) {j : Nat} (h : j < B.length) : (A ++ (B ++ C)).getD (A.length + j) 0 = B.getD j 0 := by
  rw [List.getD_eq_getElem?_getD, List.getElem?_append_right (by omega), Nat.add_sub_cancel_left, List.getElem?_append_left h, List.getD_eq_getElem?_getD]
theorem lnS_app (as bs : List Int) (k : Int) : lnS c (as ++ k :: bs) = lnS c as ++ ((condX c k).2.2.1 ++ lnS c bs) := by
  induction as with
  | nil => rfl
  | cons a as ih => rw [List.cons_append, lnS, lnS, ih, List.append_assoc]
theorem lnC_app (as bs : List Int) (k : Int) : lnC c (as ++ k :: bs) = lnC c as ++ ((condX c k).2.2.2 ++ lnC c bs) := by
  induction as with
  | nil => rfl
  | cons a as ih => rw [List.cons_append, lnC, lnC, ih, List.append_assoc]
theorem lines_at {t : Int → Int} {b : Nat → Int → Int} : ∀ (ks : List Int) (l n m : Int), LFs c t ks l n → LFcs c b ks l m → ∀ x, l ≤ x → x < l + ks.length → ∃ as k bs, ks = as ++ k :: bs ∧ LR c k ∧ LF c k x (n + (lnS c as).length) (condX c k).2.2.1.length t ∧ LFc c k x (m + (lnC c as).length) (m + (lnC c as).length + (condX c k).2.2.2.length) b
  | [], l, n, m, _, _, x, h0, h1 => by
    rw [List.length_nil] at h1
    omega
  | k :: ks, l, n, m, H, K, x, h0, h1 => by
    obtain ⟨a1, a2, a3⟩ := H
    obtain ⟨b1, b2⟩ := K
    by_cases e : x = l
    · refine ⟨[], k, ks, rfl, a1, ?_, ?_⟩
      · rw [e, show n + (((lnS c []).length : Nat) : Int) = n from Int.add_zero n]; exact a2
      · rw [e, show m + (((lnC c []).length : Nat) : Int) = m from Int.add_zero m]; exact b1
    · rw [List.length_cons] at h1
      obtain ⟨as, k', bs, e1, e2, e3, e4⟩ := lines_at ks (l + 1) _ _ a3 b2 x (by omega) (by omega)
      refine ⟨k :: as, k', bs, by rw [e1]; rfl, e2, ?_, ?_⟩
      · rw [lnS, List.length_append]
        rw [show n + (((condX c k).2.2.1.length + (lnS c as).length : Nat) : Int) = n + ((condX c k).2.2.1.length : Int) + ((lnS c as).length : Int) by omega]
        exact e3
      · rw [lnC, List.length_append]
        rw [show m + (((condX c k).2.2.2.length + (lnC c as).length : Nat) : Int) = m + ((condX c k).2.2.2.length : Int) + ((lnC c as).length : Int) by omega]
        exact e4
theorem tX_in (H : CN c N) : ∀ (n : Nat) (k : Int), 0 ≤ k → k ≤ N → ∀ x, x ∈ (tX c n k).2.2 → 0 ≤ x
  | 0, k, h0, h1, x, hx => by
    rw [tX] at hx
    split at hx <;> cases hx
  | n + 1, k, h0, h1, x, hx => by
    have b := lnX_b H h0 h1
    rw [tX] at hx
    split at hx
    · cases hx
    · split at hx
      · rcases List.mem_cons.mp hx with e | e
        · omega
        · exact tX_in H n _ b.1.1 b.1.2 x e
      · cases hx
/-- a line's condition, told twice, comes to the same -/
theorem cond_sem (H : CN c N) {k : Int} (h0 : 0 ≤ k) (lr : LR c k) (hs : 1004 ≤ c k) (ht : c k ≤ 1006) : (∀ s, s ∈ (condX c k).2.2.1 → sOK s) ∧ (∀ z, z ∈ (condX c k).2.2.2 → okCode z) ∧ ∀ e, EnvOK e → ∃ v, (v = 0 ∨ v = 1) ∧ xMs e (condX c k).2.2.1 [] = some [v] ∧ xMs e ((condX c k).2.2.2.map ct) [] = some [v] := by
  have kN : ∀ j v, c j = v → v ≠ 3000 → j < N := fun j v e hv => by
    rcases Int.lt_or_le j N with q | q
    · exact q
    · exact absurd ((H.2.1 _ q).symm.trans e).symm hv
  have hc := lr.2.2.2.2.2.2
  unfold condX at hc ⊢
  by_cases c1 : c k = 1004 ∨ c k = 1005
  · have q := kN (k + 2) 1016 (lr.2.2.2.2.1 c1).2 (by omega)
    rw [if_pos c1] at hc ⊢
    have ro := pC_ok H 6 0 (k + 3) (by omega) (by omega)
    exact ⟨ro.1, ro.2, fun e he => pC_sem H he 6 0 (k + 3) [] (by omega) (by omega) (by omega) (by omega) hc (by simp)⟩
  · have q := kN (k + 1) 1016 (lr.2.2.2.2.2.1 (by omega)) (by omega)
    rw [if_neg c1, if_pos (by omega)] at hc ⊢
    have ro := pC_ok H 6 0 (k + 2) (by omega) (by omega)
    exact ⟨ro.1, ro.2, fun e he => pC_sem H he 6 0 (k + 2) [] (by omega) (by omega) (by omega) (by omega) hc (by simp)⟩
end LINES

/-! ===== what a condition that was read comes to: numbers alone ===== -/
section SEM
variable {c : Int → Int} {N : Int}
theorem xMs_app (e : Int → Int) : ∀ (A B st : List Int), xMs e (A ++ B) st = match xMs e A st with
    | none => none
    | some q => xMs e B q
  | [], B, st => rfl
  | a :: A, B, st => by
    rw [List.cons_append, xMs, xMs]
    cases xM e a st with
    | none => rfl
    | some q => exact xMs_app e A B q
theorem xMs_go {e : Int → Int} {A B st q : List Int} (h : xMs e A st = some q) : xMs e (A ++ B) st = xMs e B q := by
  rw [xMs_app, h]
/-- a sign of the reference, a code of the class -/
abbrev sOK (s : Int) : Prop := (1 ≤ s ∧ s ≤ 17 ∧ s ≠ 10) ∨ (1000 ≤ s ∧ s ≤ 1999)
theorem ct_ok {x : Int} (h : okCode x) : sOK (ct x) := by
  unfold okCode at h
  unfold ct
  repeat' split
  all_goals omega
theorem okL_app {A B : List Int} {P : Int → Prop} (h : ∀ x, x ∈ A → P x) (k : ∀ x, x ∈ B → P x) : ∀ x, x ∈ A ++ B → P x := fun x hx => (List.mem_append.mp hx).elim (h x) (k x)
theorem okL_1 {a : Int} {P : Int → Prop} (h : P a) : ∀ x, x ∈ [a] → P x := fun x hx => by
  rw [List.mem_singleton.mp hx]; exact h
theorem okL_0 {P : Int → Prop} : ∀ x, x ∈ ([] : List Int) → P x := fun x hx => by cases hx
theorem okL_ct {A : List Int} (h : ∀ x, x ∈ A → okCode x) : ∀ x, x ∈ A.map ct → sOK x := fun x hx => by
  obtain ⟨y, hy, e⟩ := List.mem_map.mp hx
  rw [← e]; exact ct_ok (h y hy)
theorem pS_ok (hc : ∀ k, 0 ≤ k → 0 ≤ c k ∧ c k ≤ 3001) : ∀ (m : Nat) (i k : Int), 0 ≤ k → ∀ x, x ∈ (pS c m i k).2.2 → okCode x
  | 0, i, k, h0 => okL_0
  | m + 1, i, k, h0 => by
    rw [pS]
    by_cases c1 : pv (c k) < 0
    · rw [if_pos c1]; exact okL_0
    · rw [if_neg c1]
      have hv := pv_b (x := c k) (by omega) (hc k h0).1
      have hd : ∀ x, x ∈ (if i ≤ 0 then [pv (c k)] else [pv (c k), 2000] : List Int) → okCode x := by
        have e0 : okCode (pv (c k)) := by unfold okCode; omega
        split
        · exact okL_1 e0
        · exact okL_app (A := [pv (c k)]) (okL_1 e0) (okL_1 (by unfold okCode; omega))
      by_cases c2 : c (k + 1) = 2043
      · rw [if_pos c2]
        exact okL_app hd (pS_ok hc m (i + 1) (k + 2) (by omega))
      · rw [if_neg c2]
        exact hd
theorem pH_ok {x : Int} (h : ¬ pH x < 0) : pH x = 2001 ∨ pH x = 2002 ∨ pH x = 2003 := by
  unfold pH at h ⊢
  repeat' split at h
  all_goals (first | omega | (repeat' split) <;> omega)
theorem pA_ok (H : CN c N) {k : Int} (h0 : 0 ≤ k) (h1 : k ≤ N) : ∀ x, x ∈ (pA c k).2.2 → okCode x := by
  have n0 := H.1
  have b1 := pS_b H 252 0 k h0 h1 (by omega) (by omega)
  have o1 := pS_ok H.2.2 252 0 k h0
  unfold pA
  by_cases c1 : 1008 ≤ c k ∧ c k ≤ 1013
  · rw [if_pos c1]
    exact okL_1 (by unfold okCode; omega)
  · rw [if_neg c1]
    by_cases c2 : (pS c 252 0 k).1 = false
    · rw [if_pos c2]; exact o1
    · rw [if_neg c2]
      by_cases c3 : pH (c (pS c 252 0 k).2.1) < 0
      · rw [if_pos c3]; exact o1
      · rw [if_neg c3]
        have o2 := pS_ok H.2.2 252 0 ((pS c 252 0 k).2.1 + 1) (by omega)
        by_cases c4 : (pS c 252 0 ((pS c 252 0 k).2.1 + 1)).1 = false
        · rw [if_pos c4]; exact okL_app o1 o2
        · rw [if_neg c4]
          have := pH_ok c3
          exact okL_app (okL_app o1 o2) (okL_1 (by unfold okCode; omega))
/-- signs and codes of a reading -/
abbrev RO (x : Rs) : Prop := (∀ s, s ∈ x.2.2.1 → sOK s) ∧ ∀ s, s ∈ x.2.2.2 → okCode s
theorem pB_ok (H : CN c N) {rc : Int → Int → Rs} (hr : ∀ o k, 0 ≤ k → k ≤ N → RO (rc o k)) {o k : Int} (h0 : 0 ≤ k) (h1 : k ≤ N) : RO (pB c rc o k) := by
  unfold pB
  by_cases c1 : c k = 2040
  · have kN : k < N := by
      rcases Int.lt_or_le k N with q | q
      · exact q
      · have := H.2.1 _ q; omega
    rw [if_pos c1]
    by_cases c2 : o < 4
    · rw [if_pos c2]
      have a := hr (o + 1) (k + 1) (by omega) (by omega)
      by_cases c3 : (rc (o + 1) (k + 1)).1 = true
      · rw [if_pos c3]
        by_cases c4 : c (rc (o + 1) (k + 1)).2.1 = 2041
        · rw [if_pos c4]; exact a
        · rw [if_neg c4]; exact a
      · rw [if_neg c3]; exact a
    · rw [if_neg c2]; exact ⟨okL_0, okL_0⟩
  · rw [if_neg c1]
    have := pA_ok H h0 h1
    exact ⟨okL_ct this, this⟩
theorem pO_ok (H : CN c N) {rc : Int → Int → Rs} (hr : ∀ o k, 0 ≤ k → k ≤ N → RO (rc o k)) {o k : Int} (h0 : 0 ≤ k) (h1 : k ≤ N) : RO (pO c rc o k) := by
  have hn := pN_b H 252 k h0 h1
  have a := pB_ok H hr (o := o) (k := k + pN c 252 k) (by omega) hn.1
  unfold pO
  by_cases c1 : (pB c rc o (k + pN c 252 k)).1 = true
  · rw [if_pos c1]
    refine ⟨okL_app a.1 fun x hx => ?_, okL_app a.2 ?_⟩
    · rw [(List.mem_replicate.mp hx).2]
      exact Or.inl ⟨by omega, by omega, by omega⟩
    · split
      · exact okL_1 (by unfold okCode; omega)
      · exact okL_0
  · rw [if_neg c1]; exact a
theorem aS_ok (a : Bool) : ∀ s, s ∈ aS a → sOK s := by cases a <;> first | exact okL_0 | exact okL_1 (Or.inl ⟨by omega, by omega, by omega⟩)
theorem oS_ok (a : Bool) : ∀ s, s ∈ oS a → sOK s := by cases a <;> first | exact okL_0 | exact okL_1 (Or.inl ⟨by omega, by omega, by omega⟩)
theorem aC_ok (a : Bool) : ∀ s, s ∈ aC a → okCode s := by cases a <;> first | exact okL_0 | exact okL_1 (Or.inr ⟨by omega, by omega⟩)
theorem oC_ok (a : Bool) : ∀ s, s ∈ oC a → okCode s := by cases a <;> first | exact okL_0 | exact okL_1 (Or.inr ⟨by omega, by omega⟩)
theorem pJ_ok (H : CN c N) {one : Int → Rs} (hb : ∀ k, 0 ≤ k → k ≤ N → RB N k (one k)) (ho : ∀ k, 0 ≤ k → k ≤ N → RO (one k)) : ∀ (m : Nat) (a r : Bool) (k : Int), 0 ≤ k → k ≤ N → RO (pJ c one m a r k)
  | 0, a, r, k, h0, h1 => ⟨okL_0, okL_0⟩
  | m + 1, a, r, k, h0, h1 => by
    obtain ⟨a1, a2, a3, a4, a5⟩ := hb k h0 h1
    obtain ⟨o1, o2⟩ := ho k h0 h1
    rw [pJ]
    generalize one k = x at *
    by_cases c1 : x.1 = true
    · rw [if_pos c1]
      by_cases c2 : c x.2.1 = 1019
      · have kN : x.2.1 < N := by
          rcases Int.lt_or_le x.2.1 N with q | q
          · exact q
          · have := H.2.1 _ q; omega
        obtain ⟨b1, b2⟩ := pJ_ok H hb ho m true r (x.2.1 + 1) (by omega) (by omega)
        rw [if_pos c2]
        exact ⟨okL_app (okL_app o1 (aS_ok a)) b1, okL_app (okL_app o2 (aC_ok a)) b2⟩
      · rw [if_neg c2]
        by_cases c3 : c x.2.1 = 1018
        · have kN : x.2.1 < N := by
            rcases Int.lt_or_le x.2.1 N with q | q
            · exact q
            · have := H.2.1 _ q; omega
          obtain ⟨b1, b2⟩ := pJ_ok H hb ho m false true (x.2.1 + 1) (by omega) (by omega)
          rw [if_pos c3]
          exact ⟨okL_app (okL_app (okL_app o1 (aS_ok a)) (oS_ok r)) b1, okL_app (okL_app (okL_app o2 (aC_ok a)) (oC_ok r)) b2⟩
        · rw [if_neg c3]
          exact ⟨okL_app (okL_app o1 (aS_ok a)) (oS_ok r), okL_app (okL_app o2 (aC_ok a)) (oC_ok r)⟩
    · rw [if_neg c1]; exact ⟨o1, o2⟩
theorem pC_ok (H : CN c N) : ∀ (d : Nat) (o k : Int), 0 ≤ k → k ≤ N → RO (pC c d o k)
  | 0, o, k, h0, h1 => ⟨okL_0, okL_0⟩
  | d + 1, o, k, h0, h1 => by
    rw [pC]
    exact pJ_ok H (fun k q0 q1 => pO_b H (fun o k => pC_b H d o k) q0 q1) (fun k q0 q1 => pO_ok H (fun o k => pC_ok H d o k) q0 q1) 252 false false k h0 h1
/-! what it comes to -/
theorem xM_val {e : Int → Int} {s : Int} {st : List Int} (h : (1 ≤ s ∧ s ≤ 6) ∨ (11 ≤ s ∧ s ≤ 13) ∨ 1000 ≤ s) (hl : st.length < 16) : xM e s st = some (e s :: st) := by
  unfold xM
  rw [if_neg (by omega), if_neg (by omega), if_pos hl]
theorem xM_not {e : Int → Int} {a : Int} {st : List Int} (h : a = 0 ∨ a = 1) : xM e 7 (a :: st) = some ((1 - a) :: st) := by
  unfold xM
  rw [if_pos rfl]
  dsimp only
  rw [if_pos h]
theorem xM_j {e : Int → Int} {s a b v : Int} {st : List Int} (hs : jS s) (h : jM s a b = some v) : xM e s (b :: a :: st) = some (v :: st) := by
  unfold xM
  rw [if_neg (by omega), if_pos hs]
  dsimp only
  rw [h]
theorem val_b {e : Int → Int} (he : EnvOK e) {x : Int} (h : 0 ≤ pv x) (hx : 0 ≤ x) : (0 ≤ e (ct (pv x)) ∧ e (ct (pv x)) ≤ 1000) ∧ ((11 ≤ ct (pv x) ∧ ct (pv x) ≤ 13) ∨ 1000 ≤ ct (pv x)) := by
  have hv := pv_b h hx
  rcases hv with q | q
  · have e1 : ct (pv x) = 1000 + pv x := by
      unfold ct
      rw [if_pos (by omega)]
    rw [e1, he.2.2 _ (by omega)]
    omega
  · have : pv x = 1006 ∨ pv x = 1007 ∨ pv x = 1008 := by omega
    rcases this with q | q | q <;> rw [q]
    · exact ⟨he.2.1 12 (by omega) (by omega), Or.inl (by decide)⟩
    · exact ⟨he.2.1 13 (by omega) (by omega), Or.inl (by decide)⟩
    · exact ⟨he.2.1 11 (by omega) (by omega), Or.inl (by decide)⟩
theorem pS_sem1 (hc : ∀ k, 0 ≤ k → 0 ≤ c k ∧ c k ≤ 3001) {e : Int → Int} (he : EnvOK e) : ∀ (m : Nat) (i k u : Int) (st : List Int), 0 ≤ k → 1 ≤ i → (pS c m i k).1 = true → 0 ≤ u → u + 1000 * (pS c m i k).2.2.length ≤ 1000000 → st.length ≤ 14 → ∃ v, 0 ≤ v ∧ v ≤ u + 1000 * (pS c m i k).2.2.length ∧ xMs e ((pS c m i k).2.2.map ct) (u :: st) = some (v :: st)
  | 0, i, k, u, st, h0, h1, h2, h3, h4, h5 => by cases h2
  | m + 1, i, k, u, st, h0, h1, h2, h3, h4, h5 => by
    rw [pS] at h2 h4 ⊢
    by_cases c1 : pv (c k) < 0
    · rw [if_pos c1] at h2; cases h2
    · rw [if_neg c1] at h2 h4 ⊢
      obtain ⟨v1, v2⟩ := val_b he (x := c k) (by omega) (hc k h0).1
      have i0 : ¬ i ≤ 0 := by omega
      have go : ∀ R : List Int, u + e (ct (pv (c k))) ≤ 1000000 → xMs e (([pv (c k), 2000] ++ R).map ct) (u :: st) = xMs e (R.map ct) ((u + e (ct (pv (c k)))) :: st) := fun R hR => by
        have e2 : ct 2000 = 14 := rfl
        show xMs e (ct (pv (c k)) :: ct 2000 :: R.map ct) (u :: st) = _
        rw [xMs, xM_val (by omega) (by rw [List.length_cons]; omega)]
        dsimp only
        rw [xMs, e2, xM_j (v := u + e (ct (pv (c k)))) (by omega) (by unfold jM; rw [if_neg (by omega), if_neg (by omega), if_pos rfl, if_pos hR])]
      by_cases c2 : c (k + 1) = 2043
      · rw [if_pos c2] at h2 h4 ⊢
        dsimp only at h2 h4 ⊢
        rw [if_neg i0] at h4 ⊢
        have el : ((([pv (c k), 2000] : List Int) ++ (pS c m (i + 1) (k + 2)).2.2).length : Int) = 2 + ((pS c m (i + 1) (k + 2)).2.2.length : Int) := by
          rw [List.length_append]
          show (((2 + (pS c m (i + 1) (k + 2)).2.2.length : Nat)) : Int) = _
          omega
        rw [el] at h4 ⊢
        obtain ⟨v, q1, q2, q3⟩ := pS_sem1 hc he m (i + 1) (k + 2) (u + e (ct (pv (c k)))) st (by omega) (by omega) h2 (by omega) (by omega) h5
        refine ⟨v, q1, by omega, ?_⟩
        rw [go _ (by omega)]
        exact q3
      · rw [if_neg c2] at h2 h4 ⊢
        dsimp only at h4 ⊢
        rw [if_neg i0] at h4 ⊢
        have el : (([pv (c k), 2000] : List Int).length : Int) = 2 := rfl
        rw [el] at h4 ⊢
        refine ⟨u + e (ct (pv (c k))), by omega, by omega, ?_⟩
        have := go [] (by omega)
        rw [List.append_nil] at this
        rw [this]
        rfl
theorem pS_sem (H : CN c N) {e : Int → Int} (he : EnvOK e) {k : Int} (h0 : 0 ≤ k) (h1 : k ≤ N) (h2 : (pS c 252 0 k).1 = true) {st : List Int} (h5 : st.length ≤ 14) : ∃ v, xMs e ((pS c 252 0 k).2.2.map ct) st = some (v :: st) := by
  have hb := pS_b H 252 0 k h0 h1 (by have := H.1; omega) (by omega)
  have n0 := H.1
  rw [if_pos (Int.le_refl 0)] at hb
  rw [pS] at h2 hb ⊢
  by_cases c1 : pv (c k) < 0
  · rw [if_pos c1] at h2; cases h2
  · rw [if_neg c1] at h2 hb ⊢
    obtain ⟨v1, v2⟩ := val_b he (x := c k) (by omega) (H.2.2 k h0).1
    have go : ∀ R : List Int, xMs e (([pv (c k)] ++ R).map ct) st = xMs e (R.map ct) (e (ct (pv (c k))) :: st) := fun R => by
      show xMs e (ct (pv (c k)) :: R.map ct) st = _
      rw [xMs, xM_val (by omega) (by omega)]
    by_cases c2 : c (k + 1) = 2043
    · rw [if_pos c2] at h2 hb ⊢
      dsimp only at h2 hb ⊢
      rw [if_pos (Int.le_refl 0)] at hb ⊢
      have el : ((([pv (c k)] : List Int) ++ (pS c 251 (0 + 1) (k + 2)).2.2).length : Int) = 1 + ((pS c 251 (0 + 1) (k + 2)).2.2.length : Int) := by
        rw [List.length_append]
        show (((1 + (pS c 251 (0 + 1) (k + 2)).2.2.length : Nat)) : Int) = _
        omega
      rw [el] at hb
      obtain ⟨v, q1, q2, q3⟩ := pS_sem1 H.2.2 he 251 (0 + 1) (k + 2) (e (ct (pv (c k)))) st (by omega) (by omega) h2 (by omega) (by omega) h5
      exact ⟨v, by rw [go]; exact q3⟩
    · rw [if_neg c2] at h2 hb ⊢
      dsimp only
      rw [if_pos (Int.le_refl 0)]
      refine ⟨e (ct (pv (c k))), ?_⟩
      have := go []
      rw [List.append_nil] at this
      rw [this]
      rfl
theorem pA_sem (H : CN c N) {e : Int → Int} (he : EnvOK e) {k : Int} (h0 : 0 ≤ k) (h1 : k ≤ N) (h2 : (pA c k).1 = true) {st : List Int} (h5 : st.length ≤ 13) : ∃ v, (v = 0 ∨ v = 1) ∧ xMs e ((pA c k).2.2.map ct) st = some (v :: st) := by
  have n0 := H.1
  have b1 := pS_b H 252 0 k h0 h1 (by omega) (by omega)
  unfold pA at h2 ⊢
  by_cases c1 : 1008 ≤ c k ∧ c k ≤ 1013
  · rw [if_pos c1] at h2 ⊢
    have e1 : ct (c k - 8) = c k - 1007 := by
      unfold ct
      rw [if_neg (by omega)]
      repeat' split
      all_goals omega
    refine ⟨e (c k - 1007), he.1 _ (by omega) (by omega), ?_⟩
    show xMs e [ct (c k - 8)] st = _
    rw [e1, xMs, xM_val (by omega) (by omega)]
    rfl
  · rw [if_neg c1] at h2 ⊢
    by_cases c2 : (pS c 252 0 k).1 = false
    · rw [if_pos c2] at h2; cases h2
    · rw [if_neg c2] at h2 ⊢
      have c2' : (pS c 252 0 k).1 = true := by
        revert c2; cases (pS c 252 0 k).1 <;> simp
      by_cases c3 : pH (c (pS c 252 0 k).2.1) < 0
      · rw [if_pos c3] at h2; cases h2
      · rw [if_neg c3] at h2 ⊢
        have kN : (pS c 252 0 k).2.1 < N := by
          rcases Int.lt_or_le (pS c 252 0 k).2.1 N with q | q
          · exact q
          · have := H.2.1 _ q
            rw [this] at c3
            exact absurd (show pH 3000 < 0 by decide) c3
        by_cases c4 : (pS c 252 0 ((pS c 252 0 k).2.1 + 1)).1 = false
        · rw [if_pos c4] at h2; cases h2
        · rw [if_neg c4]
          have c4' : (pS c 252 0 ((pS c 252 0 k).2.1 + 1)).1 = true := by
            revert c4; cases (pS c 252 0 ((pS c 252 0 k).2.1 + 1)).1 <;> simp
          obtain ⟨v1, q1⟩ := pS_sem H he h0 h1 c2' (st := st) (by omega)
          obtain ⟨v2, q2⟩ := pS_sem H he (k := (pS c 252 0 k).2.1 + 1) (by omega) (by omega) c4' (st := v1 :: st) (by rw [List.length_cons]; omega)
          dsimp only
          rw [List.map_append, List.map_append, List.append_assoc, xMs_go q1, xMs_go q2]
          have hh := pH_ok c3
          rcases hh with q | q | q <;> rw [q]
          · refine ⟨b2 (v1 < v2), by have := b2_i (v1 < v2); omega, ?_⟩
            show xMs e [ct 2001] _ = _
            have e2 : ct 2001 = 15 := rfl
            rw [e2, xMs, xM_j (v := b2 (v1 < v2)) (by omega) (by unfold jM; rw [if_neg (by omega), if_neg (by omega), if_neg (by omega), if_pos rfl])]
            rfl
          · refine ⟨b2 (v1 = v2), by have := b2_i (v1 = v2); omega, ?_⟩
            show xMs e [ct 2002] _ = _
            have e2 : ct 2002 = 16 := rfl
            rw [e2, xMs, xM_j (v := b2 (v1 = v2)) (by omega) (by unfold jM; rw [if_neg (by omega), if_neg (by omega), if_neg (by omega), if_neg (by omega), if_pos rfl])]
            rfl
          · refine ⟨b2 (v2 < v1), by have := b2_i (v2 < v1); omega, ?_⟩
            show xMs e [ct 2003] _ = _
            have e2 : ct 2003 = 17 := rfl
            rw [e2, xMs, xM_j (v := b2 (v2 < v1)) (by omega) (by unfold jM; rw [if_neg (by omega), if_neg (by omega), if_neg (by omega), if_neg (by omega), if_neg (by omega)])]
            rfl
/-- both come to the same -/
abbrev SM (e : Int → Int) (x : Rs) (st st' : List Int) : Prop := ∃ v, (v = 0 ∨ v = 1) ∧ xMs e x.2.2.1 st = some (v :: st') ∧ xMs e (x.2.2.2.map ct) st = some (v :: st')
theorem nots_sem (e : Int → Int) (st : List Int) : ∀ (j : Nat) (v : Int), (v = 0 ∨ v = 1) → xMs e (List.replicate j 7) (v :: st) = some ((if j % 2 = 1 then 1 - v else v) :: st)
  | 0, v, _ => rfl
  | j + 1, v, h => by
    rw [List.replicate_succ, xMs, xM_not h]
    dsimp only
    rw [nots_sem e st j (1 - v) (by omega)]
    by_cases c : j % 2 = 1
    · rw [if_pos c, if_neg (by omega)]
      have : 1 - (1 - v) = v := by omega
      rw [this]
    · rw [if_neg c, if_pos (by omega)]
theorem pO_sem (H : CN c N) {rc : Int → Int → Rs} {o : Int} (ho : 0 ≤ o ∧ o ≤ 4) {e : Int → Int} (he : EnvOK e) (hr : ∀ (k : Int) (st : List Int), 0 ≤ k → k ≤ N → o < 4 → (rc (o + 1) k).1 = true → (st.length : Int) ≤ 2 * (o + 1) → SM e (rc (o + 1) k) st st) {k : Int} (h0 : 0 ≤ k) (h1 : k ≤ N) (h2 : (pO c rc o k).1 = true) {st : List Int} (h5 : (st.length : Int) ≤ 2 * o + 2) : SM e (pO c rc o k) st st := by
  have hn := pN_b H 252 k h0 h1
  have key : (pB c rc o (k + pN c 252 k)).1 = true → SM e (pB c rc o (k + pN c 252 k)) st st := by
    have k00 : 0 ≤ k + (pN c 252 k : Int) := by omega
    generalize k + (pN c 252 k : Int) = k0 at *
    unfold pB
    intro h3
    by_cases c1 : c k0 = 2040
    · have kN : k0 < N := by
        rcases Int.lt_or_le k0 N with q | q
        · exact q
        · have := H.2.1 _ q; omega
      rw [if_pos c1] at h3 ⊢
      by_cases c2 : o < 4
      · rw [if_pos c2] at h3 ⊢
        by_cases c3 : (rc (o + 1) (k0 + 1)).1 = true
        · rw [if_pos c3] at h3 ⊢
          by_cases c4 : c (rc (o + 1) (k0 + 1)).2.1 = 2041
          · rw [if_pos c4]
            exact hr (k0 + 1) st (by omega) (by omega) c2 c3 (by omega)
          · rw [if_neg c4] at h3; cases h3
        · rw [if_neg c3] at h3; exact absurd h3 c3
      · rw [if_neg c2] at h3; cases h3
    · rw [if_neg c1] at h3 ⊢
      obtain ⟨v, q1, q2⟩ := pA_sem H he (k := k0) (by omega) hn.1 h3 (st := st) (by omega)
      exact ⟨v, q1, q2, q2⟩
  unfold pO at h2 ⊢
  by_cases c1 : (pB c rc o (k + pN c 252 k)).1 = true
  · obtain ⟨v, q1, q2, q3⟩ := key c1
    rw [if_pos c1]
    refine ⟨if pN c 252 k % 2 = 1 then 1 - v else v, by split <;> omega, ?_, ?_⟩
    · dsimp only
      rw [xMs_go q2, nots_sem e st _ v q1]
    · dsimp only
      rw [List.map_append, xMs_go q3]
      by_cases c2 : pN c 252 k % 2 = 1
      · rw [if_pos c2, if_pos c2]
        have e2 : ct 2004 = 7 := rfl
        show xMs e [ct 2004] _ = _
        rw [e2, xMs, xM_not q1]
        rfl
      · rw [if_neg c2, if_neg c2]
        rfl
  · rw [if_neg c1] at h2
    exact absurd h2 c1
def zV (a : Bool) (v : Int) : List Int := if a then [v] else []
theorem zV_n (a : Bool) (v : Int) : (zV a v).length ≤ 1 := by cases a <;> exact Nat.le_of_ble_eq_true rfl
/-- a waiting and, a waiting or -/
theorem and_sem (e : Int → Int) (a : Bool) {v w : Int} (hv : v = 0 ∨ v = 1) (hw : w = 0 ∨ w = 1) (st : List Int) : ∃ u, (u = 0 ∨ u = 1) ∧ xMs e (aS a) (w :: (zV a v ++ st)) = some (u :: st) := by
  cases a with
  | false => exact ⟨w, hw, rfl⟩
  | true =>
    refine ⟨b2 (v = 1 ∧ w = 1), by have := b2_i (v = 1 ∧ w = 1); omega, ?_⟩
    show xMs e [8] (w :: v :: st) = _
    rw [xMs, xM_j (v := b2 (v = 1 ∧ w = 1)) (by omega) (by unfold jM; rw [if_pos rfl, if_pos ⟨hv, hw⟩])]
    rfl
theorem or_sem (e : Int → Int) (a : Bool) {v w : Int} (hv : v = 0 ∨ v = 1) (hw : w = 0 ∨ w = 1) (st : List Int) : ∃ u, (u = 0 ∨ u = 1) ∧ xMs e (oS a) (w :: (zV a v ++ st)) = some (u :: st) := by
  cases a with
  | false => exact ⟨w, hw, rfl⟩
  | true =>
    refine ⟨b2 (v = 1 ∨ w = 1), by have := b2_i (v = 1 ∨ w = 1); omega, ?_⟩
    show xMs e [9] (w :: v :: st) = _
    rw [xMs, xM_j (v := b2 (v = 1 ∨ w = 1)) (by omega) (by unfold jM; rw [if_neg (by omega), if_pos rfl, if_pos ⟨hv, hw⟩])]
    rfl
theorem aC_ct (a : Bool) : (aC a).map ct = aS a := by cases a <;> rfl
theorem oC_ct (a : Bool) : (oC a).map ct = oS a := by cases a <;> rfl
theorem pJ_sem (H : CN c N) {one : Int → Rs} {o : Int} {e : Int → Int} (hb : ∀ k, 0 ≤ k → k ≤ N → RB N k (one k)) (hs : ∀ (k : Int) (st : List Int), 0 ≤ k → k ≤ N → (one k).1 = true → (st.length : Int) ≤ 2 * o + 2 → SM e (one k) st st) : ∀ (m : Nat) (a r : Bool) (k va vr : Int) (st : List Int), 0 ≤ k → k ≤ N → (pJ c one m a r k).1 = true → (va = 0 ∨ va = 1) → (vr = 0 ∨ vr = 1) → (st.length : Int) ≤ 2 * o → SM e (pJ c one m a r k) (zV a va ++ (zV r vr ++ st)) st
  | 0, a, r, k, va, vr, st, h0, h1, h2, _, _, _ => by cases h2
  | m + 1, a, r, k, va, vr, st, h0, h1, h2, ha, hr, hl => by
    obtain ⟨a1, a2, a3, a4, a5⟩ := hb k h0 h1
    have s0 := hs k (zV a va ++ (zV r vr ++ st)) h0 h1
    have za := zV_n a va
    have zr := zV_n r vr
    rw [pJ] at h2 ⊢
    generalize one k = x at *
    by_cases c1 : x.1 = true
    · rw [if_pos c1] at h2 ⊢
      obtain ⟨w, w1, w2, w3⟩ := s0 c1 (by rw [List.length_append, List.length_append]; omega)
      obtain ⟨u, u1, u2⟩ := and_sem e a ha w1 (zV r vr ++ st)
      have goS : ∀ R : List Int, xMs e (x.2.2.1 ++ aS a ++ R) (zV a va ++ (zV r vr ++ st)) = xMs e R (u :: (zV r vr ++ st)) := fun R => by
        rw [List.append_assoc, xMs_go w2, xMs_go u2]
      have goC : ∀ R : List Int, xMs e ((x.2.2.2 ++ aC a ++ R).map ct) (zV a va ++ (zV r vr ++ st)) = xMs e (R.map ct) (u :: (zV r vr ++ st)) := fun R => by
        rw [List.map_append, List.map_append, aC_ct, List.append_assoc, xMs_go w3, xMs_go u2]
      by_cases c2 : c x.2.1 = 1019
      · have kN : x.2.1 < N := by
          rcases Int.lt_or_le x.2.1 N with q | q
          · exact q
          · have := H.2.1 _ q; omega
        rw [if_pos c2] at h2 ⊢
        obtain ⟨v, v1, v2, v3⟩ := pJ_sem H hb hs m true r (x.2.1 + 1) u vr st (by omega) (by omega) h2 u1 hr hl
        refine ⟨v, v1, ?_, ?_⟩
        · dsimp only; rw [goS]; exact v2
        · dsimp only; rw [goC]; exact v3
      · rw [if_neg c2] at h2 ⊢
        obtain ⟨u', p1, p2⟩ := or_sem e r hr u1 st
        have goS2 : ∀ R : List Int, xMs e (x.2.2.1 ++ aS a ++ oS r ++ R) (zV a va ++ (zV r vr ++ st)) = xMs e R (u' :: st) := fun R => by
          rw [List.append_assoc, goS, xMs_go p2]
        have goC2 : ∀ R : List Int, xMs e ((x.2.2.2 ++ aC a ++ oC r ++ R).map ct) (zV a va ++ (zV r vr ++ st)) = xMs e (R.map ct) (u' :: st) := fun R => by
          rw [List.append_assoc, goC, List.map_append, oC_ct, xMs_go p2]
        by_cases c3 : c x.2.1 = 1018
        · have kN : x.2.1 < N := by
            rcases Int.lt_or_le x.2.1 N with q | q
            · exact q
            · have := H.2.1 _ q; omega
          rw [if_pos c3] at h2 ⊢
          obtain ⟨v, v1, v2, v3⟩ := pJ_sem H hb hs m false true (x.2.1 + 1) 0 u' st (by omega) (by omega) h2 (Or.inl rfl) p1 hl
          refine ⟨v, v1, ?_, ?_⟩
          · dsimp only; rw [goS2]; exact v2
          · dsimp only; rw [goC2]; exact v3
        · rw [if_neg c3]
          refine ⟨u', p1, ?_, ?_⟩
          · dsimp only
            have := goS2 []
            rw [List.append_nil] at this
            rw [this]; rfl
          · dsimp only
            have := goC2 []
            rw [List.append_nil] at this
            rw [this]; rfl
    · rw [if_neg c1] at h2
      exact absurd h2 c1
theorem pC_sem (H : CN c N) {e : Int → Int} (he : EnvOK e) : ∀ (d : Nat) (o k : Int) (st : List Int), 0 ≤ o → o ≤ 4 → 0 ≤ k → k ≤ N → (pC c d o k).1 = true → (st.length : Int) ≤ 2 * o → SM e (pC c d o k) st st
  | 0, o, k, st, _, _, _, _, h, _ => by cases h
  | d + 1, o, k, st, h0, h1, h2, h3, h4, h5 => by
    rw [pC] at h4 ⊢
    exact pJ_sem H (fun k q0 q1 => pO_b H (fun o k => pC_b H d o k) q0 q1) (fun k st q0 q1 q2 q3 => pO_sem H ⟨h0, h1⟩ he (fun k st r0 r1 r2 r3 r4 => pC_sem H he d (o + 1) k st (by omega) (by omega) r0 r1 r3 r4) q0 q1 q2 q3) 252 false false k 0 0 st h2 h3 h4 (Or.inl rfl) (Or.inl rfl) h5
end SEM

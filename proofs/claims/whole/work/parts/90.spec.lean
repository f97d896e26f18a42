/-! ===== how a condition is read: numbers alone. c: the codes of the tokens, N: how many there are ===== -/
/-- the code of a value, else -1 -/
def pv (x : Int) : Int := if x = 1001 then 1008 else if x = 1014 then 1006 else if x = 1015 then 1007 else if 999 < x then -1 else x
/-- a sum from k on: whether it is one, where it ends, its codes -/
def pS (c : Int → Int) : Nat → Int → Int → Bool × Int × List Int
  | 0, _, k => (false, k, [])
  | m + 1, i, k => if pv (c k) < 0 then (false, k, []) else if c (k + 1) = 2043 then ((pS c m (i + 1) (k + 2)).1, (pS c m (i + 1) (k + 2)).2.1, (if i ≤ 0 then [pv (c k)] else [pv (c k), 2000]) ++ (pS c m (i + 1) (k + 2)).2.2) else (true, k + 1, if i ≤ 0 then [pv (c k)] else [pv (c k), 2000])
def pH (x : Int) : Int := if x = 2060 then 2001 else if x = 2061 then 2002 else if x = 2062 then 2003 else -1
/-- what is asked -/
def pA (c : Int → Int) (k : Int) : Bool × Int × List Int :=
  if 1008 ≤ c k ∧ c k ≤ 1013 then (true, k + 1, [c k - 8])
  else if (pS c 252 0 k).1 = false then (false, (pS c 252 0 k).2.1, (pS c 252 0 k).2.2)
  else if pH (c (pS c 252 0 k).2.1) < 0 then (false, (pS c 252 0 k).2.1, (pS c 252 0 k).2.2)
  else if (pS c 252 0 ((pS c 252 0 k).2.1 + 1)).1 = false then (false, (pS c 252 0 ((pS c 252 0 k).2.1 + 1)).2.1, (pS c 252 0 k).2.2 ++ (pS c 252 0 ((pS c 252 0 k).2.1 + 1)).2.2)
  else (true, (pS c 252 0 ((pS c 252 0 k).2.1 + 1)).2.1, (pS c 252 0 k).2.2 ++ (pS c 252 0 ((pS c 252 0 k).2.1 + 1)).2.2 ++ [pH (c (pS c 252 0 k).2.1)])
/-- how many nots from k on -/
def pN (c : Int → Int) : Nat → Int → Nat
  | 0, _ => 0
  | m + 1, k => if c k = 1020 then pN c m (k + 1) + 1 else 0
/-- whether, where, the reference's signs, the class's codes -/
abbrev Rs : Type := Bool × Int × List Int × List Int
/-- what stands behind the nots -/
def pB (c : Int → Int) (rc : Int → Int → Rs) (o k : Int) : Rs :=
  if c k = 2040 then
    (if o < 4 then
      (if (rc (o + 1) (k + 1)).1 = true then
        (if c (rc (o + 1) (k + 1)).2.1 = 2041 then (true, (rc (o + 1) (k + 1)).2.1 + 1, (rc (o + 1) (k + 1)).2.2) else (false, (rc (o + 1) (k + 1)).2))
      else rc (o + 1) (k + 1))
    else (false, k, [], []))
  else ((pA c k).1, (pA c k).2.1, (pA c k).2.2.map ct, (pA c k).2.2)
def pO (c : Int → Int) (rc : Int → Int → Rs) (o k : Int) : Rs :=
  if (pB c rc o (k + pN c 252 k)).1 = true then (true, (pB c rc o (k + pN c 252 k)).2.1, (pB c rc o (k + pN c 252 k)).2.2.1 ++ List.replicate (pN c 252 k) 7, (pB c rc o (k + pN c 252 k)).2.2.2 ++ (if pN c 252 k % 2 = 1 then [2004] else []))
  else pB c rc o (k + pN c 252 k)
def aS (a : Bool) : List Int := if a then [8] else []
def aC (a : Bool) : List Int := if a then [2005] else []
def oS (a : Bool) : List Int := if a then [9] else []
def oC (a : Bool) : List Int := if a then [2006] else []
/-- conditions that are joined -/
def pJ (c : Int → Int) (one : Int → Rs) : Nat → Bool → Bool → Int → Rs
  | 0, _, _, k => (false, k, [], [])
  | m + 1, a, r, k => if (one k).1 = true then
      (if c (one k).2.1 = 1019 then ((pJ c one m true r ((one k).2.1 + 1)).1, (pJ c one m true r ((one k).2.1 + 1)).2.1, (one k).2.2.1 ++ aS a ++ (pJ c one m true r ((one k).2.1 + 1)).2.2.1, (one k).2.2.2 ++ aC a ++ (pJ c one m true r ((one k).2.1 + 1)).2.2.2)
      else if c (one k).2.1 = 1018 then ((pJ c one m false true ((one k).2.1 + 1)).1, (pJ c one m false true ((one k).2.1 + 1)).2.1, (one k).2.2.1 ++ aS a ++ oS r ++ (pJ c one m false true ((one k).2.1 + 1)).2.2.1, (one k).2.2.2 ++ aC a ++ oC r ++ (pJ c one m false true ((one k).2.1 + 1)).2.2.2)
      else (true, (one k).2.1, (one k).2.2.1 ++ aS a ++ oS r, (one k).2.2.2 ++ aC a ++ oC r))
    else one k
def pC (c : Int → Int) : Nat → Int → Int → Rs
  | 0, _, k => (false, k, [], [])
  | d + 1, o, k => pJ c (pO c (pC c d) o) 252 false false k
section SPEC
variable {c : Int → Int} {N : Int}
/-- codes: 3000 is the end, and it is there -/
abbrev CN (c : Int → Int) (N : Int) : Prop := (0 ≤ N ∧ N ≤ 250) ∧ (∀ k, N ≤ k → c k = 3000) ∧ ∀ k, 0 ≤ k → 0 ≤ c k ∧ c k ≤ 3001
theorem pv_lt (H : CN c N) {k : Int} (h : 0 ≤ pv (c k)) : k < N := by
  rcases Int.lt_or_le k N with q | q
  · exact q
  · have := H.2.1 k q
    rw [this] at h
    exact absurd h (by decide)
theorem pv_b {x : Int} (h : 0 ≤ pv x) (hx : 0 ≤ x) : (0 ≤ pv x ∧ pv x ≤ 999) ∨ (1006 ≤ pv x ∧ pv x ≤ 1008) := by
  unfold pv at h ⊢
  repeat' split
  all_goals omega
theorem pS_b (H : CN c N) : ∀ (m : Nat) (i k : Int), 0 ≤ k → k ≤ N → N - k < m → 0 ≤ i → k ≤ (pS c m i k).2.1 ∧ (pS c m i k).2.1 ≤ N ∧ ((pS c m i k).2.2.length : Int) ≤ (pS c m i k).2.1 - k + (if i ≤ 0 then 0 else 1) ∧ ((pS c m i k).1 = true → k < (pS c m i k).2.1)
  | 0, i, k, h0, h1, h2, h3 => by omega
  | m + 1, i, k, h0, h1, h2, h3 => by
    have el : ((if i ≤ 0 then [pv (c k)] else [pv (c k), 2000] : List Int).length : Int) = if i ≤ 0 then 1 else 2 := by split <;> rfl
    rw [pS]
    by_cases c1 : pv (c k) < 0
    · rw [if_pos c1]
      refine ⟨Int.le_refl k, h1, ?_, fun q => by cases q⟩
      show ((0 : Nat) : Int) ≤ k - k + _
      split <;> omega
    · rw [if_neg c1]
      have kN := pv_lt H (k := k) (by omega)
      by_cases c2 : c (k + 1) = 2043
      · have k1N : k + 1 < N := by
          rcases Int.lt_or_le (k + 1) N with q | q
          · exact q
          · have := H.2.1 _ q; omega
        obtain ⟨a1, a2, a3, a4⟩ := pS_b H m (i + 1) (k + 2) (by omega) (by omega) (by omega) (by omega)
        rw [if_neg (show ¬ i + 1 ≤ 0 by omega)] at a3
        rw [if_pos c2]
        dsimp only
        rw [List.length_append]
        refine ⟨by omega, a2, ?_, fun _ => by omega⟩
        rw [Int.natCast_add, el]
        split <;> omega
      · rw [if_neg c2]
        dsimp only
        refine ⟨by omega, by omega, ?_, fun _ => by omega⟩
        rw [el]
        split <;> omega
theorem pA_b (H : CN c N) {k : Int} (h0 : 0 ≤ k) (h1 : k ≤ N) : k ≤ (pA c k).2.1 ∧ (pA c k).2.1 ≤ N ∧ ((pA c k).2.2.length : Int) ≤ (pA c k).2.1 - k ∧ ((pA c k).1 = true → k < (pA c k).2.1) := by
  have n0 := H.1
  have b1 := pS_b H 252 0 k h0 h1 (by omega) (by omega)
  rw [if_pos (Int.le_refl 0)] at b1
  unfold pA
  by_cases c1 : 1008 ≤ c k ∧ c k ≤ 1013
  · rw [if_pos c1]
    have kN : k < N := by
      rcases Int.lt_or_le k N with q | q
      · exact q
      · have := H.2.1 _ q; omega
    refine ⟨by dsimp only; omega, by dsimp only; omega, ?_, fun _ => by dsimp only; omega⟩
    show ((1 : Nat) : Int) ≤ k + 1 - k
    omega
  · rw [if_neg c1]
    by_cases c2 : (pS c 252 0 k).1 = false
    · rw [if_pos c2]
      dsimp only
      exact ⟨b1.1, b1.2.1, by omega, fun q => by cases q⟩
    · rw [if_neg c2]
      generalize pS c 252 0 k = s1 at *
      by_cases c3 : pH (c s1.2.1) < 0
      · rw [if_pos c3]
        dsimp only
        exact ⟨b1.1, b1.2.1, by omega, fun q => by cases q⟩
      · rw [if_neg c3]
        have kN : s1.2.1 < N := by
          rcases Int.lt_or_le s1.2.1 N with q | q
          · exact q
          · have := H.2.1 _ q
            rw [this] at c3
            exact absurd (show pH 3000 < 0 by decide) c3
        have b2 := pS_b H 252 0 (s1.2.1 + 1) (by omega) (by omega) (by omega) (by omega)
        rw [if_pos (Int.le_refl 0)] at b2
        by_cases c4 : (pS c 252 0 (s1.2.1 + 1)).1 = false
        · rw [if_pos c4]
          dsimp only
          rw [List.length_append]
          exact ⟨by omega, b2.2.1, by omega, fun q => by cases q⟩
        · rw [if_neg c4]
          dsimp only
          rw [List.length_append, List.length_append]
          have b3 := b2.2.2.2 (by revert c4; cases (pS c 252 0 (s1.2.1 + 1)).1 <;> simp)
          refine ⟨by omega, b2.2.1, ?_, fun _ => by omega⟩
          show (((s1.2.2.length + (pS c 252 0 (s1.2.1 + 1)).2.2.length + 1 : Nat)) : Int) ≤ _
          omega
theorem pN_b (H : CN c N) : ∀ (m : Nat) (k : Int), 0 ≤ k → k ≤ N → k + pN c m k ≤ N ∧ (∀ i : Nat, i < pN c m k → c (k + i) = 1020) ∧ (pN c m k < m → c (k + pN c m k) ≠ 1020)
  | 0, k, h0, h1 => ⟨by show k + ((0 : Nat) : Int) ≤ N; omega, fun i hi => absurd hi (Nat.not_lt_zero _), fun q => absurd q (Nat.not_lt_zero _)⟩
  | m + 1, k, h0, h1 => by
    rw [pN]
    by_cases e : c k = 1020
    · rw [if_pos e]
      have kN : k < N := by
        rcases Int.lt_or_le k N with q | q
        · exact q
        · have := H.2.1 _ q; omega
      obtain ⟨a, b, d⟩ := pN_b H m (k + 1) (by omega) (by omega)
      refine ⟨by omega, fun i hi => ?_, fun q => ?_⟩
      · match i, hi with
        | 0, _ => rw [Int.natCast_zero, Int.add_zero]; exact e
        | i + 1, hi =>
          have := b i (by omega)
          have e2 : k + ((i + 1 : Nat) : Int) = k + 1 + i := by omega
          rw [e2]; exact this
      · have := d (by omega)
        have e2 : k + ((pN c m (k + 1) + 1 : Nat) : Int) = k + 1 + pN c m (k + 1) := by omega
        rw [e2]; exact this
    · rw [if_neg e]
      refine ⟨by omega, fun i hi => by omega, fun _ => ?_⟩
      rw [Int.natCast_zero, Int.add_zero]; exact e
theorem pN_n (H : CN c N) {k : Int} (h0 : 0 ≤ k) (h1 : k ≤ N) : pN c 252 k < 252 ∧ c (k + pN c 252 k) ≠ 1020 := by
  have hn := pN_b H 252 k h0 h1
  have n0 := H.1
  have h : pN c 252 k < 252 := by omega
  exact ⟨h, hn.2.2 h⟩
/-- where a reading ends, and how much it told -/
abbrev RB (N k : Int) (x : Rs) : Prop := k ≤ x.2.1 ∧ x.2.1 ≤ N ∧ (x.2.2.1.length : Int) ≤ x.2.1 - k ∧ (x.2.2.2.length : Int) ≤ x.2.1 - k ∧ (x.1 = true → k < x.2.1)
theorem pB_b (H : CN c N) {rc : Int → Int → Rs} (hr : ∀ o k, 0 ≤ k → k ≤ N → RB N k (rc o k)) {o k : Int} (h0 : 0 ≤ k) (h1 : k ≤ N) : RB N k (pB c rc o k) := by
  unfold pB
  by_cases c1 : c k = 2040
  · have kN : k < N := by
      rcases Int.lt_or_le k N with q | q
      · exact q
      · have := H.2.1 _ q; omega
    rw [if_pos c1]
    by_cases c2 : o < 4
    · rw [if_pos c2]
      obtain ⟨a1, a2, a3, a4, a5⟩ := hr (o + 1) (k + 1) (by omega) (by omega)
      generalize rc (o + 1) (k + 1) = x at *
      by_cases c3 : x.1 = true
      · rw [if_pos c3]
        by_cases c4 : c x.2.1 = 2041
        · have kN2 : x.2.1 < N := by
            rcases Int.lt_or_le x.2.1 N with q | q
            · exact q
            · have := H.2.1 _ q; omega
          rw [if_pos c4]
          exact ⟨by dsimp only; omega, by dsimp only; omega, by dsimp only; omega, by dsimp only; omega, fun _ => by dsimp only; omega⟩
        · rw [if_neg c4]
          exact ⟨by dsimp only; omega, by dsimp only; omega, by dsimp only; omega, by dsimp only; omega, fun q => by cases q⟩
      · rw [if_neg c3]
        exact ⟨by omega, by omega, by omega, by omega, fun q => absurd q c3⟩
    · rw [if_neg c2]
      exact ⟨Int.le_refl k, h1, by show ((0 : Nat) : Int) ≤ k - k; omega, by show ((0 : Nat) : Int) ≤ k - k; omega, fun q => by cases q⟩
  · rw [if_neg c1]
    obtain ⟨a1, a2, a3, a4⟩ := pA_b H h0 h1
    exact ⟨a1, a2, by dsimp only; rw [List.length_map]; exact a3, a3, a4⟩
theorem pO_b (H : CN c N) {rc : Int → Int → Rs} (hr : ∀ o k, 0 ≤ k → k ≤ N → RB N k (rc o k)) {o k : Int} (h0 : 0 ≤ k) (h1 : k ≤ N) : RB N k (pO c rc o k) := by
  have hn := pN_b H 252 k h0 h1
  obtain ⟨a1, a2, a3, a4, a5⟩ := pB_b H hr (o := o) (k := k + pN c 252 k) (by omega) hn.1
  unfold pO
  generalize pB c rc o (k + pN c 252 k) = x at *
  by_cases c1 : x.1 = true
  · rw [if_pos c1]
    have := a5 c1
    refine ⟨by dsimp only; omega, by dsimp only; omega, ?_, ?_, fun _ => by dsimp only; omega⟩
    · dsimp only
      rw [List.length_append, List.length_replicate]
      omega
    · dsimp only
      rw [List.length_append]
      split
      · rw [List.length_singleton]; omega
      · rw [List.length_nil]; omega
  · rw [if_neg c1]
    exact ⟨by omega, by omega, by omega, by omega, fun q => absurd q c1⟩
theorem aS_n (a : Bool) : ((aS a).length : Int) = if a then 1 else 0 := by cases a <;> rfl
theorem aC_n (a : Bool) : ((aC a).length : Int) = if a then 1 else 0 := by cases a <;> rfl
theorem oS_n (a : Bool) : ((oS a).length : Int) = if a then 1 else 0 := by cases a <;> rfl
theorem oC_n (a : Bool) : ((oC a).length : Int) = if a then 1 else 0 := by cases a <;> rfl
def z1 (a : Bool) : Int := if a then 1 else 0
theorem z1_b (a : Bool) : 0 ≤ z1 a ∧ z1 a ≤ 1 := by cases a <;> decide
theorem pJ_b (H : CN c N) {one : Int → Rs} (ho : ∀ k, 0 ≤ k → k ≤ N → RB N k (one k)) : ∀ (m : Nat) (a r : Bool) (k : Int), 0 ≤ k → k ≤ N → k ≤ (pJ c one m a r k).2.1 ∧ (pJ c one m a r k).2.1 ≤ N ∧ ((pJ c one m a r k).2.2.1.length : Int) ≤ (pJ c one m a r k).2.1 - k + z1 a + z1 r ∧ ((pJ c one m a r k).2.2.2.length : Int) ≤ (pJ c one m a r k).2.1 - k + z1 a + z1 r ∧ ((pJ c one m a r k).1 = true → k < (pJ c one m a r k).2.1)
  | 0, a, r, k, h0, h1 => by
    have := z1_b a
    have := z1_b r
    exact ⟨Int.le_refl k, h1, by show ((0 : Nat) : Int) ≤ k - k + z1 a + z1 r; omega, by show ((0 : Nat) : Int) ≤ k - k + z1 a + z1 r; omega, fun q => by cases q⟩
  | m + 1, a, r, k, h0, h1 => by
    have za := z1_b a
    have zr := z1_b r
    have z0 : z1 false = 0 := rfl
    have zt : z1 true = 1 := rfl
    have e1 : ((aS a).length : Int) = z1 a := aS_n a
    have e2 : ((aC a).length : Int) = z1 a := aC_n a
    have e3 : ((oS r).length : Int) = z1 r := oS_n r
    have e4 : ((oC r).length : Int) = z1 r := oC_n r
    obtain ⟨a1, a2, a3, a4, a5⟩ := ho k h0 h1
    rw [pJ]
    generalize one k = x at *
    by_cases c1 : x.1 = true
    · rw [if_pos c1]
      have a6 := a5 c1
      by_cases c2 : c x.2.1 = 1019
      · have kN : x.2.1 < N := by
          rcases Int.lt_or_le x.2.1 N with q | q
          · exact q
          · have := H.2.1 _ q; omega
        obtain ⟨b1, b2, b3, b4, b5⟩ := pJ_b H ho m true r (x.2.1 + 1) (by omega) (by omega)
        rw [if_pos c2]
        dsimp only
        rw [List.length_append, List.length_append, List.length_append, List.length_append]
        exact ⟨by omega, by omega, by omega, by omega, fun _ => by omega⟩
      · rw [if_neg c2]
        by_cases c3 : c x.2.1 = 1018
        · have kN : x.2.1 < N := by
            rcases Int.lt_or_le x.2.1 N with q | q
            · exact q
            · have := H.2.1 _ q; omega
          obtain ⟨b1, b2, b3, b4, b5⟩ := pJ_b H ho m false true (x.2.1 + 1) (by omega) (by omega)
          rw [if_pos c3]
          dsimp only
          rw [List.length_append, List.length_append, List.length_append, List.length_append, List.length_append, List.length_append]
          exact ⟨by omega, by omega, by omega, by omega, fun _ => by omega⟩
        · rw [if_neg c3]
          dsimp only
          rw [List.length_append, List.length_append, List.length_append, List.length_append]
          exact ⟨by omega, by omega, by omega, by omega, fun _ => by omega⟩
    · rw [if_neg c1]
      exact ⟨by omega, by omega, by omega, by omega, fun q => absurd q c1⟩
theorem pC_b (H : CN c N) : ∀ (d : Nat) (o k : Int), 0 ≤ k → k ≤ N → RB N k (pC c d o k)
  | 0, o, k, h0, h1 => ⟨Int.le_refl k, h1, by show ((0 : Nat) : Int) ≤ k - k; omega, by show ((0 : Nat) : Int) ≤ k - k; omega, fun q => by cases q⟩
  | d + 1, o, k, h0, h1 => by
    obtain ⟨a1, a2, a3, a4, a5⟩ := pJ_b H (fun k q0 q1 => pO_b H (fun o k => pC_b H d o k) (o := o) q0 q1) 252 false false k h0 h1
    have z0 : z1 false = 0 := rfl
    rw [pC]
    exact ⟨a1, a2, by omega, by omega, a5⟩
end SPEC

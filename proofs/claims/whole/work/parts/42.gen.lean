/-! ===== loops as folds; truth as 0 and 1 ===== -/
def b2 (P : Prop) [Decidable P] : Int := if P then 1 else 0
theorem b2_0 {P : Prop} [Decidable P] : (iI (b2 P) = iI 0) = ¬ P := by
  unfold b2
  by_cases h : P <;> simp [h] <;> decide
theorem b2_1 {P : Prop} [Decidable P] : (iI (b2 P) = iI 1) = P := by
  unfold b2
  by_cases h : P <;> simp [h] <;> decide
theorem b2_t {P : Prop} [Decidable P] (h : P) : b2 P = 1 := if_pos h
theorem b2_f {P : Prop} [Decidable P] (h : ¬ P) : b2 P = 0 := if_neg h
theorem b2_i (P : Prop) [Decidable P] : 0 ≤ b2 P ∧ b2 P ≤ 1 := by
  unfold b2
  split <;> omega
theorem b2_c {P Q : Prop} [Decidable P] [Decidable Q] (h : P ↔ Q) : b2 P = b2 Q := by
  unfold b2
  simp only [h]
theorem mz_b {P : Prop} [Decidable P] (s : gH) : mz (iI (b2 P)) s = some (iI (b2 P), s) := by
  unfold b2
  split <;> rfl
theorem mz_0 (s : gH) : mz (iI 0) s = some (iI 0, s) := rfl
theorem mz_1 (s : gH) : mz (iI 1) s = some (iI 1, s) := rfl
theorem FU_lt {n : Nat} (h : n < 90000) : n < FU := by unfold FU; omega
/-- m steps from i on -/
def fo {A : Type} (st : A → Int → A) : Nat → A → Int → A
  | 0, a, _ => a
  | m + 1, a, i => fo st m (st a i) (i + 1)
theorem lop {A X : Type} {F : Nat → A → Int → X} {K : A → X} {N : Int} {st : A → Int → A} {I : A → Int → Prop}
    (he : ∀ n a, I a N → F (n + 1) a N = K a)
    (hs : ∀ n a i, I a i → 0 ≤ i → i < N → F (n + 1) a i = F n (st a i) (i + 1) ∧ I (st a i) (i + 1)) :
    ∀ (m n : Nat) (a : A) (i : Int), I a i → 0 ≤ i → N - i = m → m < n → F n a i = K (fo st m a i) ∧ I (fo st m a i) N
  | 0, n + 1, a, i, hI, h0, hm, hn => by
    have e : i = N := by omega
    rw [e] at hI ⊢
    exact ⟨he n a hI, hI⟩
  | m + 1, n + 1, a, i, hI, h0, hm, hn => by
    obtain ⟨h1, h2⟩ := hs n a i hI h0 (by omega)
    rw [h1]
    exact lop he hs m n (st a i) (i + 1) h2 (by omega) (by omega) (by omega)
/-- the same, where it may end ahead -/
theorem lopx {A X : Type} {F : Nat → A → Int → X} {K : A → X} {N : Int} {st : A → Int → A} {I : A → Int → Prop} {E : A → Prop}
    (he : ∀ n a i, I a i → 0 ≤ i → i = N ∨ (i < N ∧ E a) → F (n + 1) a i = K a)
    (hf : ∀ a i, E a → st a i = a)
    (hk : ∀ a i, I a i → E a → I a (i + 1))
    (hs : ∀ n a i, I a i → 0 ≤ i → i < N → ¬ E a → F (n + 1) a i = F n (st a i) (i + 1) ∧ I (st a i) (i + 1)) :
    ∀ (m n : Nat) (a : A) (i : Int), I a i → 0 ≤ i → N - i = m → m < n → F n a i = K (fo st m a i) ∧ I (fo st m a i) N
  | 0, n + 1, a, i, hI, h0, hm, hn => by
    have e : i = N := by omega
    refine ⟨he n a i hI h0 (Or.inl e), ?_⟩
    rw [← e]; exact hI
  | m + 1, n + 1, a, i, hI, h0, hm, hn => by
    by_cases hE : E a
    · rw [he n a i hI h0 (Or.inr ⟨by omega, hE⟩)]
      have q : ∀ (m : Nat) (i : Int), I a i → N - i = m → fo st m a i = a ∧ I a N := by
        intro m
        induction m with
        | zero => intro i hI hm; exact ⟨rfl, by have e : i = N := by omega
                                                rw [← e]; exact hI⟩
        | succ m ih =>
          intro i hI hm
          have := ih (i + 1) (hk a i hI hE) (by omega)
          exact ⟨by rw [fo, hf a i hE]; exact this.1, this.2⟩
      have := q (m + 1) i hI (by omega)
      rw [this.1]; exact ⟨rfl, this.2⟩
    · obtain ⟨h1, h2⟩ := hs n a i hI h0 (by omega) hE
      rw [h1]
      exact lopx he hf hk hs m n (st a i) (i + 1) h2 (by omega) (by omega) (by omega)
/-- the last below n at which P holds, else -1 -/
def lst (P : Int → Prop) [DecidablePred P] (n : Nat) : Int := fo (fun a i => if P i then i else a) n (-1) 0
def sumN (f : Int → Int) (n : Nat) : Int := fo (fun a i => a + f i) n 0 0
theorem fo_succ {A : Type} (st : A → Int → A) : ∀ (m : Nat) (a : A) (i : Int), fo st (m + 1) a i = st (fo st m a i) (i + m)
  | 0, a, i => by simp [fo]
  | m + 1, a, i => by
    rw [fo, fo_succ st m (st a i) (i + 1)]
    have e : i + 1 + (m : Int) = i + ((m + 1 : Nat) : Int) := by omega
    rw [e]; rfl
theorem lst_0 (P : Int → Prop) [DecidablePred P] : lst P 0 = -1 := rfl
theorem lst_s (P : Int → Prop) [DecidablePred P] (n : Nat) : lst P (n + 1) = if P n then (n : Int) else lst P n := by
  unfold lst
  rw [fo_succ, Int.zero_add]
theorem sumN_s (f : Int → Int) (n : Nat) : sumN f (n + 1) = sumN f n + f n := by
  unfold sumN
  rw [fo_succ, Int.zero_add]
theorem lst_le (P : Int → Prop) [DecidablePred P] : ∀ n : Nat, -1 ≤ lst P n ∧ lst P n < n
  | 0 => by rw [lst_0]; omega
  | n + 1 => by
    have := lst_le P n
    rw [lst_s]
    split <;> omega
theorem lst_ok (P : Int → Prop) [DecidablePred P] : ∀ n : Nat, 0 ≤ lst P n → P (lst P n)
  | 0, h => by rw [lst_0] at h; omega
  | n + 1, h => by
    rw [lst_s] at h ⊢
    split
    · assumption
    · rename_i h1
      rw [if_neg h1] at h
      exact lst_ok P n h
theorem lst_no (P : Int → Prop) [DecidablePred P] : ∀ (n : Nat) (j : Int), lst P n < j → 0 ≤ j → j < n → ¬ P j
  | 0, j, _, h0, h1 => by omega
  | n + 1, j, h, h0, h1 => by
    rw [lst_s] at h
    split at h
    · omega
    · rename_i h2
      by_cases e : j = n
      · subst e; exact h2
      · exact lst_no P n j h h0 (by omega)
/-- what it is, told from outside -/
theorem lst_is (P : Int → Prop) [DecidablePred P] {n : Nat} {t : Int} (h : -1 ≤ t) (h1 : t < n) (h2 : 0 ≤ t → P t) (h3 : ∀ j, t < j → 0 ≤ j → j < n → ¬ P j) : lst P n = t := by
  have a1 := lst_le P n
  rcases Int.lt_trichotomy (lst P n) t with h4 | h4 | h4
  · exact absurd (h2 (by omega)) (lst_no P n t h4 (by omega) h1)
  · exact h4
  · exact absurd (lst_ok P n (by omega)) (h3 _ h4 (by omega) a1.2)
theorem lst_c {P Q : Int → Prop} [DecidablePred P] [DecidablePred Q] {n : Nat} (h : ∀ i : Int, 0 ≤ i → i < n → (P i ↔ Q i)) : lst P n = lst Q n := by
  refine lst_is P (lst_le Q n).1 (lst_le Q n).2 (fun h0 => (h _ h0 (lst_le Q n).2).mpr (lst_ok Q n h0)) (fun j h1 h2 h3 q => lst_no Q n j h1 h2 h3 ((h j h2 h3).mp q))
theorem sumN_c {f g : Int → Int} : ∀ {n : Nat}, (∀ i : Int, 0 ≤ i → i < n → f i = g i) → sumN f n = sumN g n
  | 0, _ => rfl
  | n + 1, h => by rw [sumN_s, sumN_s, sumN_c (n := n) (fun i h0 h1 => h i h0 (by omega)), h n (by omega) (by omega)]
theorem sumN_b {f : Int → Int} {c d : Int} : ∀ {n : Nat}, (∀ i : Int, 0 ≤ i → i < n → c ≤ f i ∧ f i ≤ d) → n * c ≤ sumN f n ∧ sumN f n ≤ n * d
  | 0, _ => by simp [sumN, fo]
  | n + 1, h => by
    have h1 := sumN_b (n := n) (fun i h0 h1 => h i h0 (by omega))
    have h2 := h n (by omega) (by omega)
    rw [sumN_s]
    have e1 : ((n + 1 : Nat) : Int) * c = n * c + c := by rw [Int.natCast_add, Int.add_mul]; simp
    have e2 : ((n + 1 : Nat) : Int) * d = n * d + d := by rw [Int.natCast_add, Int.add_mul]; simp
    omega

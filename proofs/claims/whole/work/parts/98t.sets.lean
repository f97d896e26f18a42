/-! ===== sets as numbers: the next greater one of as many ===== -/
def nLo (x : Nat) : Nat := Nat.land x (Nat.sub 4294967296 x)
def nMv (x : Nat) : Nat := Nat.add x (nLo x)
def nLz (x : Nat) : Nat := Nat.log2 (nLo x)
def nXt (x : Nat) : Nat := Nat.lor (nMv x) (Nat.shiftRight (Nat.xor x (nMv x)) (Nat.add 2 (nLz x)))
def allB (f : Nat → Bool) : Nat → Nat → Bool
  | 0, b => f b
  | d + 1, b => and (allB f d b) (allB f d (Nat.add b (Nat.pow 2 d)))
theorem allB_of {f : Nat → Bool} : ∀ {d b : Nat}, allB f d b = true → ∀ x, b ≤ x → x < b + 2 ^ d → f x = true
  | 0, b, h, x, h0, h1 => by
    have e : x = b := by
      have : (2 : Nat) ^ 0 = 1 := rfl
      omega
    rw [e]; exact h
  | d + 1, b, h, x, h0, h1 => by
    have h : and (allB f d b) (allB f d (b + 2 ^ d)) = true := h
    rw [Bool.and_eq_true] at h
    have e : (2 : Nat) ^ (d + 1) = 2 ^ d + 2 ^ d := by rw [Nat.pow_succ]; omega
    by_cases c : x < b + 2 ^ d
    · exact allB_of h.1 x h0 c
    · exact allB_of h.2 x (by omega) (by omega)
/-- behind a greater bit it is the same -/
def ckA (m r : Nat) : Bool := or (Nat.beq r 0) (or (Nat.ble (Nat.pow 2 m) (nXt r)) (Nat.beq (nXt (Nat.add (Nat.pow 2 m) r)) (Nat.add (Nat.pow 2 m) (nXt r))))
theorem ckA_of {m r : Nat} (h : ckA m r = true) (h0 : 0 < r) (h1 : nXt r < 2 ^ m) : nXt (2 ^ m + r) = 2 ^ m + nXt r := by
  unfold ckA at h
  rw [Bool.or_eq_true, Bool.or_eq_true] at h
  rcases h with h | h | h
  · have := Nat.eq_of_beq_eq_true h
    omega
  · have := Nat.le_of_ble_eq_true h
    have e : Nat.pow 2 m = 2 ^ m := rfl
    omega
  · exact Nat.eq_of_beq_eq_true h
theorem ckA_15a : allB (ckA 15) 12 0 = true := by decide +kernel
theorem ckA_15b : allB (ckA 15) 12 4096 = true := by decide +kernel
theorem ckA_15c : allB (ckA 15) 12 8192 = true := by decide +kernel
theorem ckA_15d : allB (ckA 15) 12 12288 = true := by decide +kernel
theorem ckA_15e : allB (ckA 15) 12 16384 = true := by decide +kernel
theorem ckA_15f : allB (ckA 15) 12 20480 = true := by decide +kernel
theorem ckA_15g : allB (ckA 15) 12 24576 = true := by decide +kernel
theorem ckA_15h : allB (ckA 15) 12 28672 = true := by decide +kernel
theorem ckA_14a : allB (ckA 14) 12 0 = true := by decide +kernel
theorem ckA_14b : allB (ckA 14) 12 4096 = true := by decide +kernel
theorem ckA_14c : allB (ckA 14) 12 8192 = true := by decide +kernel
theorem ckA_14d : allB (ckA 14) 12 12288 = true := by decide +kernel
theorem ckA_13a : allB (ckA 13) 12 0 = true := by decide +kernel
theorem ckA_13b : allB (ckA 13) 12 4096 = true := by decide +kernel
theorem ckA_12 : allB (ckA 12) 12 0 = true := by decide +kernel
theorem ckA_lo : allB (fun m => allB (ckA m) m 0) 3 0 = true := by decide +kernel
theorem ckA_mi : allB (fun m => allB (ckA (Nat.add 8 m)) (Nat.add 8 m) 0) 2 0 = true := by decide +kernel
theorem ckA_all {m r : Nat} (hm : m < 16) (hr : r < 2 ^ m) : ckA m r = true := by
  by_cases c : m < 8
  · exact allB_of (allB_of ckA_lo m (Nat.zero_le m) (by have : (2 : Nat) ^ 3 = 8 := rfl; omega)) r (Nat.zero_le r) (by omega)
  · by_cases c2 : m < 12
    · have h := allB_of ckA_mi (m - 8) (Nat.zero_le _) (by have : (2 : Nat) ^ 2 = 4 := rfl; omega)
      have e : Nat.add 8 (m - 8) = m := by show 8 + (m - 8) = m; omega
      have h : allB (ckA (Nat.add 8 (m - 8))) (Nat.add 8 (m - 8)) 0 = true := h
      rw [e] at h
      exact allB_of h r (Nat.zero_le r) (by omega)
    · have e12 : (2 : Nat) ^ 12 = 4096 := rfl
      have e13 : (2 : Nat) ^ 13 = 8192 := rfl
      have e14 : (2 : Nat) ^ 14 = 16384 := rfl
      have e15 : (2 : Nat) ^ 15 = 32768 := rfl
      have c3 : m = 12 ∨ m = 13 ∨ m = 14 ∨ m = 15 := by omega
      rcases c3 with rfl | rfl | rfl | rfl
      · exact allB_of ckA_12 r (by omega) (by omega)
      · by_cases d : r < 4096
        · exact allB_of ckA_13a r (by omega) (by omega)
        · exact allB_of ckA_13b r (by omega) (by omega)
      · have : r < 4096 ∨ (4096 ≤ r ∧ r < 8192) ∨ (8192 ≤ r ∧ r < 12288) ∨ 12288 ≤ r := by omega
        rcases this with d | d | d | d
        · exact allB_of ckA_14a r (by omega) (by omega)
        · exact allB_of ckA_14b r (by omega) (by omega)
        · exact allB_of ckA_14c r (by omega) (by omega)
        · exact allB_of ckA_14d r (by omega) (by omega)
      · have : r < 4096 ∨ (4096 ≤ r ∧ r < 8192) ∨ (8192 ≤ r ∧ r < 12288) ∨ (12288 ≤ r ∧ r < 16384) ∨ (16384 ≤ r ∧ r < 20480) ∨ (20480 ≤ r ∧ r < 24576) ∨ (24576 ≤ r ∧ r < 28672) ∨ 28672 ≤ r := by omega
        rcases this with d | d | d | d | d | d | d | d
        · exact allB_of ckA_15a r (by omega) (by omega)
        · exact allB_of ckA_15b r (by omega) (by omega)
        · exact allB_of ckA_15c r (by omega) (by omega)
        · exact allB_of ckA_15d r (by omega) (by omega)
        · exact allB_of ckA_15e r (by omega) (by omega)
        · exact allB_of ckA_15f r (by omega) (by omega)
        · exact allB_of ckA_15g r (by omega) (by omega)
        · exact allB_of ckA_15h r (by omega) (by omega)
/-- behind the last set of m things comes the first with a thing more -/
theorem ckB : ∀ m : Fin 16, ∀ n : Fin 16, n.val ≤ m.val → nXt (2 ^ (m.val + 1) - 2 ^ (m.val - n.val)) = 2 ^ (m.val + 1) + (2 ^ n.val - 1) := by decide +kernel
/-- how many ways -/
def bC : Nat → Nat → Nat
  | _, 0 => 1
  | 0, _ + 1 => 0
  | m + 1, n + 1 => bC m (n + 1) + bC m n
theorem bC_0 (m : Nat) : bC m 0 = 1 := by cases m <;> rfl
theorem bC_no : ∀ m n : Nat, m < n → bC m n = 0
  | 0, n + 1, _ => rfl
  | m + 1, n + 1, h => by
    show bC m (n + 1) + bC m n = 0
    rw [bC_no m (n + 1) (by omega), bC_no m n (by omega)]
theorem bC_pos : ∀ m n : Nat, n ≤ m → 0 < bC m n
  | m, 0, _ => by rw [bC_0]; omega
  | m + 1, n + 1, h => by
    show 0 < bC m (n + 1) + bC m n
    have := bC_pos m n (by omega)
    omega
def itNx : Nat → Nat → Nat
  | 0, s => s
  | k + 1, s => nXt (itNx k s)
theorem itNx_add (a : Nat) : ∀ (b s : Nat), itNx (a + b) s = itNx b (itNx a s)
  | 0, s => rfl
  | b + 1, s => by
    show nXt (itNx (a + b) s) = nXt (itNx b (itNx a s))
    rw [itNx_add a b s]
theorem tw_pos (m : Nat) : 0 < (2 : Nat) ^ m := Nat.pow_pos (by omega)
theorem tw_le {a b : Nat} (h : a ≤ b) : (2 : Nat) ^ a ≤ 2 ^ b := Nat.pow_le_pow_right (by omega) h
theorem tw_s (m : Nat) : (2 : Nat) ^ (m + 1) = 2 ^ m + 2 ^ m := by rw [Nat.pow_succ]; omega
def chA (m n : Nat) : Prop := ∀ i, i < bC m n → itNx i (2 ^ n - 1) < 2 ^ m ∧ (0 < n → 0 < itNx i (2 ^ n - 1))
def chB (m n : Nat) : Prop := itNx (bC m n - 1) (2 ^ n - 1) = 2 ^ m - 2 ^ (m - n)
def chC (m n : Nat) : Prop := itNx (bC m (n + 1)) (2 ^ (n + 1) - 1) = 2 ^ m + (2 ^ n - 1)
/-- behind a greater bit the sets run alike -/
theorem ch_tr {m n : Nat} (hm : m < 16) (hA : chA m n) : ∀ i, i < bC m n → itNx i (2 ^ m + (2 ^ n - 1)) = 2 ^ m + itNx i (2 ^ n - 1)
  | 0, _ => rfl
  | i + 1, hi => by
    show nXt (itNx i (2 ^ m + (2 ^ n - 1))) = 2 ^ m + nXt (itNx i (2 ^ n - 1))
    rw [ch_tr hm hA i (by omega)]
    have h1 := hA i (by omega)
    have h2 := hA (i + 1) hi
    have n0 : 0 < n := by
      cases n with
      | zero => rw [bC_0] at hi; omega
      | succ n => omega
    exact ckA_of (ckA_all hm h1.1) (h1.2 n0) h2.1
theorem ch_all : ∀ m, m ≤ 16 → ∀ n, n ≤ m → chA m n ∧ chB m n ∧ chC m n
  | 0, _, n, hn => by
    have e : n = 0 := by omega
    subst e
    exact ⟨fun i hi => by
      have : i = 0 := by
        have : bC 0 0 = 1 := rfl
        omega
      subst this
      exact ⟨by decide, by omega⟩, rfl, rfl⟩
  | m + 1, hm, n, hn => by
    have IH := ch_all m (by omega)
    have p2 := tw_s m
    have pp := tw_pos m
    have hC : ∀ n, n ≤ m → chC m n := fun n hn => (IH n hn).2.2
    have step : ∀ n, n ≤ m → chA (m + 1) (n + 1) ∧ chB (m + 1) (n + 1) := fun n hn => by
      have eC := hC n hn
      have tr := ch_tr (m := m) (n := n) (by omega) (IH n hn).1
      have eb : bC (m + 1) (n + 1) = bC m (n + 1) + bC m n := rfl
      have q1 := bC_pos m n hn
      refine ⟨fun i hi => ?_, ?_⟩
      · by_cases c : i < bC m (n + 1)
        · have c2 : n + 1 ≤ m := by
            by_cases c3 : n + 1 ≤ m
            · exact c3
            · rw [bC_no m (n + 1) (by omega)] at c; omega
          have := (IH (n + 1) c2).1 i c
          exact ⟨by omega, this.2⟩
        · have e : i = bC m (n + 1) + (i - bC m (n + 1)) := by omega
          rw [e, itNx_add, eC, tr _ (by omega)]
          have := ((IH n hn).1 (i - bC m (n + 1)) (by omega)).1
          exact ⟨by omega, fun _ => by omega⟩
      · show itNx (bC (m + 1) (n + 1) - 1) (2 ^ (n + 1) - 1) = 2 ^ (m + 1) - 2 ^ (m + 1 - (n + 1))
        have e : bC (m + 1) (n + 1) - 1 = bC m (n + 1) + (bC m n - 1) := by omega
        rw [e, itNx_add, eC, tr _ (by omega), (IH n hn).2.1]
        have e2 : m + 1 - (n + 1) = m - n := by omega
        have := tw_le (a := m - n) (b := m) (by omega)
        rw [e2, p2]; omega
    have stepC : chC (m + 1) n := by
      by_cases c : n ≤ m
      · show itNx (bC (m + 1) (n + 1)) (2 ^ (n + 1) - 1) = 2 ^ (m + 1) + (2 ^ n - 1)
        have hB := (step n c).2
        have e : bC (m + 1) (n + 1) = (bC (m + 1) (n + 1) - 1) + 1 := by
          have := bC_pos (m + 1) (n + 1) (by omega)
          omega
        rw [e]
        show nXt (itNx (bC (m + 1) (n + 1) - 1) (2 ^ (n + 1) - 1)) = _
        rw [hB]
        have e2 : m + 1 - (n + 1) = m - n := by omega
        rw [e2]
        exact ckB ⟨m, by omega⟩ ⟨n, by omega⟩ c
      · have e : n = m + 1 := by omega
        subst e
        show itNx (bC (m + 1) (m + 1 + 1)) (2 ^ (m + 1 + 1) - 1) = 2 ^ (m + 1) + (2 ^ (m + 1) - 1)
        rw [bC_no (m + 1) (m + 1 + 1) (by omega)]
        show 2 ^ (m + 1 + 1) - 1 = _
        have := tw_s (m + 1)
        have := tw_pos (m + 1)
        omega
    cases n with
    | zero =>
      refine ⟨fun i hi => ?_, ?_, stepC⟩
      · rw [bC_0] at hi
        have : i = 0 := by omega
        subst this
        exact ⟨tw_pos (m + 1), by omega⟩
      · show itNx (bC (m + 1) 0 - 1) (2 ^ 0 - 1) = 2 ^ (m + 1) - 2 ^ (m + 1 - 0)
        rw [bC_0]
        show 0 = _
        simp
    | succ n => exact ⟨(step n (by omega)).1, (step n (by omega)).2, stepC⟩
/-! what is counted over the sets -/
def sI (f : Nat → Int) : Nat → Nat → Int
  | 0, _ => 0
  | k + 1, s => sI f k s + f (itNx k s)
theorem sI_add (f : Nat → Int) (a : Nat) : ∀ (b s : Nat), sI f (a + b) s = sI f a s + sI f b (itNx a s)
  | 0, s => by show sI f a s = sI f a s + 0; omega
  | b + 1, s => by
    show sI f (a + b) s + f (itNx (a + b) s) = sI f a s + (sI f b (itNx a s) + f (itNx b (itNx a s)))
    rw [sI_add f a b s, itNx_add]
    omega
theorem sI_c {f g : Nat → Int} {s t : Nat} : ∀ (k : Nat), (∀ i, i < k → f (itNx i s) = g (itNx i t)) → sI f k s = sI g k t
  | 0, _ => rfl
  | k + 1, h => by
    show sI f k s + f (itNx k s) = sI g k t + g (itNx k t)
    rw [sI_c k (fun i hi => h i (by omega)), h k (by omega)]
def gG (f : Nat → Int) : Nat → Nat → Int
  | _, 0 => f 0
  | 0, _ + 1 => 0
  | m + 1, n + 1 => gG f m (n + 1) + gG (fun x => f (2 ^ m + x)) m n
theorem gG_0 (f : Nat → Int) (m : Nat) : gG f m 0 = f 0 := by cases m <;> rfl
theorem gG_no : ∀ (m n : Nat) (f : Nat → Int), m < n → gG f m n = 0
  | 0, n + 1, _, _ => rfl
  | m + 1, n + 1, f, h => by
    show gG f m (n + 1) + gG (fun x => f (2 ^ m + x)) m n = 0
    rw [gG_no m (n + 1) _ (by omega), gG_no m n _ (by omega)]
    rfl
theorem gG_c : ∀ (m n : Nat) (f g : Nat → Int), (∀ x, x < 2 ^ m → f x = g x) → gG f m n = gG g m n
  | m, 0, f, g, h => by rw [gG_0, gG_0]; exact h 0 (tw_pos m)
  | 0, n + 1, _, _, _ => rfl
  | m + 1, n + 1, f, g, h => by
    have p := tw_s m
    show gG f m (n + 1) + gG (fun x => f (2 ^ m + x)) m n = gG g m (n + 1) + gG (fun x => g (2 ^ m + x)) m n
    rw [gG_c m (n + 1) f g (fun x hx => h x (by omega)), gG_c m n _ _ (fun x hx => h (2 ^ m + x) (by omega))]
/-- the sets, one behind the other, are all sets of n of m things -/
theorem sI_gG : ∀ (m : Nat), m ≤ 16 → ∀ (n : Nat) (f : Nat → Int), n ≤ m → sI f (bC m n) (2 ^ n - 1) = gG f m n
  | m, hm, 0, f, _ => by
    rw [bC_0, gG_0]
    show 0 + f 0 = f 0
    omega
  | 0, _, n + 1, _, h => by omega
  | m + 1, hm, n + 1, f, h => by
    have hn : n ≤ m := by omega
    obtain ⟨hA, hB, hC⟩ := ch_all m (by omega) n hn
    have tr := ch_tr (m := m) (n := n) (by omega) hA
    show sI f (bC m (n + 1) + bC m n) (2 ^ (n + 1) - 1) = gG f m (n + 1) + gG (fun x => f (2 ^ m + x)) m n
    have hC : itNx (bC m (n + 1)) (2 ^ (n + 1) - 1) = 2 ^ m + (2 ^ n - 1) := hC
    rw [sI_add, hC, ← sI_gG m (by omega) n (fun x => f (2 ^ m + x)) hn]
    have e2 : sI f (bC m n) (2 ^ m + (2 ^ n - 1)) = sI (fun x => f (2 ^ m + x)) (bC m n) (2 ^ n - 1) := sI_c _ (fun i hi => by rw [tr i hi])
    rw [e2]
    by_cases c : n + 1 ≤ m
    · rw [sI_gG m (by omega) (n + 1) f c]
    · rw [bC_no m (n + 1) (by omega), gG_no m (n + 1) f (by omega)]
      rfl
/-- the sum over a set of the first m things -/
def bSum (d : Nat → Int) : Nat → Nat → Int
  | 0, _ => 0
  | m + 1, x => bSum d m x + if x.testBit m then d m else 0
theorem bSum_c {d : Nat → Int} {x y : Nat} : ∀ m, (∀ j, j < m → x.testBit j = y.testBit j) → bSum d m x = bSum d m y
  | 0, _ => rfl
  | m + 1, h => by
    show bSum d m x + _ = bSum d m y + _
    rw [bSum_c m (fun j hj => h j (by omega)), h m (by omega)]
theorem bSum_z {d : Nat → Int} {x : Nat} {k : Nat} : ∀ m, k ≤ m → (∀ j, k ≤ j → j < m → x.testBit j = false) → bSum d m x = bSum d k x
  | 0, h, _ => by
    have : k = 0 := by omega
    rw [this]
  | m + 1, h, hz => by
    by_cases c : k = m + 1
    · rw [c]
    · show bSum d m x + _ = _
      rw [bSum_z m (by omega) (fun j h0 h1 => hz j h0 (by omega)), hz m (by omega) (by omega)]
      simp
theorem bSum_two {d : Nat → Int} {m r : Nat} (hm : m < 16) (hr : r < 2 ^ m) : bSum d 16 (2 ^ m + r) = bSum d 16 r + d m := by
  have p := tw_s m
  have t1 : ∀ j, m + 1 ≤ j → j < 16 → (2 ^ m + r).testBit j = false := fun j h0 _ => Nat.testBit_lt_two_pow (by have := tw_le h0; omega)
  have t2 : ∀ j, m ≤ j → j < 16 → r.testBit j = false := fun j h0 _ => Nat.testBit_lt_two_pow (by have := tw_le h0; omega)
  rw [bSum_z (k := m + 1) 16 (by omega) t1, bSum_z (k := m) 16 (by omega) t2]
  show bSum d m (2 ^ m + r) + (if (2 ^ m + r).testBit m then d m else 0) = _
  rw [bSum_c (y := r) m (fun j hj => Nat.testBit_two_pow_add_gt hj r), Nat.testBit_two_pow_add_eq, Nat.testBit_lt_two_pow hr]
  simp
theorem bSum_0 (d : Nat → Int) : ∀ m, bSum d m 0 = 0
  | 0 => rfl
  | m + 1 => by
    show bSum d m 0 + _ = 0
    rw [bSum_0 d m, Nat.zero_testBit]
    rfl
/-- the halves -/
theorem bSum_half (d : Nat → Int) (x : Nat) : bSum d 16 x = bSum d 8 (x % 256) + bSum (fun j => d (8 + j)) 8 (x / 256 % 256) := by
  have t1 : ∀ j, j < 8 → (x % 256).testBit j = x.testBit j := fun j hj => by
    have : (x % 2 ^ 8).testBit j = (decide (j < 8) && x.testBit j) := Nat.testBit_mod_two_pow x 8 j
    rw [show (2 : Nat) ^ 8 = 256 from rfl] at this
    rw [this]
    simp [hj]
  have t2 : ∀ j, j < 8 → (x / 256 % 256).testBit j = x.testBit (8 + j) := fun j hj => by
    have h1 : (x / 256 % 2 ^ 8).testBit j = (decide (j < 8) && (x / 256).testBit j) := Nat.testBit_mod_two_pow (x / 256) 8 j
    rw [show (2 : Nat) ^ 8 = 256 from rfl] at h1
    have h2 : (x / 2 ^ 8).testBit j = x.testBit (8 + j) := by rw [Nat.testBit_div_two_pow, Nat.add_comm]
    rw [show (2 : Nat) ^ 8 = 256 from rfl] at h2
    rw [h1, h2]
    simp [hj]
  have e1 : bSum d 8 (x % 256) = bSum d 8 x := bSum_c 8 t1
  rw [e1]
  show bSum d 8 x + _ + _ + _ + _ + _ + _ + _ + _ = bSum d 8 x + (0 + _ + _ + _ + _ + _ + _ + _ + _)
  rw [t2 0 (by omega), t2 1 (by omega), t2 2 (by omega), t2 3 (by omega), t2 4 (by omega), t2 5 (by omega), t2 6 (by omega), t2 7 (by omega)]
  simp only [Nat.add_zero, Nat.reduceAdd]
  omega
/-- without its least thing -/
theorem bSum_less {d : Nat → Int} {x y k : Nat} (hk : x.testBit k = true) (M : Nat) (hy : ∀ j, j < M → y.testBit j = (x.testBit j && decide (j ≠ k))) : ∀ m, m ≤ M → bSum d m x = bSum d m y + if k < m then d k else 0
  | 0, _ => by simp [bSum]
  | m + 1, hm => by
    show bSum d m x + (if x.testBit m then d m else 0) = bSum d m y + (if y.testBit m then d m else 0) + _
    rw [bSum_less hk M hy m (by omega), hy m (by omega)]
    by_cases c : m = k
    · subst c
      rw [hk, if_neg (Nat.lt_irrefl m), if_pos (Nat.lt_succ_self m)]
      simp
    · have e : (decide (m ≠ k)) = true := by simp [c]
      rw [e, Bool.and_true]
      by_cases c2 : k < m
      · rw [if_pos c2, if_pos (show k < m + 1 by omega)]
        omega
      · rw [if_neg c2, if_neg (show ¬ k < m + 1 by omega)]
        omega
/-! all ways to choose, thing by thing: the latest first -/
def yWay : List Int → Nat → Int → Int
  | _, 0, a => if a ≤ 0 then 1 else 0
  | [], _ + 1, _ => 0
  | x :: r, n + 1, a => yWay r (n + 1) a + yWay r n (a - x)
theorem yWay_0 (r : List Int) (a : Int) : yWay r 0 a = if a ≤ 0 then 1 else 0 := by cases r <;> rfl
theorem gG_way {d : Nat → Int} : ∀ (r : List Int) (n : Nat) (a : Int), r.length ≤ 16 → (∀ j, j < r.length → d j = r.getD (r.length - 1 - j) 0) → gG (fun x => if a ≤ bSum d 16 x then 1 else 0) r.length n = yWay r n a
  | r, 0, a, _, _ => by
    rw [gG_0, yWay_0]
    show (if a ≤ bSum d 16 0 then (1 : Int) else 0) = _
    rw [bSum_0]
  | [], n + 1, a, _, _ => rfl
  | x :: r, n + 1, a, hl, hd => by
    have hl : r.length + 1 ≤ 16 := hl
    have hd' : ∀ j, j < r.length → d j = r.getD (r.length - 1 - j) 0 := fun j hj => by
      rw [hd j (Nat.lt_succ_of_lt hj)]
      have e : (x :: r).length - 1 - j = (r.length - 1 - j) + 1 := by
        show r.length + 1 - 1 - j = _
        omega
      rw [e]
      rfl
    have hx : d r.length = x := by
      rw [hd r.length (Nat.lt_succ_self _)]
      have e : (x :: r).length - 1 - r.length = 0 := by
        show r.length + 1 - 1 - r.length = 0
        omega
      rw [e]
      rfl
    show gG _ r.length (n + 1) + gG _ r.length n = yWay r (n + 1) a + yWay r n (a - x)
    rw [gG_way r (n + 1) a (by omega) hd', ← gG_way r n (a - x) (by omega) hd']
    congr 1
    refine gG_c _ _ _ _ (fun y hy => ?_)
    show (if a ≤ bSum d 16 (2 ^ r.length + y) then (1 : Int) else 0) = if a - x ≤ bSum d 16 y then 1 else 0
    rw [bSum_two (by omega) hy, hx]
    by_cases c : a ≤ bSum d 16 y + x
    · rw [if_pos c, if_pos (by omega)]
    · rw [if_neg c, if_neg (by omega)]

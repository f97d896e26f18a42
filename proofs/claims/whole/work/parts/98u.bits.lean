/-! ===== sets of things as ints ===== -/
theorem iN_bv (x : Nat) : (iI (x : Int)).toBitVec = BitVec.ofNat 32 x := by
  unfold iI
  rw [Int32.toBitVec_ofInt, BitVec.ofInt_natCast]
theorem iN_of {v : Int32} {x : Nat} (h : v.toBitVec.toNat = x) : v = iI (x : Int) := by
  rw [← Int32.toBitVec_inj, iN_bv, ← h, BitVec.ofNat_toNat, BitVec.setWidth_eq]
theorem iN_to {x : Nat} (h : x < 4294967296) : (iI (x : Int)).toBitVec.toNat = x := by
  rw [iN_bv, BitVec.toNat_ofNat, Nat.mod_eq_of_lt h]
/-- of a number the least bit: all facts -/
def ckL (x : Nat) : Bool := or (Nat.beq x 0) (and (Nat.beq (Nat.land (Nat.xor x 4294967295) (Nat.sub x 1)) (Nat.sub (Nat.pow 2 (nLz x)) 1)) (and (Nat.ble (nLz x) 15) (Nat.ble (nLo x) x)))
theorem ckL_0 : allB ckL 13 0 = true := by decide +kernel
theorem ckL_1 : allB ckL 13 8192 = true := by decide +kernel
theorem ckL_2 : allB ckL 13 16384 = true := by decide +kernel
theorem ckL_3 : allB ckL 13 24576 = true := by decide +kernel
theorem ckL_4 : allB ckL 13 32768 = true := by decide +kernel
theorem ckL_5 : allB ckL 13 40960 = true := by decide +kernel
theorem ckL_6 : allB ckL 13 49152 = true := by decide +kernel
theorem ckL_7 : allB ckL 13 57344 = true := by decide +kernel
theorem ckL_of {x : Nat} (h0 : 0 < x) (h1 : x < 65536) : (x ^^^ 4294967295) &&& (x - 1) = 2 ^ nLz x - 1 ∧ nLz x ≤ 15 ∧ nLo x ≤ x := by
  have e13 : (2 : Nat) ^ 13 = 8192 := rfl
  have key : ckL x = true := by
    have : x < 8192 ∨ (8192 ≤ x ∧ x < 16384) ∨ (16384 ≤ x ∧ x < 24576) ∨ (24576 ≤ x ∧ x < 32768) ∨ (32768 ≤ x ∧ x < 40960) ∨ (40960 ≤ x ∧ x < 49152) ∨ (49152 ≤ x ∧ x < 57344) ∨ 57344 ≤ x := by omega
    rcases this with d | d | d | d | d | d | d | d
    · exact allB_of ckL_0 x (by omega) (by omega)
    · exact allB_of ckL_1 x (by omega) (by omega)
    · exact allB_of ckL_2 x (by omega) (by omega)
    · exact allB_of ckL_3 x (by omega) (by omega)
    · exact allB_of ckL_4 x (by omega) (by omega)
    · exact allB_of ckL_5 x (by omega) (by omega)
    · exact allB_of ckL_6 x (by omega) (by omega)
    · exact allB_of ckL_7 x (by omega) (by omega)
  unfold ckL at key
  rw [Bool.or_eq_true, Bool.and_eq_true, Bool.and_eq_true] at key
  rcases key with k | ⟨k1, k2, k3⟩
  · have := Nat.eq_of_beq_eq_true k
    omega
  · exact ⟨Nat.eq_of_beq_eq_true k1, Nat.le_of_ble_eq_true k2, Nat.le_of_ble_eq_true k3⟩
def ntA (v0 v1 : Int32) : Int32 := v1 + iush v0 1
def ntB (v0 v1 : Int32) : Int32 := if v0 ≤ 4 then ntA v0 v1 else ntA (iush v0 2) (v1 + 2)
def ntC (v0 v1 : Int32) : Int32 := if v0 ≤ 16 then ntB v0 v1 else ntB (iush v0 4) (v1 + 4)
def ntD (v0 v1 : Int32) : Int32 := if v0 ≤ 256 then ntC v0 v1 else ntC (iush v0 8) (v1 + 8)
def ntW (w : Int32) : Int32 := if 0 < w then (if w ≤ 65536 then ntD w 1 else ntD (iush w 16) (1 + 16)) else w &&& 32
theorem ntB_eq (v0 v1 : Int32) (s : gH) : mj_ntz_p62 v0 v1 s = some (ntB v0 v1, s) := by
  unfold mj_ntz_p62 ntB
  rw [ap_if]
  split <;> rfl
theorem ntC_eq (v0 v1 : Int32) (s : gH) : mj_ntz_p49 v0 v1 s = some (ntC v0 v1, s) := by
  unfold mj_ntz_p49 ntC
  rw [ap_if, ntB_eq, ntB_eq]
  split <;> rfl
theorem ntD_eq (v0 v1 : Int32) (s : gH) : mj_ntz_p34 v0 v1 s = some (ntD v0 v1, s) := by
  unfold mj_ntz_p34 ntD
  rw [ap_if, ntC_eq, ntC_eq]
  split <;> rfl
theorem ntW_eq (v0 : Int32) (s : gH) : mj_ntz v0 s = some (ntW ((v0 ^^^ (-1)) &&& (v0 - 1)), s) := by
  unfold mj_ntz ntW
  rw [ap_if, ap_if, ntD_eq, ntD_eq]
  split
  · split <;> rfl
  · rfl
theorem ntW_k : ∀ k : Fin 16, ntW (iI ((2 ^ k.val - 1 : Nat) : Int)) = iI (k.val : Int) := by decide +kernel
theorem ntz_eq {x : Nat} (h0 : 0 < x) (h1 : x < 65536) (s : gH) : mj_ntz (iI (x : Int)) s = some (iI (nLz x : Int), s) := by
  obtain ⟨k1, k2, k3⟩ := ckL_of h0 h1
  have ex : (iI (x : Int)).toBitVec.toNat = x := iN_to (by omega)
  have ew : (iI (x : Int) ^^^ (-1)) &&& (iI (x : Int) - 1) = iI ((2 ^ nLz x - 1 : Nat) : Int) := by
    refine iN_of ?_
    rw [Int32.toBitVec_and, Int32.toBitVec_xor, Int32.toBitVec_sub, BitVec.toNat_and, BitVec.toNat_xor, BitVec.toNat_sub, ex, ← k1]
    have e1 : (-1 : Int32).toBitVec.toNat = 4294967295 := rfl
    have e2 : (1 : Int32).toBitVec.toNat = 1 := rfl
    have e3 : (2 ^ 32 - 1 + x) % 2 ^ 32 = x - 1 := by omega
    rw [e1, e2, e3]
  rw [ntW_eq, ew]
  exact congrArg (fun v => some (v, s)) (ntW_k ⟨nLz x, by omega⟩)
theorem iush_k : ∀ k : Fin 16, ((((2 : Int32) + iI (k.val : Int)).toUInt32 &&& Int32.toUInt32 31).toBitVec % 32).toNat = 2 + k.val := by decide +kernel
theorem iush_n (a y : Int32) {n : Nat} (h : ((y.toUInt32 &&& Int32.toUInt32 31).toBitVec % 32).toNat = n) : (iush a y).toBitVec.toNat = a.toBitVec.toNat >>> n := by
  rw [← h]
  rfl
theorem nLo_le {x : Nat} : nLo x ≤ x := Nat.and_le_left
theorem nextSet_eq {x : Nat} (h0 : 0 < x) (h1 : x < 65536) (s : gH) : m11_nextSet (iI (x : Int)) s = some (iI (nXt x : Int), s) := by
  obtain ⟨k1, k2, k3⟩ := ckL_of h0 h1
  have ex : (iI (x : Int)).toBitVec.toNat = x := iN_to (by omega)
  have elo : (iI (x : Int) &&& (-iI (x : Int))).toBitVec.toNat = nLo x := by
    rw [Int32.toBitVec_and, Int32.toBitVec_neg, BitVec.toNat_and, BitVec.toNat_neg, ex]
    have e : (2 ^ 32 - x) % 2 ^ 32 = 4294967296 - x := by omega
    rw [e]
    rfl
  have emv : (iI (x : Int) + (iI (x : Int) &&& (-iI (x : Int)))).toBitVec.toNat = nMv x := by
    rw [Int32.toBitVec_add, BitVec.toNat_add, elo, ex, Nat.mod_eq_of_lt (by omega)]
    rfl
  unfold m11_nextSet
  rw [mb_eq (ntz_eq h0 h1 s)]
  refine congrArg (fun v => some (v, s)) (iN_of ?_)
  rw [Int32.toBitVec_or, BitVec.toNat_or, emv, iush_n _ _ (iush_k ⟨nLz x, by omega⟩), Int32.toBitVec_xor, BitVec.toNat_xor, emv, ex]
  rfl
theorem low8 {x : Nat} (h1 : x < 65536) : iI (x : Int) &&& 255 = iI ((x % 256 : Nat) : Int) := by
  refine iN_of ?_
  rw [Int32.toBitVec_and, BitVec.toNat_and, iN_to (by omega)]
  have e : (255 : Int32).toBitVec.toNat = 2 ^ 8 - 1 := rfl
  rw [e, Nat.and_two_pow_sub_one_eq_mod]
theorem shr8 {x : Nat} (h1 : x < 65536) : iI (x : Int) >>> (8 &&& 31) = iI ((x / 256 : Nat) : Int) := by
  refine iN_of ?_
  have e : (iI (x : Int) >>> (8 &&& 31)).toBitVec = (iI (x : Int)).toBitVec.sshiftRight 8 := rfl
  have hm : (iI (x : Int)).toBitVec.msb = false := by
    rw [BitVec.msb_eq_false_iff_two_mul_lt, iN_to (by omega)]
    omega
  rw [e, BitVec.toNat_sshiftRight_of_msb_false hm, iN_to (by omega), Nat.shiftRight_eq_div_pow]
/-- a set's least thing, and the set without it -/
def clN (x : Nat) : Nat := x &&& (x - 1)
theorem cl_k : ∀ x : Fin 256, 0 < x.val → iI (x.val : Int) &&& (iI (x.val : Int) - 1) = iI (clN x.val : Int) ∧ clN x.val < x.val ∧ nLz x.val < 8 ∧ x.val.testBit (nLz x.val) = true ∧ ∀ j : Fin 8, (clN x.val).testBit j.val = (x.val.testBit j.val && decide (j.val ≠ nLz x.val)) := by decide +kernel
/-! how many ways -/
theorem bC_le : ∀ m n : Nat, bC m n ≤ 2 ^ m
  | 0, 0 => Nat.le_refl 1
  | 0, _ + 1 => Nat.zero_le _
  | m + 1, 0 => by rw [bC_0]; exact tw_pos _
  | m + 1, n + 1 => by
    show bC m (n + 1) + bC m n ≤ _
    have := bC_le m (n + 1)
    have := bC_le m n
    have := tw_s m
    omega
theorem bC_st : ∀ N : Fin 16, ∀ i : Fin 16, bC N.val i.val * (N.val + 1) % (i.val + 1) = 0 ∧ bC N.val i.val * (N.val + 1) / (i.val + 1) = bC (N.val + 1) (i.val + 1) ∧ bC N.val i.val * (N.val + 1) ≤ 1000000 := by decide +kernel
theorem C_waysL {a c : Nat} (ha : a ≤ 16) (hc : c ≤ a) (s : gH) : ∀ (j fu i : Nat), i + j = c → j < fu → m11_ways_p4 fu (iI (a : Int)) (iI (c : Int)) (iI (bC (a - c + i) i : Int)) (iI ((i : Int) + 1)) s = some (iI (bC a c : Int), s)
  | 0, fu + 1, i, h0, h1 => by
    have e : i = c := by omega
    subst e
    have e2 : a - i + i = a := by omega
    have q : (i : Int) < (i : Int) + 1 := by omega
    rw [m11_ways_p4, e2]
    simp (config := { maxSteps := 1000000 }) (disch := first | assumption | exact W.i _ _ | exact sLine_i W _ _ _ | exact W1.i _ _ | exact hg _ _ | exact W3.i _ _ | (refine ⟨?_, ?_⟩ <;> omega) | omega | (simp only [sW_1, sW_2, sW_3, sW_4, sW_5, sW_8] <;> first | assumption | omega | (refine ⟨?_, ?_⟩ <;> omega)) | (simp only [sT_1, sT_2, sT_3, sT_4, sT_5, sT_8] <;> first | assumption | omega | (refine ⟨?_, ?_⟩ <;> omega)) | (simp only [List.length_append, List.length_cons, List.length_nil, Nat.reduceAdd] <;> omega)) only [Int.reduceEq, Int.reduceLT, Int.reduceLE, Int.reduceNeg, Int.reduceAdd, Int.reduceSub, Int.reduceMul, if_true, if_false, not_true, not_false_eq_true, false_or, or_false, true_or, or_true, true_and, and_true, false_and, and_false, iI_on, iI_mul, iI_add, iI_sub, iI_neg, ap_if, mp_eq, mz_0, mz_1, mz_b, b2_0, b2_1, iI_lt, iI_le, iI_inj, mb_div, mb_rem, q]
  | j + 1, fu + 1, i, h0, h1 => by
    have ih := C_waysL ha hc s j fu (i + 1) (by omega) (by omega)
    obtain ⟨b1, b2, b3⟩ := bC_st ⟨a - c + i, by omega⟩ ⟨i, by omega⟩
    have b1 : bC (a - c + i) i * (a - c + i + 1) % (i + 1) = 0 := b1
    have b2 : bC (a - c + i) i * (a - c + i + 1) / (i + 1) = bC (a - c + i + 1) (i + 1) := b2
    have b3 : bC (a - c + i) i * (a - c + i + 1) ≤ 1000000 := b3
    have q : ¬ (c : Int) < (i : Int) + 1 := by omega
    have e1 : (bC (a - c + i) i : Int) * ((a : Int) - (c : Int) + ((i : Int) + 1)) = ((bC (a - c + i) i * (a - c + i + 1) : Nat) : Int) := by
      rw [Int.natCast_mul]
      congr 1
      omega
    have e2 : (((bC (a - c + i) i * (a - c + i + 1) : Nat) : Int)).tdiv ((i : Int) + 1) = (bC (a - c + i + 1) (i + 1) : Int) := by
      have e3 : ((i : Int) + 1) = ((i + 1 : Nat) : Int) := by omega
      rw [e3, ← Int.ofNat_tdiv, b2]
    have e4 : ((i + 1 : Nat) : Int) + 1 = (i : Int) + 1 + 1 := by omega
    have e5 : a - c + (i + 1) = a - c + i + 1 := by omega
    rw [e4, e5] at ih
    rw [← ih, m11_ways_p4]
    simp (config := { maxSteps := 1000000 }) (disch := first | assumption | exact W.i _ _ | exact sLine_i W _ _ _ | exact W1.i _ _ | exact hg _ _ | exact W3.i _ _ | (refine ⟨?_, ?_⟩ <;> omega) | omega | (simp only [sW_1, sW_2, sW_3, sW_4, sW_5, sW_8] <;> first | assumption | omega | (refine ⟨?_, ?_⟩ <;> omega)) | (simp only [sT_1, sT_2, sT_3, sT_4, sT_5, sT_8] <;> first | assumption | omega | (refine ⟨?_, ?_⟩ <;> omega)) | (simp only [List.length_append, List.length_cons, List.length_nil, Nat.reduceAdd] <;> omega)) only [Int.reduceEq, Int.reduceLT, Int.reduceLE, Int.reduceNeg, Int.reduceAdd, Int.reduceSub, Int.reduceMul, if_true, if_false, not_true, not_false_eq_true, false_or, or_false, true_or, or_true, true_and, and_true, false_and, and_false, iI_on, iI_mul, iI_add, iI_sub, iI_neg, ap_if, mp_eq, mz_0, mz_1, mz_b, b2_0, b2_1, iI_lt, iI_le, iI_inj, mb_div, mb_rem, q, e1, e2]
theorem C_ways {a c : Nat} (ha : a ≤ 16) (hc : c ≤ a) (s : gH) : m11_ways (iI (a : Int)) (iI (c : Int)) s = some (iI (bC a c : Int), s) := by
  have := C_waysL ha hc s c FU 0 (by omega) (FU_lt (by omega))
  rw [bC_0] at this
  exact this

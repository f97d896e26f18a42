/-! ===== the class's laws: conditions, grave, range, beside ===== -/
theorem hS.d {h h' : gH} (k : hS h h') (i : Int) : dP h' i = dP h i := by
  show dpt h'.2.2 4 i = _
  rw [k.2.1]
theorem hS.l {h h' : gH} (k : hS h h') (i : Int) : lP h' i = lP h i := by
  show dpt h'.2.2 6 i = _
  rw [k.2.1]
theorem hS.t {h h' : gH} (k : hS h h') (i : Int) : tP h' i = tP h i := by
  show dpt h'.2.2 7 i = _
  rw [k.2.1]
/-- a number is put into a row behind the fixed objects -/
def hPut (h : gH) (q : Nat) (j x : Int) : gH := (h.1, u2 h.2.1 q j.toNat (iI x), h.2.2)
theorem cK_st {rho : Nat → Int → Int} {h : gH} {α : Type} {q n : Nat} {j x : Int} (f : Unit → gM α) (hq : 55 ≤ q) (hs : h.1[q]? = some (100, n)) (h0 : 0 ≤ j) (h1 : j < n) (hn : n ≤ 100000) : mb (gStI 100 q (iI j) (iI x)) f (cK rho h) = f () (cK rho (hPut h q j x)) := by
  have hc : (iI j).toNatClampNeg = j.toNat := iI_cl ⟨by omega, by omega⟩
  refine mb_eq ?_
  unfold gStI
  rw [mi_ok _ (cK rho h) hs h0 h1 hn, hc]
  have e : u2 (cK rho h).2.1 q j.toNat (iI x) = (cK rho (hPut h q j x)).2.1 := by
    funext a k
    unfold u2 cK hPut u2
    dsimp only
    by_cases c : a < 55
    · have c2 : ¬ (a = q ∧ k = j.toNat) := fun z => by omega
      simp only [c, c2, if_true, if_false]
    · simp only [c, if_false]
  rw [e]
  rfl
theorem hS.st {h h' : gH} (k : hS h h') {p n : Nat} (hp : h.1[p]? = some (4, n)) (j x : Int) : hS h (hPut h' (p + 4) j x) := ⟨k.1, k.2.1, fun q hq => by
  rw [← k.2.2 q hq]
  funext i
  unfold hPut u2
  dsimp only
  rw [if_neg (fun z => hq p n z.1 hp)]⟩
/-- the stack of the law at p -/
def sf (h : gH) (p : Nat) : Int → Int := fun j => (h.2.1 (p + 4) j.toNat).toInt
theorem sf_at {h : gH} {p : Nat} {j x : Int} (hx : i32 x) : sf (hPut h (p + 4) j x) p j = x := by
  unfold sf hPut u2
  dsimp only
  rw [if_pos ⟨rfl, rfl⟩, iI_t hx]
theorem sf_ne {h : gH} {p : Nat} {j j' x : Int} (h0 : 0 ≤ j) (h1 : 0 ≤ j') (hj : j' ≠ j) : sf (hPut h (p + 4) j x) p j' = sf h p j' := by
  unfold sf hPut u2
  dsimp only
  rw [if_neg (fun z => by have := z.2; omega)]
theorem sf_ld {rho : Nat → Int → Int} {h : gH} {α : Type} {p : Nat} {j : Int} (f : Int32 → gM α) (hq : 55 ≤ p) (hs : h.1[p + 4]? = some (100, 16)) (h0 : 0 ≤ j) (h1 : j < 16) : mb (gLdI 100 (p + 4) (iI j)) f (cK rho h) = f (iI (sf h p j)) (cK rho h) :=
  ldI_ok f (cK rho h) (n := 16) hs h0 (by omega) (by omega) ((cK_d (by omega)).trans (iI_of _).symm)
/-- what a condition asks lies in the view -/
def VW (e : Int → Int) (w : Int → Int) : Prop := ∀ c, 1000 ≤ c → c ≤ 1008 → w (c - 1000) = e (ct c)
theorem C_joined {c s a b x : Int} (hc : c = 2000 ∨ c = 2001 ∨ c = 2002 ∨ c = 2003 ∨ c = 2005 ∨ c = 2006) (hs : s = ct c) (ha : okV a) (hb : okV b) (hj : jM s a b = some x) (H : gH) : m4_joined (iI c) (iI a) (iI b) H = some (iI x, H) := by
  unfold jM at hj
  unfold m4_joined
  rcases hc with rfl | rfl | rfl | rfl | rfl | rfl
  · have e : s = 14 := hs
    subst e
    rw [if_neg (by omega), if_neg (by omega), if_pos rfl] at hj
    split at hj
    · cases hj
      rw [iI_add]; rfl
    · cases hj
  · have e : s = 15 := hs
    subst e
    rw [if_neg (by omega), if_neg (by omega), if_neg (by omega), if_pos rfl] at hj
    cases hj
    (repeat' (first | simp (config := { maxSteps := 1000000 }) (disch := first | assumption | exact W.i _ _ | exact sLine_i W _ _ _ | exact W1.i _ _ | exact hg _ _ | exact W3.i _ _ | (refine ⟨?_, ?_⟩ <;> omega) | omega | (simp only [sW_1, sW_2, sW_3, sW_4, sW_5, sW_8] <;> first | assumption | omega | (refine ⟨?_, ?_⟩ <;> omega)) | (simp only [sT_1, sT_2, sT_3, sT_4, sT_5, sT_8] <;> first | assumption | omega | (refine ⟨?_, ?_⟩ <;> omega))) only [Int.reduceEq, Int.reduceLT, Int.reduceLE, Int.reduceNeg, Int.reduceAdd, Int.reduceSub, Int.reduceMul, if_true, if_false, not_true, not_false_eq_true, false_or, or_false, true_or, or_true, true_and, and_true, false_and, and_false, iI_on, iI_mul, iI_add, iI_sub, iI_neg, ap_if, mp_eq, mz_0, mz_1, mz_b, b2_0, b2_1, iI_lt, iI_le, iI_inj, mb_div, mb_rem, m4_joined_p54] | split)) <;> (first | with_reducible rfl | omega | rfl | (subst_vars; rfl) | (simp only [*, Int.add_zero]; done) | (rw [b2_t (by omega)]; done) | (rw [b2_f (by omega)]; done) | (rw [b2_f (by omega), Int.add_zero]))
  · have e : s = 16 := hs
    subst e
    rw [if_neg (by omega), if_neg (by omega), if_neg (by omega), if_neg (by omega), if_pos rfl] at hj
    cases hj
    (repeat' (first | simp (config := { maxSteps := 1000000 }) (disch := first | assumption | exact W.i _ _ | exact sLine_i W _ _ _ | exact W1.i _ _ | exact hg _ _ | exact W3.i _ _ | (refine ⟨?_, ?_⟩ <;> omega) | omega | (simp only [sW_1, sW_2, sW_3, sW_4, sW_5, sW_8] <;> first | assumption | omega | (refine ⟨?_, ?_⟩ <;> omega)) | (simp only [sT_1, sT_2, sT_3, sT_4, sT_5, sT_8] <;> first | assumption | omega | (refine ⟨?_, ?_⟩ <;> omega))) only [Int.reduceEq, Int.reduceLT, Int.reduceLE, Int.reduceNeg, Int.reduceAdd, Int.reduceSub, Int.reduceMul, if_true, if_false, not_true, not_false_eq_true, false_or, or_false, true_or, or_true, true_and, and_true, false_and, and_false, iI_on, iI_mul, iI_add, iI_sub, iI_neg, ap_if, mp_eq, mz_0, mz_1, mz_b, b2_0, b2_1, iI_lt, iI_le, iI_inj, mb_div, mb_rem, m4_joined_p65] | split)) <;> (first | with_reducible rfl | omega | rfl | (subst_vars; rfl) | (simp only [*, Int.add_zero]; done) | (rw [b2_t (by omega)]; done) | (rw [b2_f (by omega)]; done) | (rw [b2_f (by omega), Int.add_zero]))
  · have e : s = 17 := hs
    subst e
    rw [if_neg (by omega), if_neg (by omega), if_neg (by omega), if_neg (by omega), if_neg (by omega)] at hj
    cases hj
    (repeat' (first | simp (config := { maxSteps := 1000000 }) (disch := first | assumption | exact W.i _ _ | exact sLine_i W _ _ _ | exact W1.i _ _ | exact hg _ _ | exact W3.i _ _ | (refine ⟨?_, ?_⟩ <;> omega) | omega | (simp only [sW_1, sW_2, sW_3, sW_4, sW_5, sW_8] <;> first | assumption | omega | (refine ⟨?_, ?_⟩ <;> omega)) | (simp only [sT_1, sT_2, sT_3, sT_4, sT_5, sT_8] <;> first | assumption | omega | (refine ⟨?_, ?_⟩ <;> omega))) only [Int.reduceEq, Int.reduceLT, Int.reduceLE, Int.reduceNeg, Int.reduceAdd, Int.reduceSub, Int.reduceMul, if_true, if_false, not_true, not_false_eq_true, false_or, or_false, true_or, or_true, true_and, and_true, false_and, and_false, iI_on, iI_mul, iI_add, iI_sub, iI_neg, ap_if, mp_eq, mz_0, mz_1, mz_b, b2_0, b2_1, iI_lt, iI_le, iI_inj, mb_div, mb_rem, m4_joined_p76] | split)) <;> (first | with_reducible rfl | omega | rfl | (subst_vars; rfl) | (simp only [*, Int.add_zero]; done) | (rw [b2_t (by omega)]; done) | (rw [b2_f (by omega)]; done) | (rw [b2_f (by omega), Int.add_zero]))
  · have e : s = 8 := hs
    subst e
    rw [if_pos rfl] at hj
    split at hj
    · rename_i c; cases hj
      rw [iI_and _ _ c.1 c.2]; rfl
    · cases hj
  · have e : s = 9 := hs
    subst e
    rw [if_neg (by omega), if_pos rfl] at hj
    split at hj
    · rename_i c; cases hj
      refine Eq.trans (b := some (iI a ||| iI b, H)) rfl ?_
      rw [iI_or _ _ c.1 c.2]
    · cases hj
theorem ct_num {c : Int} (h : c < 1000) : ct c = 1000 + c := if_pos h
theorem ct_low {c : Int} (h0 : 0 ≤ c) (h1 : c ≤ 1008) : ¬ jS (ct c) ∧ ¬ ct c = 7 := by
  by_cases c1 : c < 1000
  · rw [ct_num c1]
    omega
  · have : c = 1000 ∨ c = 1001 ∨ c = 1002 ∨ c = 1003 ∨ c = 1004 ∨ c = 1005 ∨ c = 1006 ∨ c = 1007 ∨ c = 1008 := by omega
    rcases this with rfl | rfl | rfl | rfl | rfl | rfl | rfl | rfl | rfl <;> decide
theorem ct_hi {c : Int} (h : c = 2000 ∨ c = 2001 ∨ c = 2002 ∨ c = 2003 ∨ c = 2005 ∨ c = 2006) : jS (ct c) := by
  rcases h with rfl | rfl | rfl | rfl | rfl | rfl <;> decide
section LAWS
variable {sg rho : Nat → Int → Int} {h : gH}
theorem C_holdsL (hC : OKC h) (R : RDs 1 sg rho h) (hL : LB h) (W : WD sg) {e : Int → Int} (he : EnvOK e) (he2 : ∀ c, 1000 ≤ c → c ≤ 1008 → okV (e (ct c))) (hvw : VW e (rho 12)) {v l b : Int} (hv0 : 0 ≤ v) (hv1 : v < sg 1 4) (hl0 : 0 ≤ l) (hl1 : l < sg 5 (2 * v)) (hb : b = 0 ∨ b = 1)
    {cs ce cc : Int → Int} {nc : Nat} (hnc : nc ≤ 250) (hsh : ∀ i, i = 5 ∨ i = 6 ∨ i = 7 ∨ i = 9 → h.1[lP h v + i]? = some (100, (sg 5 (2 * v)).toNat)) (hs8 : h.1[lP h v + 8]? = some (100, nc))
    (hce : h.2.1 (lP h v + 7) l.toNat = iI (ce l)) (c0 : 0 ≤ cs l) (c1 : cs l ≤ ce l) (c2 : ce l ≤ nc) (hok : ∀ j, cs l ≤ j → j < ce l → okCode (cc j)) (hcc : ∀ j : Int, 0 ≤ j → j < nc → h.2.1 (lP h v + 8) j.toNat = iI (cc j)) :
    ∀ (m n : Nat) (h' : gH) (i : Int) (st : List Int), hS h h' → stk (sf h' (lP h v)) st → (∀ x, x ∈ st → okV x) → st.length ≤ 16 → xMs e ((rowL cc m i).map ct) st = some [b] → cs l ≤ i → i + m = ce l → m < n →
    ∃ h'', hS h h'' ∧ m4_holds_p10 n (lP h v) (iI l) 12 (iI (st.length : Int)) (iI i) (cK rho h') = some (iI (b2 (b = 1)), cK rho h'') := by
  have n4 := W.n4
  have nv := W.ve v hv0 hv1
  have H := (R.la hv0 hv1).2
  have hp84 := H.1.1
  intro m n h' i st k
  have g11 : ∀ (h' : gH) (_ : hS h h') (f : Nat → gM Int32), mb (gGetR [4] (lP h v) 11) f (cK rho h') = f (lP h v + 7) (cK rho h') := fun h' k f => getR_ok f (cK rho h') (t := 4) (n := 14) (by show h'.1[_]? = _; rw [k.1]; exact H.1.2.1) rfl (by show h'.2.2 _ _ = _; rw [k.2.1]; exact H.2.1.2.2.2.2.2.2.1)
  have g12 : ∀ (h' : gH) (_ : hS h h') (f : Nat → gM Int32), mb (gGetR [4] (lP h v) 12) f (cK rho h') = f (lP h v + 8) (cK rho h') := fun h' k f => getR_ok f (cK rho h') (t := 4) (n := 14) (by show h'.1[_]? = _; rw [k.1]; exact H.1.2.1) rfl (by show h'.2.2 _ _ = _; rw [k.2.1]; exact H.2.1.2.2.2.2.2.2.2.1)
  have g13 : ∀ (h' : gH) (_ : hS h h') (f : Nat → gM Int32), mb (gGetR [4] (lP h v) 13) f (cK rho h') = f (lP h v + 4) (cK rho h') := fun h' k f => getR_ok f (cK rho h') (t := 4) (n := 14) (by show h'.1[_]? = _; rw [k.1]; exact H.1.2.1) rfl (by show h'.2.2 _ _ = _; rw [k.2.1]; exact H.2.1.2.2.2.1)
  have l7 : ∀ (h' : gH) (_ : hS h h') (f : Int32 → gM Int32), mb (gLdI 100 (lP h v + 7) (iI l)) f (cK rho h') = f (iI (ce l)) (cK rho h') := fun h' k f => ldI_ok f (cK rho h') (n := (sg 5 (2 * v)).toNat) (by show h'.1[_]? = _; rw [k.1]; exact hsh 7 (by omega)) hl0 (by omega) (by omega) ((cK_d (by omega)).trans (by rw [k.row hL H.1.2.1 (by omega) (by omega) (by omega)]; exact hce))
  have l8 : ∀ (h' : gH) (_ : hS h h') (i : Int) (_ : cs l ≤ i) (_ : i < ce l) (f : Int32 → gM Int32), mb (gLdI 100 (lP h v + 8) (iI i)) f (cK rho h') = f (iI (cc i)) (cK rho h') := fun h' k i hi0 hi1 f => ldI_ok f (cK rho h') (n := nc) (by show h'.1[_]? = _; rw [k.1]; exact hs8) (by omega) (by omega) (by omega) ((cK_d (by omega)).trans (by rw [k.row hL H.1.2.1 (by omega) (by omega) (by omega)]; exact hcc i (by omega) (by omega)))
  have s16 : ∀ (h' : gH) (_ : hS h h'), h'.1[lP h v + 4]? = some (100, 16) := fun h' k => by rw [k.1]; exact H.2.2.1.2.2.2
  revert n h' i st
  induction m with
  | zero =>
    intro n h' i st k hst hv hlen hx hi him hn
    obtain ⟨n, rfl⟩ : ∃ q, n = q + 1 := ⟨n - 1, by omega⟩
    have est : st = [b] := Option.some.inj hx
    subst est
    refine ⟨h', k, ?_⟩
    have hb0 : sf h' (lP h v) 0 = b := hst.1
    have el1 : (([b] : List Int).length : Int) = 1 := rfl
    rw [m4_holds_p10]
    simp (config := { maxSteps := 1000000 }) (disch := first | assumption | exact W.i _ _ | exact sLine_i W _ _ _ | exact W1.i _ _ | exact hg _ _ | exact W3.i _ _ | (refine ⟨?_, ?_⟩ <;> omega) | omega | (simp only [sW_1, sW_2, sW_3, sW_4, sW_5, sW_8] <;> first | assumption | omega | (refine ⟨?_, ?_⟩ <;> omega)) | (simp only [sT_1, sT_2, sT_3, sT_4, sT_5, sT_8] <;> first | assumption | omega | (refine ⟨?_, ?_⟩ <;> omega))) only [Int.reduceEq, Int.reduceLT, Int.reduceLE, Int.reduceNeg, Int.reduceAdd, Int.reduceSub, Int.reduceMul, if_true, if_false, not_true, not_false_eq_true, false_or, or_false, true_or, or_true, true_and, and_true, false_and, and_false, iI_on, iI_mul, iI_add, iI_sub, iI_neg, ap_if, mp_eq, mz_0, mz_1, mz_b, b2_0, b2_1, iI_lt, iI_le, iI_inj, mb_div, mb_rem, g11 h' k, l7 h' k, show ce l ≤ i by omega, el1, g13 h' k, sf_ld _ (show 55 ≤ lP h v by omega) (s16 h' k), hb0, m4_holds_p176, m4_holds_p177]
    rcases hb with rfl | rfl <;> rfl
  | succ m ih =>
    intro n h' i st k hst hv hlen hx hi him hn
    obtain ⟨n, rfl⟩ : ∃ q, n = q + 1 := ⟨n - 1, by omega⟩
    have hx : (match xM e (ct (cc i)) st with
      | none => none
      | some q => xMs e ((rowL cc m (i + 1)).map ct) q) = some [b] := hx
    have okc := hok i hi (by omega)
    have i32c : i32 (cc i) := by unfold okCode at okc; omega
    rw [m4_holds_p10]
    simp (config := { maxSteps := 1000000 }) (disch := first | assumption | exact W.i _ _ | exact sLine_i W _ _ _ | exact W1.i _ _ | exact hg _ _ | exact W3.i _ _ | (refine ⟨?_, ?_⟩ <;> omega) | omega | (simp only [sW_1, sW_2, sW_3, sW_4, sW_5, sW_8] <;> first | assumption | omega | (refine ⟨?_, ?_⟩ <;> omega)) | (simp only [sT_1, sT_2, sT_3, sT_4, sT_5, sT_8] <;> first | assumption | omega | (refine ⟨?_, ?_⟩ <;> omega))) only [Int.reduceEq, Int.reduceLT, Int.reduceLE, Int.reduceNeg, Int.reduceAdd, Int.reduceSub, Int.reduceMul, if_true, if_false, not_true, not_false_eq_true, false_or, or_false, true_or, or_true, true_and, and_true, false_and, and_false, iI_on, iI_mul, iI_add, iI_sub, iI_neg, ap_if, mp_eq, mz_0, mz_1, mz_b, b2_0, b2_1, iI_lt, iI_le, iI_inj, mb_div, mb_rem, g11 h' k, l7 h' k, show ¬ ce l ≤ i by omega, g12 h' k, l8 h' k i hi (by omega), g13 h' k]
    generalize cc i = c at okc i32c hx
    unfold okCode at okc
    by_cases ch : c ≤ 1008
    · have c20 : ¬ 2000 ≤ c := by omega
      obtain ⟨cj, c7⟩ := ct_low (c := c) (by omega) ch
      unfold xM at hx
      rw [if_neg c7, if_neg cj] at hx
      by_cases c16 : st.length < 16
      · rw [if_pos c16] at hx
        have hev : okV (e (ct c)) ∧ (c < 1000 → e (ct c) = c) := by
          by_cases c1000 : c < 1000
          · have e1 : ct c = 1000 + c := by
              unfold ct
              rw [if_pos c1000]
            have e2 := he.2.2 (1000 + c) (by omega)
            rw [e1, e2]
            exact ⟨⟨by omega, by omega⟩, fun _ => by omega⟩
          · exact ⟨he2 c (by omega) ch, fun q => absurd q c1000⟩
        have nx := ih n (hPut h' (lP h v + 4) (st.length : Int) (e (ct c))) (i + 1) (e (ct c) :: st) (k.st H.1.2.1 _ _) ⟨sf_at ⟨by have := hev.1; omega, by have := hev.1; omega⟩, stk_c (fun j q0 q1 => (sf_ne (by omega) q0 (by omega)).symm) hst⟩ (fun x hx => by
          rcases List.mem_cons.mp hx with q | q
          · subst q; exact hev.1
          · exact hv x q) (by simp; omega) hx (by omega) (by omega) (by omega)
        have el4 : ((e (ct c) :: st).length : Int) = st.length + 1 := by simp
        rw [el4] at nx
        have stc := fun f : Unit → gM Int32 => cK_st (rho := rho) (h := h') (j := (st.length : Int)) (x := e (ct c)) f (q := lP h v + 4) (by omega) (s16 h' k) (by omega) (by omega) (by omega)
        by_cases c1000 : c < 1000
        · have e3 := hev.2 c1000
          rw [e3] at stc nx
          simp (config := { maxSteps := 1000000 }) (disch := first | assumption | exact W.i _ _ | exact sLine_i W _ _ _ | exact W1.i _ _ | exact hg _ _ | exact W3.i _ _ | (refine ⟨?_, ?_⟩ <;> omega) | omega | (simp only [sW_1, sW_2, sW_3, sW_4, sW_5, sW_8] <;> first | assumption | omega | (refine ⟨?_, ?_⟩ <;> omega)) | (simp only [sT_1, sT_2, sT_3, sT_4, sT_5, sT_8] <;> first | assumption | omega | (refine ⟨?_, ?_⟩ <;> omega))) only [Int.reduceEq, Int.reduceLT, Int.reduceLE, Int.reduceNeg, Int.reduceAdd, Int.reduceSub, Int.reduceMul, if_true, if_false, not_true, not_false_eq_true, false_or, or_false, true_or, or_true, true_and, and_true, false_and, and_false, iI_on, iI_mul, iI_add, iI_sub, iI_neg, ap_if, mp_eq, mz_0, mz_1, mz_b, b2_0, b2_1, iI_lt, iI_le, iI_inj, mb_div, mb_rem, c20, show (st.length : Int) < 16 by omega, show ¬ 1000 ≤ c by omega, m4_holds_p72, m4_holds_p152, stc]
          exact nx
        · have e3 : rho 12 (c - 1000) = e (ct c) := hvw c (by omega) ch
          simp (config := { maxSteps := 1000000 }) (disch := first | assumption | exact W.i _ _ | exact sLine_i W _ _ _ | exact W1.i _ _ | exact hg _ _ | exact W3.i _ _ | (refine ⟨?_, ?_⟩ <;> omega) | omega | (simp only [sW_1, sW_2, sW_3, sW_4, sW_5, sW_8] <;> first | assumption | omega | (refine ⟨?_, ?_⟩ <;> omega)) | (simp only [sT_1, sT_2, sT_3, sT_4, sT_5, sT_8] <;> first | assumption | omega | (refine ⟨?_, ?_⟩ <;> omega))) only [Int.reduceEq, Int.reduceLT, Int.reduceLE, Int.reduceNeg, Int.reduceAdd, Int.reduceSub, Int.reduceMul, if_true, if_false, not_true, not_false_eq_true, false_or, or_false, true_or, or_true, true_and, and_true, false_and, and_false, iI_on, iI_mul, iI_add, iI_sub, iI_neg, ap_if, mp_eq, mz_0, mz_1, mz_b, b2_0, b2_1, iI_lt, iI_le, iI_inj, mb_div, mb_rem, c20, show (st.length : Int) < 16 by omega, show 1000 ≤ c by omega, (hC.hs k).l12, e3, m4_holds_p72, m4_holds_p152, stc]
          exact nx
      · rw [if_neg c16] at hx; cases hx
    · have c20 : 2000 ≤ c := by omega
      unfold xM at hx
      by_cases c4 : c = 2004
      · subst c4
        rw [if_pos (show ct 2004 = 7 from rfl)] at hx
        match st, hst, hv, hlen, hx with
        | [], _, _, _, hx => cases hx
        | a :: r, hst, hv, hlen, hx =>
          have ha := hv a List.mem_cons_self
          have el : ((a :: r).length : Int) = r.length + 1 := by simp
          have el2 : (r.length : Int) + 1 - 1 = r.length := by omega
          dsimp only at hx
          by_cases c : a = 0 ∨ a = 1
          · rw [if_pos c] at hx
            have hr : r.length + 1 ≤ 16 := hlen
            have hb : sf h' (lP h v) (r.length : Int) = a := hst.1
            have nx := ih n (hPut h' (lP h v + 4) (r.length : Int) (1 - a)) (i + 1) ((1 - a) :: r) (k.st H.1.2.1 _ _) ⟨sf_at ⟨by omega, by omega⟩, stk_c (fun j q0 q1 => (sf_ne (by omega) q0 (by omega)).symm) hst.2⟩ (fun x hx => by
              rcases List.mem_cons.mp hx with q | q
              · subst q; exact ⟨by omega, by omega⟩
              · exact hv x (List.mem_cons_of_mem _ q)) hlen hx (by omega) (by omega) (by omega)
            have el4 : (((1 - a) :: r).length : Int) = r.length + 1 := by simp
            rw [el4] at nx
            have stc := fun f : Unit → gM Int32 => cK_st (rho := rho) (h := h') (j := (r.length : Int)) (x := 1 - a) f (q := lP h v + 4) (by omega) (s16 h' k) (by omega) (by omega) (by omega)
            rw [el]
            simp (config := { maxSteps := 1000000 }) (disch := first | assumption | exact W.i _ _ | exact sLine_i W _ _ _ | exact W1.i _ _ | exact hg _ _ | exact W3.i _ _ | (refine ⟨?_, ?_⟩ <;> omega) | omega | (simp only [sW_1, sW_2, sW_3, sW_4, sW_5, sW_8] <;> first | assumption | omega | (refine ⟨?_, ?_⟩ <;> omega)) | (simp only [sT_1, sT_2, sT_3, sT_4, sT_5, sT_8] <;> first | assumption | omega | (refine ⟨?_, ?_⟩ <;> omega))) only [Int.reduceEq, Int.reduceLT, Int.reduceLE, Int.reduceNeg, Int.reduceAdd, Int.reduceSub, Int.reduceMul, if_true, if_false, not_true, not_false_eq_true, false_or, or_false, true_or, or_true, true_and, and_true, false_and, and_false, iI_on, iI_mul, iI_add, iI_sub, iI_neg, ap_if, mp_eq, mz_0, mz_1, mz_b, b2_0, b2_1, iI_lt, iI_le, iI_inj, mb_div, mb_rem, show (1 : Int) ≤ r.length + 1 by omega, el2, sf_ld _ (show 55 ≤ lP h v by omega) (s16 h' k), hb, stc, m4_holds_p152]
            exact nx
          · rw [if_neg c] at hx; cases hx
      · have cj : jS (ct c) ∧ (c = 2000 ∨ c = 2001 ∨ c = 2002 ∨ c = 2003 ∨ c = 2005 ∨ c = 2006) := by
          have c6 : c = 2000 ∨ c = 2001 ∨ c = 2002 ∨ c = 2003 ∨ c = 2005 ∨ c = 2006 := by omega
          exact ⟨ct_hi c6, c6⟩
        have c7 : ¬ ct c = 7 := by
          have := cj.1
          omega
        rw [if_neg c7, if_pos cj.1] at hx
        match st, hst, hv, hlen, hx with
        | [], _, _, _, hx => cases hx
        | [_], _, _, _, hx => cases hx
        | y :: a :: r, hst, hv, hlen, hx =>
          have ha := hv a (List.mem_cons_of_mem _ List.mem_cons_self)
          have hy := hv y List.mem_cons_self
          have el : ((y :: a :: r).length : Int) = r.length + 2 := by simp; omega
          have el2 : (r.length : Int) + 2 + -1 - 1 = r.length := by omega
          have el3 : (r.length : Int) + 2 + -1 = r.length + 1 := by omega
          have el5 : (r.length : Int) + 1 - 1 = r.length := by omega
          have hr : r.length + 2 ≤ 16 := hlen
          have hb : sf h' (lP h v) (r.length : Int) = a := hst.2.1
          have hb2 : sf h' (lP h v) ((r.length : Int) + 1) = y := by have := hst.1; simpa using this
          simp only [] at hx
          cases hj : jM (ct c) a y with
          | none => rw [hj] at hx; cases hx
          | some q =>
            rw [hj] at hx
            have hq := jM_ok ha hy hj
            have nx := ih n (hPut h' (lP h v + 4) (r.length : Int) q) (i + 1) (q :: r) (k.st H.1.2.1 _ _) ⟨sf_at ⟨by omega, by omega⟩, stk_c (fun j q0 q1 => (sf_ne (by omega) q0 (by omega)).symm) hst.2.2⟩ (fun x hx => by
              rcases List.mem_cons.mp hx with z | z
              · subst z; exact hq
              · exact hv x (List.mem_cons_of_mem _ (List.mem_cons_of_mem _ z))) (by simp at hlen ⊢; omega) hx (by omega) (by omega) (by omega)
            have el4 : ((q :: r).length : Int) = r.length + 1 := by simp
            rw [el4] at nx
            have stc := fun f : Unit → gM Int32 => cK_st (rho := rho) (h := h') (j := (r.length : Int)) (x := q) f (q := lP h v + 4) (by omega) (s16 h' k) (by omega) (by omega) (by omega)
            rw [el]
            simp (config := { maxSteps := 1000000 }) (disch := first | assumption | exact W.i _ _ | exact sLine_i W _ _ _ | exact W1.i _ _ | exact hg _ _ | exact W3.i _ _ | (refine ⟨?_, ?_⟩ <;> omega) | omega | (simp only [sW_1, sW_2, sW_3, sW_4, sW_5, sW_8] <;> first | assumption | omega | (refine ⟨?_, ?_⟩ <;> omega)) | (simp only [sT_1, sT_2, sT_3, sT_4, sT_5, sT_8] <;> first | assumption | omega | (refine ⟨?_, ?_⟩ <;> omega))) only [Int.reduceEq, Int.reduceLT, Int.reduceLE, Int.reduceNeg, Int.reduceAdd, Int.reduceSub, Int.reduceMul, if_true, if_false, not_true, not_false_eq_true, false_or, or_false, true_or, or_true, true_and, and_true, false_and, and_false, iI_on, iI_mul, iI_add, iI_sub, iI_neg, ap_if, mp_eq, mz_0, mz_1, mz_b, b2_0, b2_1, iI_lt, iI_le, iI_inj, mb_div, mb_rem, c20, c4, g13 h' k, show (2 : Int) ≤ r.length + 2 by omega, el2, el3, el5, sf_ld _ (show 55 ≤ lP h v by omega) (s16 h' k), hb, hb2, mb_eq (C_joined cj.2 rfl ha hy hj _), stc, m4_holds_p152]
            exact nx
theorem VW.ok {e w : Int → Int} (he : EnvOK e) (_ : VW e w) : ∀ c, 1000 ≤ c → c ≤ 1008 → okV (e (ct c)) := fun c h0 h1 => by
  have : c = 1000 ∨ c = 1001 ∨ c = 1002 ∨ c = 1003 ∨ c = 1004 ∨ c = 1005 ∨ c = 1006 ∨ c = 1007 ∨ c = 1008 := by omega
  rcases this with rfl | rfl | rfl | rfl | rfl | rfl | rfl | rfl | rfl
  · rcases he.1 1 (by omega) (by omega) with q | q <;> (show okV (e 1)) <;> rw [q] <;> exact ⟨by omega, by omega⟩
  · rcases he.1 2 (by omega) (by omega) with q | q <;> (show okV (e 2)) <;> rw [q] <;> exact ⟨by omega, by omega⟩
  · rcases he.1 3 (by omega) (by omega) with q | q <;> (show okV (e 3)) <;> rw [q] <;> exact ⟨by omega, by omega⟩
  · rcases he.1 4 (by omega) (by omega) with q | q <;> (show okV (e 4)) <;> rw [q] <;> exact ⟨by omega, by omega⟩
  · rcases he.1 5 (by omega) (by omega) with q | q <;> (show okV (e 5)) <;> rw [q] <;> exact ⟨by omega, by omega⟩
  · rcases he.1 6 (by omega) (by omega) with q | q <;> (show okV (e 6)) <;> rw [q] <;> exact ⟨by omega, by omega⟩
  · have := he.2.1 12 (by omega) (by omega)
    show okV (e 12)
    exact ⟨by omega, by omega⟩
  · have := he.2.1 13 (by omega) (by omega)
    show okV (e 13)
    exact ⟨by omega, by omega⟩
  · have := he.2.1 11 (by omega) (by omega)
    show okV (e 11)
    exact ⟨by omega, by omega⟩
theorem C_holds (hC : OKC h) (R : RDs 1 sg rho h) (hL : LB h) (W : WD sg) {e : Int → Int} (he : EnvOK e) (hvw : VW e (rho 12)) {v l : Int} (hv0 : 0 ≤ v) (hv1 : v < sg 1 4) (hl0 : 0 ≤ l) (hl1 : l < sg 5 (2 * v)) (hs0 : 4 ≤ sLine sg v l 0) (hs1 : sLine sg v l 0 ≤ 6) :
    ∃ h', hS h h' ∧ m4_holds (lP h v) (iI l) 12 (cK rho h) = some (iI (b2 (sHolds sg v l e)), cK rho h') := by
  have n4 := W.n4
  have nv := W.ve v hv0 hv1
  have H := (R.la hv0 hv1).2
  have hp84 := H.1.1
  obtain ⟨_, _, _, _, _, _, hw⟩ := W.li v hv0 hv1 l hl0 hl1
  obtain ⟨h5, h6, h56, hc1, hc2⟩ := hw hs0 hs1
  obtain ⟨b, hb, hx⟩ := hc2 _ he
  obtain ⟨nc, f1, f2, f3, cs, ce, cc, f4, f5⟩ := H.2.2.2.2.2
  obtain ⟨q1, q2, q3, q4, q5⟩ := f4 l hl0 hl1
  obtain ⟨z1, z2, z3, z4, z5⟩ := q5 hs0 hs1
  have hx2 : xMs e ((rowL cc (ce l - cs l).toNat (cs l)).map ct) [] = some [b] := (z5 e he).trans hx
  obtain ⟨h', k, hr⟩ := C_holdsL hC R hL W he (VW.ok he hvw) hvw hv0 hv1 hl0 hl1 hb f1 f2 f3 q3 z1 z2 z3 z4 f5 (ce l - cs l).toNat FU h (cs l) [] (hS.rf h) trivial (fun x hx => by cases hx) (by simp) hx2 (by omega) (by omega) (FU_lt (by omega))
  refine ⟨h', k, ?_⟩
  unfold m4_holds
  rw [R.r10 hv0 hv1, ldI_ok (x := cs l) _ (cK rho h) (n := (sg 5 (2 * v)).toNat) (f2 6 (by omega)) hl0 (by omega) (by omega) ((cK_d (by omega)).trans q2)]
  have e0 : (([] : List Int).length : Int) = 0 := rfl
  rw [e0] at hr
  have e1 : (b = 1) ↔ sHolds sg v l e := by
    show b = 1 ↔ xMs _ _ [] = some [1]
    rw [show xMs e (sSigns sg v l) [] = some [b] from hx]
    simp
  rw [← b2_c e1]
  exact hr
theorem imax_i {a b : Int} (ha : i32 a) (hb : i32 b) : imax (iI a) (iI b) = iI (if a < b then b else a) := by
  unfold imax
  simp only [iI_lt ha hb]
  split <;> rfl
theorem imin_i {a b : Int} (ha : i32 a) (hb : i32 b) : imin (iI a) (iI b) = iI (if b < a then b else a) := by
  unfold imin
  simp only [iI_lt hb ha]
  split <;> rfl
theorem C_graveFor (hC : OKC h) (R : RDs 1 sg rho h) (hL : LB h) (W : WD sg) {d v k : Int} (hd0 : 0 ≤ d) (hd1 : d < sg 1 2) (hv0 : 0 ≤ v) (hv1 : v < sg 1 4) (hvw : VW (sEnv sg d k (sPts sg d v k)) (rho 12)) :
    ∃ h', hS h h' ∧ m4_graveFor (lP h v) 12 (cK rho h) = some (iI (sGrave sg d v k), cK rho h') := by
  have n4 := W.n4
  have nd := W.de d hd0 hd1
  have nv := W.ve v hv0 hv1
  have hp := sPts_b W hv0 hv1 (d := d) (k := k)
  have he := sEnv_ok W hd0 hd1 (k := k) (p := sPts sg d v k) (by omega)
  have ht := sTold_b W hv0 hv1 (s := 0) (k := sg 3 (3 * d + 1)) (Or.inl rfl)
  have hk : rho 12 6 = sg 3 (3 * d + 1) := (hvw 1006 (by omega) (by omega)).trans rfl
  have key := lopQ (F := fun n (a : Int) i s => m4_graveFor_p12 n (lP h v) 12 (iI a) (iI i) s) (K := fun a s => some (iI (clamp a), s)) (N := sg 5 (2 * v)) (st := fun a l => if (sLine sg v l 0 = 4 ∨ sLine sg v l 0 = 5) ∧ sHolds sg v l (sEnv sg d k (sPts sg d v k)) then a + (if sLine sg v l 0 = 4 then sLine sg v l 1 else - sLine sg v l 1) else a) (R := fun a i s => (-5 * i ≤ a ∧ a ≤ 9 + 5 * i) ∧ ∃ h', hS h h' ∧ s = cK rho h') (fun n a s hR => ?_) (fun n a i s hR h0 h1 => ?_) (sg 5 (2 * v)).toNat FU (sTold sg v 0 (sg 3 (3 * d + 1))) 0 (cK rho h) ⟨by omega, h, hS.rf h, rfl⟩ (by omega) (by omega) (FU_lt (by omega))
  · obtain ⟨s', ⟨_, h', k', rfl⟩, e⟩ := key
    refine ⟨h', k', ?_⟩
    unfold m4_graveFor
    simp (config := { maxSteps := 1000000 }) (disch := first | assumption | exact W.i _ _ | exact sLine_i W _ _ _ | exact W1.i _ _ | exact hg _ _ | exact W3.i _ _ | (refine ⟨?_, ?_⟩ <;> omega) | omega | (simp only [sW_1, sW_2, sW_3, sW_4, sW_5, sW_8] <;> first | assumption | omega | (refine ⟨?_, ?_⟩ <;> omega)) | (simp only [sT_1, sT_2, sT_3, sT_4, sT_5, sT_8] <;> first | assumption | omega | (refine ⟨?_, ?_⟩ <;> omega))) only [Int.reduceEq, Int.reduceLT, Int.reduceLE, Int.reduceNeg, Int.reduceAdd, Int.reduceSub, Int.reduceMul, if_true, if_false, not_true, not_false_eq_true, false_or, or_false, true_or, or_true, true_and, and_true, false_and, and_false, iI_on, iI_mul, iI_add, iI_sub, iI_neg, ap_if, mp_eq, mz_0, mz_1, mz_b, b2_0, b2_1, iI_lt, iI_le, iI_inj, mb_div, mb_rem, hC.m0, hC.m1, hC.m13, hC.m15, hC.m27, hC.m29, hC.m38, hC.m40, hC.g0_0, hC.g0_1, hC.g0_3, hC.g0_4, hC.g0_5, hC.g0_6, hC.g0_7, hC.g0_8, hC.g0_9, hC.g0_10, hC.g0_11, hC.g0_12, hC.g0_13, hC.g0_14, hC.g1_2, hC.g1_3, hC.g1_5, hC.g1_7, hC.g1_9, hC.g1_11, hC.g1_12, hC.g1_14, hC.g1_15, hC.g1_16, hC.g1_17, hC.g1_18, hC.g13_0, hC.g15_2, hC.g15_3, hC.g15_5, hC.g15_7, hC.g15_9, hC.g15_11, hC.g15_12, hC.g15_14, hC.g15_15, hC.g15_16, hC.g15_17, hC.g15_18, hC.g27_0, hC.g29_3, hC.g29_4, hC.g29_5, hC.g29_6, hC.g29_7, hC.g29_8, hC.g29_9, hC.g29_10, hC.g38_0, hC.g40_0, hC.s0_2, hC.s1_0, hC.s1_1, hC.s1_4, hC.s1_6, hC.s1_8, hC.s1_10, hC.s1_13, hC.s13_1, hC.s15_0, hC.s15_1, hC.s15_4, hC.s15_6, hC.s15_8, hC.s15_10, hC.s15_13, hC.s27_1, hC.s29_0, hC.s29_1, hC.s29_2, hC.s29_11, hC.s29_12, hC.s38_1, hC.s40_1, hC.s40_2, hC.l2, hC.l3, hC.l8, hC.l9, hC.l10, hC.l11, hC.l12, hC.l14, hC.l16, hC.l17, hC.l22, hC.l23, hC.l24, hC.l25, hC.l26, hC.l28, hC.l30, hC.l31, hC.l32, hC.l33, hC.l34, hC.l36, hC.l37, hC.l39, hC.l41, hC.l43, hC.l44, hC.l45, hC.l46, hC.l47, hC.l48, hC.l49, hC.l50, hC.l51, hC.l52, hC.l53, hC.l54, hC.l35, hC.n33, hC.n36, hC.dl R W, hC.fl R W, hC.ll R W, hC.tl R W, R.d1, R.d2, R.d3, R.d4, R.dn, R.da, R.f1, R.f2, R.f3, R.f4, R.fn, R.fa, R.t1, R.t2, R.t3, R.t4, R.t5, R.tn, R.ta, R.l0, R.l1, R.l2, R.l3, R.l7, R.ln, R.lv, R.r5, R.r6, R.r8, R.r13, R.r4, R.r10, R.r11, R.r12, R.r9, R.mt, R.ml, R.lg, R.lp, R.lr, R.lo W, R.ls W, R.1.1, R.1.2.1, R.1.2.2.1, R.1.2.2.2.1, R.1.2.2.2.2.1, R.1.2.2.2.2.2.1, R.1.2.2.2.2.2.2, R.born, R.good, R.unw, R.hp, R.hf, R.ht, hk]
    exact e
  · obtain ⟨hI, h', k', rfl⟩ := hR
    have R' := R.hs (Or.inl rfl) hL (cS.rf _) k'
    have el := k'.l v
    have e1 := fun f : Int32 → gM Int32 => R'.l1 (r := rho) hv0 hv1 f
    rw [el] at e1
    show m4_graveFor_p12 (n + 1) (lP h v) 12 (iI a) (iI (sg 5 (2 * v))) (cK rho h') = some (iI (clamp a), cK rho h')
    rw [m4_graveFor_p12]
    simp (config := { maxSteps := 1000000 }) (disch := first | assumption | exact W.i _ _ | exact sLine_i W _ _ _ | exact W1.i _ _ | exact hg _ _ | exact W3.i _ _ | (refine ⟨?_, ?_⟩ <;> omega) | omega | (simp only [sW_1, sW_2, sW_3, sW_4, sW_5, sW_8] <;> first | assumption | omega | (refine ⟨?_, ?_⟩ <;> omega)) | (simp only [sT_1, sT_2, sT_3, sT_4, sT_5, sT_8] <;> first | assumption | omega | (refine ⟨?_, ?_⟩ <;> omega))) only [Int.reduceEq, Int.reduceLT, Int.reduceLE, Int.reduceNeg, Int.reduceAdd, Int.reduceSub, Int.reduceMul, if_true, if_false, not_true, not_false_eq_true, false_or, or_false, true_or, or_true, true_and, and_true, false_and, and_false, iI_on, iI_mul, iI_add, iI_sub, iI_neg, ap_if, mp_eq, mz_0, mz_1, mz_b, b2_0, b2_1, iI_lt, iI_le, iI_inj, mb_div, mb_rem, e1]
    rw [if_pos (by omega), imin_i ⟨by omega, by omega⟩ ⟨by omega, by omega⟩, imax_i ⟨by omega, by omega⟩ (by split <;> exact ⟨by omega, by omega⟩)]
    have ec : (if 0 < (if a < 4 then a else 4) then (if a < 4 then a else 4) else 0) = clamp a := by
      unfold clamp
      repeat' split
      all_goals omega
    rw [ec]
  · obtain ⟨hI, h', k', rfl⟩ := hR
    have R' := R.hs (Or.inl rfl) hL (cS.rf _) k'
    have C' := hC.hs k'
    have L' := hL.hs k'
    have el := k'.l v
    have e1 := fun f : Int32 → gM Int32 => R'.l1 (r := rho) hv0 hv1 f
    have e9 := fun f : Nat → gM Int32 => R'.r9 (r := rho) hv0 hv1 f
    have es := fun f : Int32 → gM Int32 => R'.ls W (r := rho) hv0 hv1 h0 h1 f
    have em := fun (g : gM Int32) (f : Int32 → gM Int32) => R'.ml (r := rho) hv0 hv1 g f
    rw [el] at e1 e9 es em
    obtain ⟨w0, w1, _, _, _, w4, _⟩ := W.li v hv0 hv1 i h0 h1
    have hst : lawSt sg v i = if sLine sg v i 0 = 4 then sLine sg v i 1 else if sLine sg v i 0 = 5 then - sLine sg v i 1 else 0 := rfl
    have n5 : ¬ sg 5 (2 * v) ≤ i := by omega
    have bnd : -4 ≤ lawSt sg v i ∧ lawSt sg v i ≤ 4 := by
      rw [hst]
      split
      · have := w4 (Or.inl (by assumption)); omega
      · split
        · have := w4 (Or.inr (by assumption)); omega
        · omega
    show ∃ s', ((-5 * (i + 1) ≤ (if (sLine sg v i 0 = 4 ∨ sLine sg v i 0 = 5) ∧ sHolds sg v i (sEnv sg d k (sPts sg d v k)) then a + (if sLine sg v i 0 = 4 then sLine sg v i 1 else - sLine sg v i 1) else a) ∧ (if (sLine sg v i 0 = 4 ∨ sLine sg v i 0 = 5) ∧ sHolds sg v i (sEnv sg d k (sPts sg d v k)) then a + (if sLine sg v i 0 = 4 then sLine sg v i 1 else - sLine sg v i 1) else a) ≤ 9 + 5 * (i + 1)) ∧ ∃ h', hS h h' ∧ s' = cK rho h') ∧ m4_graveFor_p12 (n + 1) (lP h v) 12 (iI a) (iI i) (cK rho h') = m4_graveFor_p12 n (lP h v) 12 (iI (if (sLine sg v i 0 = 4 ∨ sLine sg v i 0 = 5) ∧ sHolds sg v i (sEnv sg d k (sPts sg d v k)) then a + (if sLine sg v i 0 = 4 then sLine sg v i 1 else - sLine sg v i 1) else a)) (iI (i + 1)) s'
    rw [m4_graveFor_p12]
    by_cases cz : lawSt sg v i = 0
    · have ee : (if (sLine sg v i 0 = 4 ∨ sLine sg v i 0 = 5) ∧ sHolds sg v i (sEnv sg d k (sPts sg d v k)) then a + (if sLine sg v i 0 = 4 then sLine sg v i 1 else - sLine sg v i 1) else a) = a := by
        rw [hst] at cz
        split
        · rename_i c
          rcases c.1 with q | q
          · rw [if_pos q] at cz ⊢
            omega
          · rw [if_neg (by omega), if_pos q] at cz
            rw [if_neg (by omega)]
            omega
        · rfl
      rw [ee]
      refine ⟨_, ⟨by omega, h', k', rfl⟩, ?_⟩
      simp (config := { maxSteps := 1000000 }) (disch := first | assumption | exact W.i _ _ | exact sLine_i W _ _ _ | exact W1.i _ _ | exact hg _ _ | exact W3.i _ _ | (refine ⟨?_, ?_⟩ <;> omega) | omega | (simp only [sW_1, sW_2, sW_3, sW_4, sW_5, sW_8] <;> first | assumption | omega | (refine ⟨?_, ?_⟩ <;> omega)) | (simp only [sT_1, sT_2, sT_3, sT_4, sT_5, sT_8] <;> first | assumption | omega | (refine ⟨?_, ?_⟩ <;> omega))) only [Int.reduceEq, Int.reduceLT, Int.reduceLE, Int.reduceNeg, Int.reduceAdd, Int.reduceSub, Int.reduceMul, if_true, if_false, not_true, not_false_eq_true, false_or, or_false, true_or, or_true, true_and, and_true, false_and, and_false, iI_on, iI_mul, iI_add, iI_sub, iI_neg, ap_if, mp_eq, mz_0, mz_1, mz_b, b2_0, b2_1, iI_lt, iI_le, iI_inj, mb_div, mb_rem, e1, n5, e9, es, cz, m4_graveFor_p47]
    · have c45 : sLine sg v i 0 = 4 ∨ sLine sg v i 0 = 5 := by
        rw [hst] at cz
        by_cases q : sLine sg v i 0 = 4
        · exact Or.inl q
        · rw [if_neg q] at cz
          by_cases q2 : sLine sg v i 0 = 5
          · exact Or.inr q2
          · rw [if_neg q2] at cz
            exact absurd rfl cz
      have ev : lawSt sg v i = if sLine sg v i 0 = 4 then sLine sg v i 1 else - sLine sg v i 1 := by
        rw [hst]
        rcases c45 with q | q
        · rw [if_pos q, if_pos q]
        · rw [if_neg (by omega), if_pos q, if_neg (by omega)]
      obtain ⟨h2, k2, eh⟩ := C_holds C' R' L' W he hvw hv0 hv1 h0 h1 (by omega) (by omega)
      rw [el] at eh
      have k3 := k'.tr k2
      have R2 := R.hs (Or.inl rfl) hL (cS.rf _) k3
      have e92 := fun f : Nat → gM Int32 => R2.r9 (r := rho) hv0 hv1 f
      have es2 := fun f : Int32 → gM Int32 => R2.ls W (r := rho) hv0 hv1 h0 h1 f
      rw [k3.l v] at e92 es2
      refine ⟨cK rho h2, ⟨?_, h2, k3, rfl⟩, ?_⟩
      · rw [← ev]
        split <;> omega
      · rw [← ev]
        by_cases ch : sHolds sg v i (sEnv sg d k (sPts sg d v k))
        · rw [b2_t ch] at eh
          rw [if_pos ⟨c45, ch⟩]
          simp (config := { maxSteps := 1000000 }) (disch := first | assumption | exact W.i _ _ | exact sLine_i W _ _ _ | exact W1.i _ _ | exact hg _ _ | exact W3.i _ _ | (refine ⟨?_, ?_⟩ <;> omega) | omega | (simp only [sW_1, sW_2, sW_3, sW_4, sW_5, sW_8] <;> first | assumption | omega | (refine ⟨?_, ?_⟩ <;> omega)) | (simp only [sT_1, sT_2, sT_3, sT_4, sT_5, sT_8] <;> first | assumption | omega | (refine ⟨?_, ?_⟩ <;> omega))) only [Int.reduceEq, Int.reduceLT, Int.reduceLE, Int.reduceNeg, Int.reduceAdd, Int.reduceSub, Int.reduceMul, if_true, if_false, not_true, not_false_eq_true, false_or, or_false, true_or, or_true, true_and, and_true, false_and, and_false, iI_on, iI_mul, iI_add, iI_sub, iI_neg, ap_if, mp_eq, mz_0, mz_1, mz_b, b2_0, b2_1, iI_lt, iI_le, iI_inj, mb_div, mb_rem, e1, n5, e9, es, cz, em, mb_eq eh, e92, es2, m4_graveFor_p47]
        · rw [b2_f ch] at eh
          rw [if_neg (fun q => ch q.2)]
          simp (config := { maxSteps := 1000000 }) (disch := first | assumption | exact W.i _ _ | exact sLine_i W _ _ _ | exact W1.i _ _ | exact hg _ _ | exact W3.i _ _ | (refine ⟨?_, ?_⟩ <;> omega) | omega | (simp only [sW_1, sW_2, sW_3, sW_4, sW_5, sW_8] <;> first | assumption | omega | (refine ⟨?_, ?_⟩ <;> omega)) | (simp only [sT_1, sT_2, sT_3, sT_4, sT_5, sT_8] <;> first | assumption | omega | (refine ⟨?_, ?_⟩ <;> omega))) only [Int.reduceEq, Int.reduceLT, Int.reduceLE, Int.reduceNeg, Int.reduceAdd, Int.reduceSub, Int.reduceMul, if_true, if_false, not_true, not_false_eq_true, false_or, or_false, true_or, or_true, true_and, and_true, false_and, and_false, iI_on, iI_mul, iI_add, iI_sub, iI_neg, ap_if, mp_eq, mz_0, mz_1, mz_b, b2_0, b2_1, iI_lt, iI_le, iI_inj, mb_div, mb_rem, e1, n5, e9, es, cz, em, mb_eq eh, e92, es2, m4_graveFor_p47]
theorem C_rangeFor (hC : OKC h) (R : RDs 1 sg rho h) (hL : LB h) (W : WD sg) {d v k : Int} (hd0 : 0 ≤ d) (hd1 : d < sg 1 2) (hv0 : 0 ≤ v) (hv1 : v < sg 1 4) (hvw : VW (sEnv sg d k (sPts sg d v k)) (rho 12)) :
    ∃ h', hS h h' ∧ m4_rangeFor (lP h v) 12 (cK rho h) = some (iI (orN (sRng sg d v k)), cK rho h') := by
  have hp := sPts_b W hv0 hv1 (d := d) (k := k)
  have hgr := clamp_b (sGr0 sg v (sEnv sg d k (sPts sg d v k)) (sg 5 (2 * v)).toNat (sTold sg v 0 (sg 3 (3 * d + 1))))
  have hgr : 0 ≤ sGrave sg d v k ∧ sGrave sg d v k ≤ 4 := hgr
  have h8 : rho 12 8 = sPts sg d v k := (hvw 1008 (by omega) (by omega)).trans rfl
  obtain ⟨h', k', e⟩ := C_graveFor hC R hL W hd0 hd1 hv0 hv1 hvw
  refine ⟨h', k', ?_⟩
  have R' := R.hs (Or.inl rfl) hL (cS.rf _) k'
  have hof : 0 ≤ sOft (sPts sg d v k) ∧ sOft (sPts sg d v k) ≤ 3 := by
    unfold sOft
    split <;> omega
  have er := fun f : Int32 → gM Int32 => R'.lr (r := rho) (v := v) (g := sGrave sg d v k) (o := sOft (sPts sg d v k)) hv0 hv1 hgr.1 hgr.2 hof.1 hof.2 f
  rw [k'.l v] at er
  have e3 : imin (iI 3) (iI (sPts sg d v k / 3)) = iI (sOft (sPts sg d v k)) := by
    rw [imin_i ⟨by omega, by omega⟩ ⟨by omega, by omega⟩]
    unfold sOft
    have : (if sPts sg d v k / 3 < 3 then sPts sg d v k / 3 else 3) = if 3 < sPts sg d v k / 3 then 3 else sPts sg d v k / 3 := by
      repeat' split
      all_goals omega
    rw [this]
  have et : (sPts sg d v k).tdiv 3 = sPts sg d v k / 3 := Int.tdiv_eq_ediv_of_nonneg (by omega)
  unfold m4_rangeFor sRng
  rw [if_neg (by omega)]
  simp (config := { maxSteps := 1000000 }) (disch := first | assumption | exact W.i _ _ | exact sLine_i W _ _ _ | exact W1.i _ _ | exact hg _ _ | exact W3.i _ _ | (refine ⟨?_, ?_⟩ <;> omega) | omega | (simp only [sW_1, sW_2, sW_3, sW_4, sW_5, sW_8] <;> first | assumption | omega | (refine ⟨?_, ?_⟩ <;> omega)) | (simp only [sT_1, sT_2, sT_3, sT_4, sT_5, sT_8] <;> first | assumption | omega | (refine ⟨?_, ?_⟩ <;> omega))) only [Int.reduceEq, Int.reduceLT, Int.reduceLE, Int.reduceNeg, Int.reduceAdd, Int.reduceSub, Int.reduceMul, if_true, if_false, not_true, not_false_eq_true, false_or, or_false, true_or, or_true, true_and, and_true, false_and, and_false, iI_on, iI_mul, iI_add, iI_sub, iI_neg, ap_if, mp_eq, mz_0, mz_1, mz_b, b2_0, b2_1, iI_lt, iI_le, iI_inj, mb_div, mb_rem, hC.m0, hC.m1, hC.m13, hC.m15, hC.m27, hC.m29, hC.m38, hC.m40, hC.g0_0, hC.g0_1, hC.g0_3, hC.g0_4, hC.g0_5, hC.g0_6, hC.g0_7, hC.g0_8, hC.g0_9, hC.g0_10, hC.g0_11, hC.g0_12, hC.g0_13, hC.g0_14, hC.g1_2, hC.g1_3, hC.g1_5, hC.g1_7, hC.g1_9, hC.g1_11, hC.g1_12, hC.g1_14, hC.g1_15, hC.g1_16, hC.g1_17, hC.g1_18, hC.g13_0, hC.g15_2, hC.g15_3, hC.g15_5, hC.g15_7, hC.g15_9, hC.g15_11, hC.g15_12, hC.g15_14, hC.g15_15, hC.g15_16, hC.g15_17, hC.g15_18, hC.g27_0, hC.g29_3, hC.g29_4, hC.g29_5, hC.g29_6, hC.g29_7, hC.g29_8, hC.g29_9, hC.g29_10, hC.g38_0, hC.g40_0, hC.s0_2, hC.s1_0, hC.s1_1, hC.s1_4, hC.s1_6, hC.s1_8, hC.s1_10, hC.s1_13, hC.s13_1, hC.s15_0, hC.s15_1, hC.s15_4, hC.s15_6, hC.s15_8, hC.s15_10, hC.s15_13, hC.s27_1, hC.s29_0, hC.s29_1, hC.s29_2, hC.s29_11, hC.s29_12, hC.s38_1, hC.s40_1, hC.s40_2, hC.l2, hC.l3, hC.l8, hC.l9, hC.l10, hC.l11, hC.l12, hC.l14, hC.l16, hC.l17, hC.l22, hC.l23, hC.l24, hC.l25, hC.l26, hC.l28, hC.l30, hC.l31, hC.l32, hC.l33, hC.l34, hC.l36, hC.l37, hC.l39, hC.l41, hC.l43, hC.l44, hC.l45, hC.l46, hC.l47, hC.l48, hC.l49, hC.l50, hC.l51, hC.l52, hC.l53, hC.l54, hC.l35, hC.n33, hC.n36, hC.dl R W, hC.fl R W, hC.ll R W, hC.tl R W, R.d1, R.d2, R.d3, R.d4, R.dn, R.da, R.f1, R.f2, R.f3, R.f4, R.fn, R.fa, R.t1, R.t2, R.t3, R.t4, R.t5, R.tn, R.ta, R.l0, R.l1, R.l2, R.l3, R.l7, R.ln, R.lv, R.r5, R.r6, R.r8, R.r13, R.r4, R.r10, R.r11, R.r12, R.r9, R.mt, R.ml, R.lg, R.lp, R.lr, R.lo W, R.ls W, R.1.1, R.1.2.1, R.1.2.2.1, R.1.2.2.2.1, R.1.2.2.2.2.1, R.1.2.2.2.2.2.1, R.1.2.2.2.2.2.2, R.born, R.good, R.unw, R.hp, R.hf, R.ht, h8, et, mb_eq e, e3, er]
theorem C_isBeside (hC : OKC h) (R : RDs 1 sg rho h) (hL : LB h) (W : WD sg) {d v k : Int} (hd0 : 0 ≤ d) (hd1 : d < sg 1 2) (hv0 : 0 ≤ v) (hv1 : v < sg 1 4) (hvw : VW (sEnv sg d k (sPts sg d v k)) (rho 12)) :
    ∃ h', hS h h' ∧ m4_isBeside (lP h v) 12 (cK rho h) = some (iI (b2 (0 ≤ lst (fun l => sLine sg v l 0 = 6 ∧ sHolds sg v l (sEnv sg d k (sPts sg d v k))) (sg 5 (2 * v)).toNat)), cK rho h') := by
  have nv := W.ve v hv0 hv1
  have hp := sPts_b W hv0 hv1 (d := d) (k := k)
  have he := sEnv_ok W hd0 hd1 (k := k) (p := sPts sg d v k) (by omega)
  have key : ∀ (m n : Nat) (i : Int) (h' : gH), hS h h' → 0 ≤ i → i + m = sg 5 (2 * v) → m < n → (∀ j, 0 ≤ j → j < i → ¬ (sLine sg v j 0 = 6 ∧ sHolds sg v j (sEnv sg d k (sPts sg d v k)))) →
      ∃ h'', hS h h'' ∧ m4_isBeside_p2 n (lP h v) 12 (iI i) (cK rho h') = some (iI (b2 (0 ≤ lst (fun l => sLine sg v l 0 = 6 ∧ sHolds sg v l (sEnv sg d k (sPts sg d v k))) (sg 5 (2 * v)).toNat)), cK rho h'') := by
    intro m
    induction m with
    | zero =>
      intro n i h' k' hi him hn hno
      obtain ⟨n, rfl⟩ : ∃ q, n = q + 1 := ⟨n - 1, by omega⟩
      refine ⟨h', k', ?_⟩
      have R' := R.hs (Or.inl rfl) hL (cS.rf _) k'
      have e1 := fun f : Int32 → gM Int32 => R'.l1 (r := rho) hv0 hv1 f
      rw [k'.l v] at e1
      have e0 : lst (fun l => sLine sg v l 0 = 6 ∧ sHolds sg v l (sEnv sg d k (sPts sg d v k))) (sg 5 (2 * v)).toNat = -1 := lst_is _ (by omega) (by omega) (fun q => by omega) (fun j _ q1 q2 => hno j q1 (by omega))
      rw [m4_isBeside_p2, e0, b2_f (by omega)]
      simp (config := { maxSteps := 1000000 }) (disch := first | assumption | exact W.i _ _ | exact sLine_i W _ _ _ | exact W1.i _ _ | exact hg _ _ | exact W3.i _ _ | (refine ⟨?_, ?_⟩ <;> omega) | omega | (simp only [sW_1, sW_2, sW_3, sW_4, sW_5, sW_8] <;> first | assumption | omega | (refine ⟨?_, ?_⟩ <;> omega)) | (simp only [sT_1, sT_2, sT_3, sT_4, sT_5, sT_8] <;> first | assumption | omega | (refine ⟨?_, ?_⟩ <;> omega))) only [Int.reduceEq, Int.reduceLT, Int.reduceLE, Int.reduceNeg, Int.reduceAdd, Int.reduceSub, Int.reduceMul, if_true, if_false, not_true, not_false_eq_true, false_or, or_false, true_or, or_true, true_and, and_true, false_and, and_false, iI_on, iI_mul, iI_add, iI_sub, iI_neg, ap_if, mp_eq, mz_0, mz_1, mz_b, b2_0, b2_1, iI_lt, iI_le, iI_inj, mb_div, mb_rem, e1]
      rw [if_pos (by omega)]
    | succ m ih =>
      intro n i h' k' hi him hn hno
      obtain ⟨n, rfl⟩ : ∃ q, n = q + 1 := ⟨n - 1, by omega⟩
      have R' := R.hs (Or.inl rfl) hL (cS.rf _) k'
      have C' := hC.hs k'
      have L' := hL.hs k'
      have e1 := fun f : Int32 → gM Int32 => R'.l1 (r := rho) hv0 hv1 f
      have e4 := fun f : Nat → gM Int32 => R'.r4 (r := rho) hv0 hv1 f
      have eo := fun f : Int32 → gM Int32 => R'.lo W (r := rho) hv0 hv1 hi (show i < sg 5 (2 * v) by omega) f
      have em := fun (g : gM Int32) (f : Int32 → gM Int32) => R'.ml (r := rho) hv0 hv1 g f
      rw [k'.l v] at e1 e4 eo em
      have n5 : ¬ sg 5 (2 * v) ≤ i := by omega
      have i32l := sLine_i W v i 0
      rw [m4_isBeside_p2]
      by_cases c6 : sLine sg v i 0 = 6
      · obtain ⟨h2, k2, eh⟩ := C_holds C' R' L' W he hvw hv0 hv1 hi (show i < sg 5 (2 * v) by omega) (by omega) (by omega)
        rw [k'.l v] at eh
        by_cases ch : sHolds sg v i (sEnv sg d k (sPts sg d v k))
        · rw [b2_t ch] at eh
          refine ⟨h2, k'.tr k2, ?_⟩
          have e0 : i ≤ lst (fun l => sLine sg v l 0 = 6 ∧ sHolds sg v l (sEnv sg d k (sPts sg d v k))) (sg 5 (2 * v)).toNat := by
            rcases Int.lt_or_le (lst (fun l => sLine sg v l 0 = 6 ∧ sHolds sg v l (sEnv sg d k (sPts sg d v k))) (sg 5 (2 * v)).toNat) i with q | q
            · exact absurd ⟨c6, ch⟩ (lst_no _ _ i q hi (by omega))
            · exact q
          rw [b2_t (by omega)]
          simp (config := { maxSteps := 1000000 }) (disch := first | assumption | exact W.i _ _ | exact sLine_i W _ _ _ | exact W1.i _ _ | exact hg _ _ | exact W3.i _ _ | (refine ⟨?_, ?_⟩ <;> omega) | omega | (simp only [sW_1, sW_2, sW_3, sW_4, sW_5, sW_8] <;> first | assumption | omega | (refine ⟨?_, ?_⟩ <;> omega)) | (simp only [sT_1, sT_2, sT_3, sT_4, sT_5, sT_8] <;> first | assumption | omega | (refine ⟨?_, ?_⟩ <;> omega))) only [Int.reduceEq, Int.reduceLT, Int.reduceLE, Int.reduceNeg, Int.reduceAdd, Int.reduceSub, Int.reduceMul, if_true, if_false, not_true, not_false_eq_true, false_or, or_false, true_or, or_true, true_and, and_true, false_and, and_false, iI_on, iI_mul, iI_add, iI_sub, iI_neg, ap_if, mp_eq, mz_0, mz_1, mz_b, b2_0, b2_1, iI_lt, iI_le, iI_inj, mb_div, mb_rem, e1, n5, e4, eo, c6, em, mb_eq eh]
        · rw [b2_f ch] at eh
          obtain ⟨h3, k3, e3⟩ := ih n (i + 1) h2 (k'.tr k2) (by omega) (by omega) (by omega) (fun j q0 q1 => by
            by_cases ej : j = i
            · rw [ej]; exact fun q => ch q.2
            · exact hno j q0 (by omega))
          refine ⟨h3, k3, ?_⟩
          rw [← e3]
          simp (config := { maxSteps := 1000000 }) (disch := first | assumption | exact W.i _ _ | exact sLine_i W _ _ _ | exact W1.i _ _ | exact hg _ _ | exact W3.i _ _ | (refine ⟨?_, ?_⟩ <;> omega) | omega | (simp only [sW_1, sW_2, sW_3, sW_4, sW_5, sW_8] <;> first | assumption | omega | (refine ⟨?_, ?_⟩ <;> omega)) | (simp only [sT_1, sT_2, sT_3, sT_4, sT_5, sT_8] <;> first | assumption | omega | (refine ⟨?_, ?_⟩ <;> omega))) only [Int.reduceEq, Int.reduceLT, Int.reduceLE, Int.reduceNeg, Int.reduceAdd, Int.reduceSub, Int.reduceMul, if_true, if_false, not_true, not_false_eq_true, false_or, or_false, true_or, or_true, true_and, and_true, false_and, and_false, iI_on, iI_mul, iI_add, iI_sub, iI_neg, ap_if, mp_eq, mz_0, mz_1, mz_b, b2_0, b2_1, iI_lt, iI_le, iI_inj, mb_div, mb_rem, e1, n5, e4, eo, c6, em, mb_eq eh, m4_isBeside_p32]
      · obtain ⟨h3, k3, e3⟩ := ih n (i + 1) h' k' (by omega) (by omega) (by omega) (fun j q0 q1 => by
            by_cases ej : j = i
            · rw [ej]; exact fun q => c6 q.1
            · exact hno j q0 (by omega))
        refine ⟨h3, k3, ?_⟩
        rw [← e3]
        simp (config := { maxSteps := 1000000 }) (disch := first | assumption | exact W.i _ _ | exact sLine_i W _ _ _ | exact W1.i _ _ | exact hg _ _ | exact W3.i _ _ | (refine ⟨?_, ?_⟩ <;> omega) | omega | (simp only [sW_1, sW_2, sW_3, sW_4, sW_5, sW_8] <;> first | assumption | omega | (refine ⟨?_, ?_⟩ <;> omega)) | (simp only [sT_1, sT_2, sT_3, sT_4, sT_5, sT_8] <;> first | assumption | omega | (refine ⟨?_, ?_⟩ <;> omega))) only [Int.reduceEq, Int.reduceLT, Int.reduceLE, Int.reduceNeg, Int.reduceAdd, Int.reduceSub, Int.reduceMul, if_true, if_false, not_true, not_false_eq_true, false_or, or_false, true_or, or_true, true_and, and_true, false_and, and_false, iI_on, iI_mul, iI_add, iI_sub, iI_neg, ap_if, mp_eq, mz_0, mz_1, mz_b, b2_0, b2_1, iI_lt, iI_le, iI_inj, mb_div, mb_rem, e1, n5, e4, eo, c6, m4_isBeside_p32]
  obtain ⟨h3, k3, e3⟩ := key (sg 5 (2 * v)).toNat FU 0 h (hS.rf h) (by omega) (by omega) (FU_lt (by omega)) (fun j q0 q1 => by omega)
  refine ⟨h3, k3, ?_⟩
  unfold m4_isBeside
  simp (config := { maxSteps := 1000000 }) (disch := first | assumption | exact W.i _ _ | exact sLine_i W _ _ _ | exact W1.i _ _ | exact hg _ _ | exact W3.i _ _ | (refine ⟨?_, ?_⟩ <;> omega) | omega | (simp only [sW_1, sW_2, sW_3, sW_4, sW_5, sW_8] <;> first | assumption | omega | (refine ⟨?_, ?_⟩ <;> omega)) | (simp only [sT_1, sT_2, sT_3, sT_4, sT_5, sT_8] <;> first | assumption | omega | (refine ⟨?_, ?_⟩ <;> omega))) only [Int.reduceEq, Int.reduceLT, Int.reduceLE, Int.reduceNeg, Int.reduceAdd, Int.reduceSub, Int.reduceMul, if_true, if_false, not_true, not_false_eq_true, false_or, or_false, true_or, or_true, true_and, and_true, false_and, and_false, iI_on, iI_mul, iI_add, iI_sub, iI_neg, ap_if, mp_eq, mz_0, mz_1, mz_b, b2_0, b2_1, iI_lt, iI_le, iI_inj, mb_div, mb_rem]
  exact e3
end LAWS

/-! ===== the class keeps a law: whole ===== -/
section ADDLAW
variable {rho : Nat → Int → Int} {h : gH} {v n nc td : Int}
def jkU (h : gH) : Nat → Int → Int := fun i j => if i = 0 then 0 else (h.2.1 (h.1.length + i) j.toNat).toInt
def jkW (h : gH) : Nat → Nat → Option Nat := fun i j => if i = 0 then none else h.2.2 (h.1.length + i) j
theorem hNew_nK {t m : Nat} : hNew h t m = nK h [(t, m)] (jkU h) (jkW h) := by
  unfold hNew nK jkU jkW
  refine Prod.ext rfl (Prod.ext ?_ ?_)
  · funext q j
    dsimp only
    by_cases c : q < h.1.length
    · rw [if_neg (by omega), if_pos c]
    · by_cases d : q = h.1.length
      · rw [if_pos d, if_neg c, if_pos (by omega)]; rfl
      · rw [if_neg d, if_neg c, if_neg (by omega), iI_of, show h.1.length + (q - h.1.length) = q by omega]
        rfl
  · funext q j
    dsimp only
    by_cases c : q < h.1.length
    · rw [if_neg (by omega), if_pos c]
    · by_cases d : q = h.1.length
      · rw [if_pos d, if_neg c, if_pos (by omega)]
      · rw [if_neg d, if_neg c, if_neg (by omega), show h.1.length + (q - h.1.length) = q by omega]
theorem C_addLaw (hC : OKC h) (hl : 84 ≤ h.1.length) (hg : okG rho) (e1 : rho 29 1 = n) (e2 : rho 29 2 = nc) (hn : 0 ≤ n ∧ n ≤ 12) (hc : 0 ≤ nc ∧ nc ≤ 250) (e8 : rho 1 8 = v) (hv : 0 ≤ v ∧ v < 6) {D : Int → Int → Int} (hD : DL rho D n) : ∃ U, m1_addLaw 1 29 (cK rho h) = some (iI v, cK (s3 rho 1 8 (v + 1)) (hPr (nK h (L10 n nc) U (wLaw h.1.length (jkW h))) 6 v.toNat h.1.length)) ∧ (U 0 0 = v ∧ U 0 1 = n ∧ U 0 2 = rho 1 0 ∧ U 0 3 = fo (fK D) n.toNat 0 0 ∧ U 0 7 = fo (fO D) n.toNat 90 0) ∧ (∀ k, 0 ≤ k → k < 6 → U 1 k = fo (fT D 0 k) n.toNat 0 0 ∧ U 2 k = fo (fT D 1 k) n.toNat 0 0) ∧ (∀ g p, 0 ≤ g → g ≤ 4 → 0 ≤ p → p ≤ 3 → U 3 (g * 4 + p) = orN (fo (fR D g p) n.toNat (-1) 0)) ∧ (∀ x, 0 ≤ x → x < n → U 5 x = rho 30 x ∧ U 6 x = rho 31 x ∧ U 7 x = rho 32 x ∧ U 9 x = lawSt' D x) ∧ ∀ x, 0 ≤ x → x < nc → U 8 x = rho 33 x := by
  have hl55 : 55 ≤ h.1.length := by omega
  have pre := C_lawPre (rho := rho) (v := v) (n := n) (td := rho 1 0) (nc := nc) (U0 := jkU h) (w0 := jkW h) hC hl e1 e2 hn hc (fun j => if_pos rfl) (fun j => if_pos rfl)
  obtain ⟨U1, f1, f2, f3⟩ := C_lawFill (rho := rho) (U := uLaw rho (jkU h) v n (rho 1 0) nc) (n := n) (nc := nc) (w0 := jkW h) hl
  have u0 : ∀ j, U1 0 j = uLaw rho (jkU h) v n (rho 1 0) nc 0 j := fun j => by rw [f2 0 (by omega)]
  obtain ⟨U, l1, ⟨l2, l3, l4⟩, l5, l6, l7, l8, l9⟩ := C_lawLoop (rho := rho) (w0 := jkW h) hC hl hg hD hn hc n.toNat FU 0 0 90 U1 (Int.le_refl 0) (by omega) (FU_lt (by omega)) (Or.inl rfl) ⟨by omega, by omega⟩ ((u0 1).trans rfl) (fun x x0 x1 => by rw [f2 5 (by omega)]; exact cpR_v x0 x1) (fun x x0 x1 => by rw [f2 9 (by omega)]; rfl)
  rw [mb_eq f1, l1] at pre
  have hk := nK_ok (L := L10 n nc) (U := U) (w := wLaw h.1.length (jkW h)) hC hl55
  have hk2 : OKC (hPr (nK h (L10 n nc) U (wLaw h.1.length (jkW h))) 6 v.toNat h.1.length) := hk.of (fun q x hq => hq) (fun a _ _ _ a6 _ => by
    unfold hPr u2
    funext j
    dsimp only
    rw [if_neg (fun z => a6 z.1)])
  have h6 : (nK h (L10 n nc) U (wLaw h.1.length (jkW h))).1[6]? = some (104, 6) := nK_old (hC.1 6 (by omega))
  have hp : (nK h (L10 n nc) U (wLaw h.1.length (jkW h))).1[h.1.length]? = some (4, 14) := nK_at (h := h) (L := L10 n nc) (U := U) (w := wLaw h.1.length (jkW h)) (i := 0) (of_decide_eq_true rfl)
  refine ⟨U, ?_, ⟨(l4 0 (by omega) (by omega)).trans ((u0 0).trans rfl), (l4 1 (by omega) (by omega)).trans ((u0 1).trans rfl), (l4 2 (by omega) (by omega)).trans ((u0 2).trans rfl), l2, l3⟩, fun k k0 k1 => ?_, fun g p g0 g1 p0 p1 => l7 g p (-1) g0 g1 p0 p1 (by rw [f3 _ (by omega) (by omega)]; rfl), fun x x0 x1 => ⟨?_, ?_, ?_, l9 x x0 x1⟩, fun x x0 x1 => ?_⟩
  · have hk0 := nK_ok (L := [(4, 14)]) (U := jkU h) (w := jkW h) hC hl55
    unfold m1_addLaw
    rw [hC.g1_9, hC.s1_8, cK_new hl55, hNew_nK, hk0.s1_8, hk0.s1_0, e8]
    have pre' : m4_init h.1.length (iI v) (iI (rho 1 0)) 29 (cK rho (nK h [(4, 14)] (jkU h) (jkW h))) = some ((), cK rho (nK h (L10 n nc) U (wLaw h.1.length (jkW h)))) := pre
    rw [mb_eq pre', cK_stR (t := 104) (n := 6) (tx := 4) (nx := 14) h6 hv.1 (by omega) (by omega) hp rfl, hk2.s1_8, e8]
    simp (config := { maxSteps := 1000000 }) (disch := first | assumption | exact W.i _ _ | exact sLine_i W _ _ _ | exact W1.i _ _ | exact hg _ _ | exact W3.i _ _ | (refine ⟨?_, ?_⟩ <;> omega) | omega | (simp only [sW_1, sW_2, sW_3, sW_4, sW_5, sW_8] <;> first | assumption | omega | (refine ⟨?_, ?_⟩ <;> omega)) | (simp only [sT_1, sT_2, sT_3, sT_4, sT_5, sT_8] <;> first | assumption | omega | (refine ⟨?_, ?_⟩ <;> omega)) | (simp only [List.length_append, List.length_cons, List.length_nil, Nat.reduceAdd] <;> omega)) only [Int.reduceEq, Int.reduceLT, Int.reduceLE, Int.reduceNeg, Int.reduceAdd, Int.reduceSub, Int.reduceMul, if_true, if_false, not_true, not_false_eq_true, false_or, or_false, true_or, or_true, true_and, and_true, false_and, and_false, iI_on, iI_mul, iI_add, iI_sub, iI_neg, ap_if, mp_eq, mz_0, mz_1, mz_b, b2_0, b2_1, iI_lt, iI_le, iI_inj, mb_div, mb_rem, hk2.p1_8]
  · obtain ⟨a1, a2⟩ := l6 k k0 k1
    rw [a1, a2, f2 1 (by omega), f2 2 (by omega)]
    exact ⟨rfl, rfl⟩
  · rw [l5 5 (by omega) (by omega) (by omega) (by omega) (by omega), f2 5 (by omega)]
    exact cpR_v x0 x1
  · rw [l5 6 (by omega) (by omega) (by omega) (by omega) (by omega), f2 6 (by omega)]
    exact cpR_v x0 x1
  · rw [l5 7 (by omega) (by omega) (by omega) (by omega) (by omega), f2 7 (by omega)]
    exact cpR_v x0 x1
  · rw [l5 8 (by omega) (by omega) (by omega) (by omega) (by omega), f2 8 (by omega)]
    exact cpR_v x0 x1
end ADDLAW

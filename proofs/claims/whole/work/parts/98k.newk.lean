/-! ===== new cells, told by their numbers ===== -/
/-- the heap h with new cells L behind, that hold the numbers U and the places w -/
def nK (h : gH) (L : List (Nat × Nat)) (U : Nat → Int → Int) (w : Nat → Nat → Option Nat) : gH := (h.1 ++ L, (fun q j => if q < h.1.length then h.2.1 q j else iI (U (q - h.1.length) j)), fun q j => if q < h.1.length then h.2.2 q j else w (q - h.1.length) j)
section NEWK
variable {rho U : Nat → Int → Int} {h : gH} {L : List (Nat × Nat)} {w : Nat → Nat → Option Nat} {α : Type} {i k m n t : Nat} {j v : Int} {ts : List Nat}
theorem nK_at (hi : i < L.length) : (nK h L U w).1[h.1.length + i]? = some (L.getD i (0, 0)) := by
  show (h.1 ++ L)[h.1.length + i]? = _
  rw [List.getElem?_append_right (by omega), Nat.add_sub_cancel_left, List.getD_eq_getElem?_getD, List.getElem?_eq_getElem hi]
  rfl
theorem nK_old {q : Nat} {x : Nat × Nat} (hq : h.1[q]? = some x) : (nK h L U w).1[q]? = some x := by
  show (h.1 ++ L)[q]? = _
  rw [List.getElem?_append_left (List.getElem?_eq_some_iff.mp hq).1]
  exact hq
theorem nK_ok (hC : OKC h) (hl : 55 ≤ h.1.length) : OKC (nK h L U w) := hC.of (fun q x hq => nK_old hq) (fun a ha _ _ _ _ => by
  funext j
  show (if a < h.1.length then h.2.2 a j else _) = _
  rw [if_pos (by omega)])
theorem nK_i (hl : 55 ≤ h.1.length) (j : Nat) : (cK rho (nK h L U w)).2.1 (h.1.length + i) j = iI (U i j) := by
  show (if h.1.length + i < 55 then _ else if h.1.length + i < h.1.length then _ else iI (U (h.1.length + i - h.1.length) j)) = _
  rw [if_neg (by omega), if_neg (by omega), Nat.add_sub_cancel_left]
theorem nK_r (j : Nat) : (cK rho (nK h L U w)).2.2 (h.1.length + i) j = w i j := by
  show (if h.1.length + i < h.1.length then _ else w (h.1.length + i - h.1.length) j) = _
  rw [if_neg (by omega), Nat.add_sub_cancel_left]
theorem N_new (hl : 55 ≤ h.1.length) (f : Nat → gM α) : mb (gNew t n) f (cK rho (nK h L U w)) = f (h.1.length + L.length) (cK rho (nK h (L ++ [(t, n)]) (fun q j => if q = L.length then 0 else U q j) fun q j => if q = L.length then none else w q j)) := by
  rw [cK_new (by show 55 ≤ (h.1 ++ L).length; rw [List.length_append]; omega)]
  have e1 : (nK h L U w).1.length = h.1.length + L.length := by
    show (h.1 ++ L).length = _
    rw [List.length_append]
  have e2 : hNew (nK h L U w) t n = nK h (L ++ [(t, n)]) (fun q j => if q = L.length then 0 else U q j) fun q j => if q = L.length then none else w q j := by
    unfold hNew
    rw [e1]
    unfold nK
    dsimp only
    refine Prod.ext (List.append_assoc _ _ _) (Prod.ext ?_ ?_)
    · funext q j
      dsimp only
      by_cases c : q < h.1.length
      · rw [if_neg (by omega), if_pos c, if_pos c]
      · by_cases d : q = h.1.length + L.length
        · rw [if_pos d, if_neg c, if_pos (by omega)]; rfl
        · rw [if_neg d, if_neg c, if_neg c, if_neg (by omega)]
    · funext q j
      dsimp only
      by_cases c : q < h.1.length
      · rw [if_neg (by omega), if_pos c, if_pos c]
      · by_cases d : q = h.1.length + L.length
        · rw [if_pos d, if_neg c, if_pos (by omega)]
        · rw [if_neg d, if_neg c, if_neg c, if_neg (by omega)]
  rw [e1, e2]
theorem N_newA (hl : 55 ≤ h.1.length) (h0 : 0 ≤ j) (h1 : j ≤ 100000) (f : Nat → gM α) : mb (gNewA t (iI j)) f (cK rho (nK h L U w)) = f (h.1.length + L.length) (cK rho (nK h (L ++ [(t, j.toNat)]) (fun q j => if q = L.length then 0 else U q j) fun q j => if q = L.length then none else w q j)) := by
  refine Eq.trans ?_ (N_new hl f)
  have hc : (iI j).toNatClampNeg = j.toNat := iI_cl ⟨by omega, by omega⟩
  have h4 : ¬ iI j < 0 := by rw [iI_0, iI_lt ⟨by omega, by omega⟩ ⟨by omega, by omega⟩]; omega
  unfold mb gNewA
  rw [hc, if_pos ⟨h4, by omega⟩]
theorem N_putI (hl : 55 ≤ h.1.length) (hi : i < L.length) (ht : ts.contains (L.getD i (0, 0)).1 = true) (f : Unit → gM α) : mb (gPutI ts (h.1.length + i) k (iI v)) f (cK rho (nK h L U w)) = f () (cK rho (nK h L (s3 U i k v) w)) := by
  rw [cK_put (t := (L.getD i (0, 0)).1) (n := (L.getD i (0, 0)).2) (by omega) (nK_at hi) ht]
  have e : hPt (nK h L U w) (h.1.length + i) k v = nK h L (s3 U i k v) w := by
    unfold hPt nK
    refine Prod.ext rfl (Prod.ext ?_ rfl)
    funext q j
    unfold u2
    dsimp only
    by_cases c : q < h.1.length
    · rw [if_neg (by omega), if_pos c, if_pos c]
    · by_cases d : q = h.1.length + i ∧ j = k
      · rw [if_pos d, if_neg c, d.1, d.2, Nat.add_sub_cancel_left, s3_at]
      · rw [if_neg d, if_neg c, if_neg c, s3_ne (by omega)]
  rw [e]
theorem N_putR (hi : i < L.length) (ht : ts.contains (L.getD i (0, 0)).1 = true) {x : Nat} (f : Unit → gM α) : mb (gPutR ts (h.1.length + i) k (some x)) f (cK rho (nK h L U w)) = f () (cK rho (nK h L U (u2 w i k (some x)))) := by
  rw [cK_putR (t := (L.getD i (0, 0)).1) (n := (L.getD i (0, 0)).2) (nK_at hi) ht]
  have e : hPr (nK h L U w) (h.1.length + i) k x = nK h L U (u2 w i k (some x)) := by
    unfold hPr nK
    refine Prod.ext rfl (Prod.ext rfl ?_)
    funext q j
    unfold u2
    dsimp only
    by_cases c : q < h.1.length
    · rw [if_neg (by omega), if_pos c, if_pos c]
    · by_cases d : q = h.1.length + i ∧ j = k
      · rw [if_pos d, if_neg c, if_pos (by omega)]
      · rw [if_neg d, if_neg c, if_neg c, if_neg (by omega)]
  rw [e]
theorem N_getI (hl : 55 ≤ h.1.length) (hi : i < L.length) (ht : ts.contains (L.getD i (0, 0)).1 = true) (f : Int32 → gM α) : mb (gGetI ts (h.1.length + i) k) f (cK rho (nK h L U w)) = f (iI (U i k)) (cK rho (nK h L U w)) :=
  getI_ok f _ (nK_at (U := U) (w := w) hi) ht (nK_i hl k)
theorem N_getR (hi : i < L.length) (ht : ts.contains (L.getD i (0, 0)).1 = true) {x : Nat} (hx : w i k = some x) (f : Nat → gM α) : mb (gGetR ts (h.1.length + i) k) f (cK rho (nK h L U w)) = f x (cK rho (nK h L U w)) :=
  getR_ok f _ (nK_at (U := U) (w := w) hi) ht ((nK_r k).trans hx)
theorem N_ldI (hl : 55 ≤ h.1.length) (hi : i < L.length) {m : Nat} (hm : L.getD i (0, 0) = (100, m)) (h0 : 0 ≤ j) (h1 : j < m) (hn : m ≤ 100000) (f : Int32 → gM α) : mb (gLdI 100 (h.1.length + i) (iI j)) f (cK rho (nK h L U w)) = f (iI (U i j)) (cK rho (nK h L U w)) :=
  ldI_ok (n := m) f _ ((nK_at (U := U) (w := w) hi).trans (by rw [hm])) h0 h1 hn ((nK_i hl _).trans (by rw [show ((j.toNat : Nat) : Int) = j by omega]))
theorem N_stI (hl : 55 ≤ h.1.length) (hi : i < L.length) {m : Nat} (hm : L.getD i (0, 0) = (100, m)) (h0 : 0 ≤ j) (h1 : j < m) (hn : m ≤ 100000) (f : Unit → gM α) : mb (gStI 100 (h.1.length + i) (iI j) (iI v)) f (cK rho (nK h L U w)) = f () (cK rho (nK h L (s3 U i j v) w)) := by
  have hc : (iI j).toNatClampNeg = j.toNat := iI_cl ⟨by omega, by omega⟩
  refine mb_eq ?_
  unfold gStI
  rw [mi_ok (t := 100) (n := m) _ (cK rho (nK h L U w)) ((nK_at (U := U) (w := w) hi).trans (by rw [hm])) h0 h1 hn, hc]
  refine congrArg some (Prod.ext rfl (Prod.ext rfl (Prod.ext ?_ rfl)))
  funext q x
  unfold u2 cK nK
  dsimp only
  by_cases c : q < 55
  · rw [if_neg (by omega), if_pos c, if_pos c]
  · rw [if_neg c, if_neg c]
    by_cases c2 : q < h.1.length
    · rw [if_neg (by omega), if_pos c2, if_pos c2]
    · by_cases d : q = h.1.length + i ∧ x = j.toNat
      · rw [if_pos d, if_neg c2, d.1, d.2, Nat.add_sub_cancel_left, show ((j.toNat : Nat) : Int) = j by omega, s3_at]
      · rw [if_neg d, if_neg c2, if_neg c2, s3_ne (by omega)]
/-- a row copied -/
def cpR (rho : Nat → Int → Int) (a ln : Nat) (j : Int) : Int → Int := fun x => if j = (ln : Int) then rho a x else if 0 ≤ x ∧ x < j then rho a x else 0
theorem cpR_v {a ln : Nat} {x : Int} (h0 : 0 ≤ x) (h1 : x < j) : cpR rho a ln j x = rho a x := by
  unfold cpR
  split
  · rfl
  · exact if_pos ⟨h0, h1⟩
theorem N_cp (hl : 55 ≤ h.1.length) {a ln : Nat} (ha : a < 55) (hs : h.1[a]? = some (100, ln)) (hln : ln ≤ 100000) (h0 : 0 ≤ j) (h1 : j ≤ ln) (f : Nat → gM α) : mb (mj_copyOf a (iI j)) f (cK rho (nK h L U w)) = f (h.1.length + L.length) (cK rho (nK h (L ++ [(100, j.toNat)]) (fun q x => if q = L.length then cpR rho a ln j x else U q x) fun q j => if q = L.length then none else w q j)) := by
  have es := nK_old (L := L) (U := U) (w := w) hs
  have e1 : (nK h L U w).1.length = h.1.length + L.length := by
    show (h.1 ++ L).length = _
    rw [List.length_append]
  have hv : mv [100] a (gLen a) (cK rho (nK h L U w)) = some (iI ln, cK rho (nK h L U w)) := by
    rw [mv_eq (h := cK rho (nK h L U w)) es rfl]
    unfold gLen
    rw [show (cK rho (nK h L U w)).1[a]? = some (100, ln) from es]
    dsimp only
    rw [if_pos (by omega)]
    rfl
  have hc : (iI j).toNatClampNeg = j.toNat := iI_cl ⟨by omega, by omega⟩
  by_cases c : j = (ln : Int)
  · have ek : (fun q x => if q = L.length then cpR rho a ln j x else U q x) = fun q x => if q = L.length then rho a x else U q x := by
      funext q x
      unfold cpR
      rw [if_pos c]
    rw [ek]
    unfold mj_copyOf
    simp only [mb_as]
    rw [mb_eq hv, if_pos (by rw [c])]
    have hcl : gClone a (cK rho (nK h L U w)) = some (h.1.length + L.length, cK rho (nK h (L ++ [(100, j.toNat)]) (fun q x => if q = L.length then rho a x else U q x) fun q j => if q = L.length then none else w q j)) := by
      unfold gClone
      rw [show (cK rho (nK h L U w)).1[a]? = some (100, ln) from es]
      dsimp only
      rw [if_pos rfl]
      rw [show (cK rho (nK h L U w)).1.length = h.1.length + L.length from e1]
      refine congrArg some (Prod.ext rfl (Prod.ext ?_ (Prod.ext ?_ ?_)))
      · show h.1 ++ L ++ [(100, ln)] = h.1 ++ (L ++ [(100, j.toNat)])
        rw [List.append_assoc, show j.toNat = ln by omega]
      · funext q x
        unfold cK nK
        dsimp only
        by_cases c1 : q < 55
        · rw [if_neg (by omega), if_pos c1, if_pos c1]
        · rw [if_neg c1]
          by_cases c2 : q < h.1.length
          · rw [if_neg (by omega), if_neg c1, if_pos c2, if_pos c2]
          · by_cases d : q = h.1.length + L.length
            · rw [if_pos d, if_pos ha, if_neg c1, if_neg c2, if_pos (show q - h.1.length = L.length by omega)]
            · rw [if_neg d, if_neg c1, if_neg c2, if_neg c2, if_neg (by omega)]
      · funext q x
        unfold cK nK
        dsimp only
        by_cases c2 : q < h.1.length
        · rw [if_neg (by omega), if_pos c2, if_pos c2]
        · by_cases d : q = h.1.length + L.length
          · rw [if_pos d, if_neg c2, if_pos (by omega)]
          · rw [if_neg d, if_neg c2, if_neg c2, if_neg (by omega)]
    rw [mb_as, mb_eq hcl]
    have ea := nK_at (h := h) (L := L ++ [(100, j.toNat)]) (U := fun q x => if q = L.length then rho a x else U q x) (w := fun q j => if q = L.length then none else w q j) (i := L.length) (by rw [List.length_append]; exact Nat.lt_succ_self _)
    have eb : (L ++ [(100, j.toNat)]).getD L.length (0, 0) = (100, j.toNat) := by
      rw [List.getD_eq_getElem?_getD, List.getElem?_append_right (Nat.le_refl _), Nat.sub_self]; rfl
    rw [eb] at ea
    exact mb_eq ((mv_eq (h := cK rho _) ea rfl).trans rfl)
  · have hv2 : ∀ U' w', mv [100] a (gLen a) (cK rho (nK h (L ++ [(100, j.toNat)]) U' w')) = some (iI ln, cK rho (nK h (L ++ [(100, j.toNat)]) U' w')) := fun U' w' => by
      have es' := nK_old (L := L ++ [(100, j.toNat)]) (U := U') (w := w') hs
      rw [mv_eq (h := cK rho (nK h (L ++ [(100, j.toNat)]) U' w')) es' rfl]
      unfold gLen
      rw [show (cK rho (nK h (L ++ [(100, j.toNat)]) U' w')).1[a]? = some (100, ln) from es']
      dsimp only
      rw [if_pos (by omega)]
      rfl
    have ek : (fun q x => if q = L.length then cpR rho a ln j x else U q x) = fun q x => if q = L.length then (if 0 ≤ x ∧ x < j then rho a x else 0) else U q x := by
      funext q x
      unfold cpR
      rw [if_neg c]
    rw [ek]
    unfold mj_copyOf
    simp only [mb_as]
    have nq : ¬ iI j = iI ln := by rw [iI_inj ⟨by omega, by omega⟩ ⟨by omega, by omega⟩]; exact c
    rw [mb_eq hv, if_neg nq]
    simp only [mb_as]
    rw [N_newA hl h0 (by omega)]
    try simp only [mb_as]
    rw [mb_eq (hv2 _ _)]
    have em : imin (iI ln) (iI j) = iI j := by
      unfold imin
      rw [if_pos (by rw [iI_lt ⟨by omega, by omega⟩ ⟨by omega, by omega⟩]; omega)]
    rw [em]
    have es' := nK_old (L := L ++ [(100, j.toNat)]) (U := fun q j => if q = L.length then 0 else U q j) (w := fun q j => if q = L.length then none else w q j) hs
    have ea := nK_at (h := h) (L := L ++ [(100, j.toNat)]) (U := fun q j => if q = L.length then 0 else U q j) (w := fun q j => if q = L.length then none else w q j) (i := L.length) (by rw [List.length_append]; exact Nat.lt_succ_self _)
    have eb : (L ++ [(100, j.toNat)]).getD L.length (0, 0) = (100, j.toNat) := by
      rw [List.getD_eq_getElem?_getD, List.getElem?_append_right (Nat.le_refl _), Nat.sub_self]; rfl
    rw [eb] at ea
    have h4 : ¬ iI j < 0 := by rw [iI_0, iI_lt ⟨by omega, by omega⟩ ⟨by omega, by omega⟩]; omega
    have h5 : ¬ (0 : Int32) < 0 := by decide
    have z0 : (0 : Int32).toNatClampNeg = 0 := rfl
    have hcp : gCopy a 0 (h.1.length + L.length) 0 (iI j) (cK rho (nK h (L ++ [(100, j.toNat)]) (fun q j => if q = L.length then 0 else U q j) fun q j => if q = L.length then none else w q j)) = some ((), cK rho (nK h (L ++ [(100, j.toNat)]) (fun q x => if q = L.length then (if 0 ≤ x ∧ x < j then rho a x else 0) else U q x) fun q j => if q = L.length then none else w q j)) := by
      unfold gCopy
      rw [show (cK rho (nK h (L ++ [(100, j.toNat)]) (fun q j => if q = L.length then 0 else U q j) fun q j => if q = L.length then none else w q j)).1[a]? = some (100, ln) from es', show (cK rho (nK h (L ++ [(100, j.toNat)]) (fun q j => if q = L.length then 0 else U q j) fun q j => if q = L.length then none else w q j)).1[h.1.length + L.length]? = some (100, j.toNat) from ea]
      dsimp only
      rw [hc, z0, if_pos ⟨rfl, rfl, h5, h5, h4, by omega, by omega⟩]
      refine congrArg some (Prod.ext rfl (Prod.ext rfl (Prod.ext ?_ rfl)))
      funext q x
      unfold cK nK va_cpy
      dsimp only
      by_cases d : q = h.1.length + L.length
      · rw [if_pos d, if_pos ha]
        by_cases e : (x : Int) < j
        · rw [if_pos (by omega), if_neg (by omega), if_neg (by omega), if_pos (by omega), if_pos (by omega)]
          rw [show 0 + (x - 0) = x by omega]
        · rw [if_neg (by omega), if_neg (by omega), if_neg (by omega), if_pos (by omega), if_neg (show ¬ q < 55 by omega), if_neg (by omega), if_pos (by omega), if_neg (by omega)]
      · rw [if_neg d]
        by_cases c1 : q < 55
        · rw [if_pos c1, if_pos c1]
        · rw [if_neg c1, if_neg c1]
          by_cases c2 : q < h.1.length
          · rw [if_pos c2, if_pos c2]
          · rw [if_neg c2, if_neg c2, if_neg (by omega), if_neg (by omega)]
    rw [mb_eq hcp]
    rfl
end NEWK

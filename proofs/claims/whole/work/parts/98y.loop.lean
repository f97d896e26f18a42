/-! ===== the law's loop: 64 calls ===== -/
def LQ (h : gH) (m : Nat) (o : Option (Int32 × gH)) : Prop := ∃ h', o = some (1, h') ∧ gc h' ≤ gc h + 10 * m ∧ gs h' ≤ gs h + 400 * m
theorem LQ_g {h h' : gH} {m : Nat} {o : Option (Int32 × gH)} (g : glw h h') (q : LQ h' m o) : LQ h (m + 1) o := by
  obtain ⟨L, e, l1, l2⟩ := g
  obtain ⟨h2, a, b, c⟩ := q
  have e1 : gc h' = gc h + L.length := by
    unfold gc
    rw [e, List.length_append]
  have e2 : gs h' = gs h + (L.map fun q => q.2).sum := by
    unfold gs
    rw [e, List.map_append, List.sum_append]
  exact ⟨h2, a, by omega, by omega⟩
theorem lq_if {c : Prop} [Decidable c] {t e : gM Int32} {s h : gH} {m : Nat} (ht : LQ h m (t s)) (he : LQ h m (e s)) : LQ h m ((if c then t else e) s) := by
  split
  · exact ht
  · exact he
theorem lq_b {mx mm P : gM Int32} {rho : Nat → Int → Int} {h : gH} {m : Nat} (hC : OKC h) (B : Both mx mm rho h) (nx : ∀ sg' rho' h', Inv sg' rho' h' → glw h h' → LQ h m (P (cK rho' h'))) : LQ h m ((mb (mv [10] 0 mx) fun r => mb (mv [11] 55 mm) fun r' => if r = r' then P else mp 0) (cK rho h)) := by
  obtain ⟨r, s1, sg', rho', h', e1, k, e2, I', g⟩ := B
  have ev : mv [11] 55 mm s1 = mm s1 := mv_eq k rfl
  rw [hC.m0, mb_eq e1, mb_eq (ev.trans e2), if_pos rfl]
  exact nx sg' rho' h' I' g
theorem gScr_at {bs : gB} (hL : bs.2.1 ≤ 320) {j : Int} (h0 : 0 ≤ j) (h1 : j < bs.2.1) : ∃ a : Int32, ∀ f : Int32 → gM Int32, mb (gScr bs (iI j)) f = f a := ⟨bs.2.2 j.toNat, fun f => by
  funext s
  have hc : (iI j).toNatClampNeg = j.toNat := iI_cl ⟨by omega, by omega⟩
  have h4 : ¬ iI j < 0 := by rw [iI_0, iI_lt ⟨by omega, by omega⟩ ⟨by omega, by omega⟩]; omega
  refine mb_eq ?_
  unfold gScr
  rw [hc, if_pos (fun q => q.elim h4 (fun q => by omega))]⟩
theorem gScrL_at {bs : gB} (f : Int32 → gM Int32) : mb (gScrL bs) f = f (iI (bs.2.1 : Int)) := by
  funext s
  refine mb_eq ?_
  unfold gScrL
  rw [← Int32.ofInt_eq_ofNat]
  rfl
section LOOP
variable {sg rho : Nat → Int → Int} {h : gH}
theorem B_c_days (I : Inv sg rho h) (a : Int32) : Both (m11_days 0 a) (m12_days 55 a) rho h := by
  have q := T_days I (i32_of a)
  simp only [iI_of] at q
  exact q
theorem B_c_person (I : Inv sg rho h) (a b : Int32) : Both (m11_person 0 a b) (m12_person 55 a b) rho h := by
  have q := T_person I (i32_of a) (i32_of b)
  simp only [iI_of] at q
  exact q
theorem B_c_age (I : Inv sg rho h) (a b : Int32) : Both (m11_age 0 a b) (m12_age 55 a b) rho h := by
  have q := T_age I (i32_of a) (i32_of b)
  simp only [iI_of] at q
  exact q
theorem B_c_deed (I : Inv sg rho h) (a b c : Int32) : Both (m11_deed 0 a b c) (m12_deed 55 a b c) rho h := by
  have q := T_deed I (i32_of a) (i32_of b) (i32_of c)
  simp only [iI_of] at q
  exact q
theorem B_c_deedOf (I : Inv sg rho h) (a b c : Int32) : Both (m11_deedOf 0 a b c) (m12_deedOf 55 a b c) rho h := by
  have q := T_deedOf I (i32_of a) (i32_of b) (i32_of c)
  simp only [iI_of] at q
  exact q
theorem B_c_version (I : Inv sg rho h) (a b : Int32) : Both (m11_version 0 a b) (m12_version 55 a b) rho h := by
  have q := T_version I (i32_of a) (i32_of b)
  simp only [iI_of] at q
  exact q
theorem B_c_law (I : Inv sg rho h) (a b : Int32) : Both (m11_law 0 a b) (m12_law 55 a b) rho h := by
  have q := T_law I (i32_of a) (i32_of b)
  simp only [iI_of] at q
  exact q
theorem B_c_points (I : Inv sg rho h) (a b c : Int32) : Both (m11_points 0 a b c) (m12_points 55 a b c) rho h := by
  have q := T_points I (i32_of a) (i32_of b) (i32_of c)
  simp only [iI_of] at q
  exact q
theorem B_c_grave (I : Inv sg rho h) (a b c : Int32) : Both (m11_grave 0 a b c) (m12_grave 55 a b c) rho h := by
  have q := T_grave I (i32_of a) (i32_of b) (i32_of c)
  simp only [iI_of] at q
  exact q
theorem B_c_range (I : Inv sg rho h) (a b c : Int32) : Both (m11_range 0 a b c) (m12_range 55 a b c) rho h := by
  have q := T_range I (i32_of a) (i32_of b) (i32_of c)
  simp only [iI_of] at q
  exact q
theorem B_c_term (I : Inv sg rho h) (a b c d : Int32) : Both (m11_term 0 a b c d) (m12_term 55 a b c d) rho h := by
  have q := T_term I (i32_of a) (i32_of b) (i32_of c) (i32_of d)
  simp only [iI_of] at q
  exact q
theorem B_c_appeal (I : Inv sg rho h) (a : Int32) : Both (m11_appeal 0 a) (m12_appeal 55 a) rho h := by
  have q := T_appeal I (i32_of a)
  simp only [iI_of] at q
  exact q
theorem B_c_amiss (I : Inv sg rho h) (a : Int32) : Both (m11_amiss 0 a) (m12_amiss 55 a) rho h := by
  have q := T_amiss I (i32_of a)
  simp only [iI_of] at q
  exact q
theorem B_c_held (I : Inv sg rho h) (a b c : Int32) : Both (m11_held 0 a b c) (m12_held 55 a b c) rho h := by
  have q := T_held I (i32_of a) (i32_of b) (i32_of c)
  simp only [iI_of] at q
  exact q
theorem B_c_credit (I : Inv sg rho h) (a b : Int32) : Both (m11_credit 0 a b) (m12_credit 55 a b) rho h := by
  have q := T_credit I (i32_of a) (i32_of b)
  simp only [iI_of] at q
  exact q
theorem B_c_good (I : Inv sg rho h) (a b : Int32) : Both (m11_good 0 a b) (m12_good 55 a b) rho h := by
  have q := T_good I (i32_of a) (i32_of b)
  simp only [iI_of] at q
  exact q
theorem B_c_release (I : Inv sg rho h) (a b : Int32) : Both (m11_release 0 a b) (m12_release 55 a b) rho h := by
  have q := T_release I (i32_of a) (i32_of b)
  simp only [iI_of] at q
  exact q
theorem B_c_beds (I : Inv sg rho h) (a b : Int32) : Both (m11_beds 0 a b) (m12_beds 55 a b) rho h := by
  have q := T_beds I (i32_of a) (i32_of b)
  simp only [iI_of] at q
  exact q
theorem B_c_prove (I : Inv sg rho h) (a : Int32) : Both (m11_prove 0 a) (m12_prove 55 a) rho h := by
  have q := T_prove I (i32_of a)
  simp only [iI_of] at q
  exact q
theorem B_c_row (I : Inv sg rho h) (a b : Int32) : Both (m11_row 0 a b) (m12_row 55 a b) rho h := by
  have q := T_row I (i32_of a) (i32_of b)
  simp only [iI_of] at q
  exact q
theorem B_c_alterRow (I : Inv sg rho h) (a b c : Int32) : Both (m11_alterRow 0 a b c) (m12_alterRow 55 a b c) rho h := by
  have q := T_alterRow I (i32_of a) (i32_of b) (i32_of c)
  simp only [iI_of] at q
  exact q
theorem B_c_spread (I : Inv sg rho h) (a b c : Int32) : Both (m11_spread 0 a b c) (m12_spread 55 a b c) rho h := by
  have q := T_spread I (i32_of a) (i32_of b) (i32_of c)
  simp only [iI_of] at q
  exact q
theorem B_c_like (I : Inv sg rho h) (a b : Int32) : Both (m11_like 0 a b) (m12_like 55 a b) rho h := by
  have q := T_like I (i32_of a) (i32_of b)
  simp only [iI_of] at q
  exact q
theorem B_c_sheet (I : Inv sg rho h) (a b c : Int32) : Both (m11_sheet 0 a b c) (m12_sheet 55 a b c) rho h := by
  have q := T_sheet I (i32_of a) (i32_of b) (i32_of c)
  simp only [iI_of] at q
  exact q
theorem B_c_item (I : Inv sg rho h) (a b c : Int32) : Both (m11_item 0 a b c) (m12_item 55 a b c) rho h := by
  have q := T_item I (i32_of a) (i32_of b) (i32_of c)
  simp only [iI_of] at q
  exact q
theorem B_c_comes (I : Inv sg rho h) (a b c d : Int32) : Both (m11_comes 0 a b c d) (m12_comes 55 a b c d) rho h := by
  have q := T_comes I (i32_of a) (i32_of b) (i32_of c) (i32_of d)
  simp only [iI_of] at q
  exact q
theorem B_c_shelf (I : Inv sg rho h) (a b c : Int32) : Both (m11_shelf 0 a b c) (m12_shelf 55 a b c) rho h := by
  have q := T_shelf I (i32_of a) (i32_of b) (i32_of c)
  simp only [iI_of] at q
  exact q
theorem B_c_taken (I : Inv sg rho h) (a b : Int32) : Both (m11_taken 0 a b) (m12_taken 55 a b) rho h := by
  have q := T_taken I (i32_of a) (i32_of b)
  simp only [iI_of] at q
  exact q
theorem B_c_trace (I : Inv sg rho h) (a : Int32) : Both (m11_trace 0 a) (m12_trace 55 a) rho h := by
  have q := T_trace I (i32_of a)
  simp only [iI_of] at q
  exact q
theorem B_c_many (I : Inv sg rho h) (a : Int32) : Both (m11_many 0 a) (m12_many 55 a) rho h := by
  have q := T_many I (i32_of a)
  simp only [iI_of] at q
  exact q
theorem B_c_put (I : Inv sg rho h) (a b c : Int32) : Both (m11_put 0 a b c) (m12_put 55 a b c) rho h := by
  have q := T_put I (v := c.toInt) (i32_of a) (i32_of b)
  simp only [iI_of] at q
  exact q
theorem B_c_act (I : Inv sg rho h) (a b c : Int32) : Both (m11_act 0 a b c) (m12_act 55 a b c) rho h := by
  have q := T_act I (v := c) (i32_of a) (i32_of b)
  simp only [iI_of] at q
  exact q
theorem B_c_feed (I : Inv sg rho h) (v : Int64) (c : Int32) : Both (m11_feed 0 v c) (m12_feed 55 v c) rho h := by
  have q := T_feed I (v := v) (i32_of c)
  simp only [iI_of] at q
  exact q
theorem B_c_find0 (I : Inv sg rho h) (a b : Int32) : Both (m11_finding 0 a b 0) (m12_finding 55 a b 0) rho h := by
  have q := T_finding I (q := 0) (i32_of a) (i32_of b) (Or.inl rfl)
  simp only [iI_of] at q
  exact q
theorem B_c_find1 (I : Inv sg rho h) (a b : Int32) : Both (m11_finding 0 a b 1) (m12_finding 55 a b 1) rho h := by
  have q := T_finding I (q := 1) (i32_of a) (i32_of b) (Or.inr rfl)
  simp only [iI_of] at q
  exact q
theorem B_c_an0 (I : Inv sg rho h) (a : Int32) : Both (m11_another 0 a 0) (m12_another 55 a 0) rho h := by
  have q := T_another I (mo := 0) (i32_of a) (Or.inl rfl)
  simp only [iI_of] at q
  exact q
theorem B_c_an1 (I : Inv sg rho h) (a : Int32) : Both (m11_another 0 a 1) (m12_another 55 a 1) rho h := by
  have q := T_another I (mo := 1) (i32_of a) (Or.inr rfl)
  simp only [iI_of] at q
  exact q
set_option maxHeartbeats 4000000 in
theorem law_loop {bs : gB} (hL : bs.2.1 ≤ 320) : ∀ (m fu : Nat) (i : Int) (sg rho : Nat → Int → Int) (h : gH), Inv sg rho h → 0 ≤ i → i ≤ 330 → (bs.2.1 : Int) < i + 5 * (m + 1) → m < fu → LQ h m (mL_law_p18 bs fu 0 55 (iI i) (cK rho h))
  | m, 0, i, sg, rho, h, _, _, _, _, hf => by omega
  | m, fu + 1, i, sg, rho, h, I, h0, h1, h2, hf => by
    have e5 : iI (bs.2.1 : Int) - 5 = iI ((bs.2.1 : Int) - 5) := by rw [show (5 : Int32) = iI 5 from rfl, iI_sub]
    by_cases c : (bs.2.1 : Int) - 5 < i
    · rw [mL_law_p18, gScrL_at, e5, ap_if, if_pos ((iI_lt ⟨by omega, by omega⟩ ⟨by omega, by omega⟩).mpr c)]
      exact ⟨_, rfl, Nat.le_add_right _ _, Nat.le_add_right _ _⟩
    · cases m with
      | zero => omega
      | succ m =>
        have hC := I.1.1
        have nx0 : ∀ sg' rho' h', Inv sg' rho' h' → LQ h' m (mL_law_p18 bs fu 0 55 (iI i + 5) (cK rho' h')) := fun sg' rho' h' I' => by
          have e : iI i + 5 = iI (i + 5) := by rw [show (5 : Int32) = iI 5 from rfl, iI_add]
          rw [e]
          exact law_loop hL m fu (i + 5) sg' rho' h' I' (by omega) (by omega) (by omega) (by omega)
        have nx : ∀ sg' rho' h', Inv sg' rho' h' → glw h h' → LQ h (m + 1) (mL_law_p1593 bs (mL_law_p18 bs fu) 0 55 (iI i) (cK rho' h')) := fun sg' rho' h' I' g => LQ_g g (nx0 sg' rho' h' I')
        have nxs : LQ h (m + 1) (mL_law_p1593 bs (mL_law_p18 bs fu) 0 55 (iI i) (cK rho h)) := nx sg rho h I ⟨[], by simp, by simp, by simp⟩
        obtain ⟨a0, g0⟩ := gScr_at hL h0 (show i < bs.2.1 by omega)
        obtain ⟨a1, g1⟩ := gScr_at hL (show 0 ≤ i + 1 by omega) (show i + 1 < bs.2.1 by omega)
        obtain ⟨a2, g2⟩ := gScr_at hL (show 0 ≤ i + 2 by omega) (show i + 2 < bs.2.1 by omega)
        obtain ⟨a3, g3⟩ := gScr_at hL (show 0 ≤ i + 3 by omega) (show i + 3 < bs.2.1 by omega)
        obtain ⟨a4, g4⟩ := gScr_at hL (show 0 ≤ i + 4 by omega) (show i + 4 < bs.2.1 by omega)
        have e1 : iI i + 1 = iI (i + 1) := by rw [iI_1, iI_add]
        have e2 : iI i + 2 = iI (i + 2) := by rw [show (2 : Int32) = iI 2 from rfl, iI_add]
        have e3 : iI i + 3 = iI (i + 3) := by rw [show (3 : Int32) = iI 3 from rfl, iI_add]
        have e4 : iI i + 4 = iI (i + 4) := by rw [show (4 : Int32) = iI 4 from rfl, iI_add]
        rw [← e1] at g1
        rw [← e2] at g2
        rw [← e3] at g3
        rw [← e4] at g4
        rw [mL_law_p18, gScrL_at, e5, ap_if, if_neg (fun z => c ((iI_lt ⟨by omega, by omega⟩ ⟨by omega, by omega⟩).mp z)), g0]
        simp only [g1, g2, g3, g4]
        refine lq_if ?_ ?_
        · exact lq_b hC (B_c_days I a1) nx
        refine lq_if ?_ ?_
        · exact lq_b hC (B_c_person I a1 a2) nx
        refine lq_if ?_ ?_
        · exact lq_b hC (B_c_age I a1 a2) nx
        refine lq_if ?_ ?_
        · exact lq_b hC (B_c_deed I a1 a2 a3) nx
        refine lq_if ?_ ?_
        · by_cases z : a3 = 0
          · rw [if_pos z]
            unfold mL_law_p360 mL_law_p387
            simp only [g1, g2, g3, if_pos z]
            exact lq_b hC (B_c_find0 I a1 a2) nx
          · rw [if_neg z]
            unfold mL_law_p360 mL_law_p387
            simp only [g1, g2, g3, if_neg z]
            exact lq_b hC (B_c_find1 I a1 a2) nx
        refine lq_if ?_ ?_
        · exact lq_b hC (B_c_deedOf I a1 a2 a3) nx
        refine lq_if ?_ ?_
        · exact lq_b hC (B_c_feed I _ a3) nx
        refine lq_if ?_ ?_
        · exact lq_b hC (T_read I) nx
        refine lq_if ?_ ?_
        · exact lq_b hC (B_c_version I a1 a2) nx
        refine lq_if ?_ ?_
        · exact lq_b hC (B_c_law I a1 a2) nx
        refine lq_if ?_ ?_
        · exact lq_b hC (B_c_points I a1 a2 a3) nx
        refine lq_if ?_ ?_
        · exact lq_b hC (B_c_grave I a1 a2 a3) nx
        refine lq_if ?_ ?_
        · exact lq_b hC (B_c_range I a1 a2 a3) nx
        refine lq_if ?_ ?_
        · exact lq_b hC (B_c_term I a1 a2 a3 a4) nx
        refine lq_if ?_ ?_
        · exact lq_b hC (B_c_appeal I a1) nx
        refine lq_if ?_ ?_
        · exact lq_b hC (B_c_amiss I a1) nx
        refine lq_if ?_ ?_
        · exact lq_b hC (B_c_held I a1 a2 a3) nx
        refine lq_if ?_ ?_
        · exact lq_b hC (B_c_credit I a1 a2) nx
        refine lq_if ?_ ?_
        · exact lq_b hC (B_c_good I a1 a2) nx
        refine lq_if ?_ ?_
        · exact lq_b hC (B_c_release I a1 a2) nx
        refine lq_if ?_ ?_
        · exact lq_b hC (B_c_beds I a1 a2) nx
        refine lq_if ?_ ?_
        · exact lq_b hC (B_c_prove I a1) nx
        refine lq_if ?_ ?_
        · exact lq_b hC (B_c_row I a1 a2) nx
        refine lq_if ?_ ?_
        · exact lq_b hC (B_c_alterRow I a1 a2 a3) nx
        refine lq_if ?_ ?_
        · exact lq_b hC (T_judge I) nx
        refine lq_if ?_ ?_
        · exact lq_b hC (B_c_spread I a1 a2 a3) nx
        refine lq_if ?_ ?_
        · by_cases z : a2 = 0
          · rw [if_pos z]
            unfold mL_law_p1157 mL_law_p1179
            simp only [g1, g2, if_pos z]
            exact lq_b hC (B_c_an0 I a1) nx
          · rw [if_neg z]
            unfold mL_law_p1157 mL_law_p1179
            simp only [g1, g2, if_neg z]
            exact lq_b hC (B_c_an1 I a1) nx
        refine lq_if ?_ ?_
        · exact lq_b hC (B_c_like I a1 a2) nx
        refine lq_if ?_ ?_
        · exact lq_b hC (B_c_sheet I a1 a2 a3) nx
        refine lq_if ?_ ?_
        · exact lq_b hC (B_c_put I a1 a2 a3) nx
        refine lq_if ?_ ?_
        · exact lq_b hC (B_c_item I a1 a2 a3) nx
        refine lq_if ?_ ?_
        · exact lq_b hC (B_c_comes I a1 a2 a3 a4) nx
        refine lq_if ?_ ?_
        · exact lq_b hC (B_c_shelf I a1 a2 a3) nx
        refine lq_if ?_ ?_
        · exact lq_b hC (B_c_taken I a1 a2) nx
        refine lq_if ?_ ?_
        · exact lq_b hC (B_c_act I a1 a2 a3) nx
        refine lq_if ?_ ?_
        · exact lq_b hC (B_c_trace I a1) nx
        refine lq_if ?_ ?_
        · exact lq_b hC (B_c_many I a1) nx
        refine lq_if ?_ ?_
        · exact lq_b hC (T_keep I) nx
        refine lq_if ?_ ?_
        · exact lq_b hC (T_again I) nx
        exact nxs
end LOOP
theorem iSh_c : iSh.length = 84 ∧ (iSh.map fun q => q.2).sum ≤ 100000 := by decide +kernel
/-- what level B owes -/
theorem pure_law (bs : gB) (hL : bs.2.1 ≤ 320) : ∃ h' : gH, mL_law bs gH0 = some (1, h') ∧ gc h' ≤ 600000 ∧ gs h' ≤ 7302250 := by
  obtain ⟨h, er, I, eC, e1⟩ := iRun_inv
  unfold iRun at er
  obtain ⟨r, h1, x1, er⟩ := mb_spec er
  obtain ⟨u1, h2, x2, er⟩ := mb_spec er
  obtain ⟨q, h3, x3, er⟩ := mb_spec er
  obtain ⟨u2, h4, x4, er⟩ := mb_spec er
  have hq : r = 0 ∧ q = 55 := by
    by_cases c : r = 0 ∧ q = 55
    · exact c
    · rw [if_neg c] at er
      cases er
  rw [if_pos hq] at er
  have e4 : h4 = h := congrArg (fun o : Unit × gH => o.2) (Option.some.inj er)
  subst e4
  obtain ⟨rfl, rfl⟩ := hq
  have lp := law_loop hL 64 FU 0 _ _ h4 I (by omega) (by omega) (by omega) (FU_lt (by omega))
  rw [eC] at lp
  obtain ⟨h', a, b, c⟩ := lp
  have c1 : gc h4 = 84 := by
    unfold gc
    rw [e1]
    exact iSh_c.1
  have c2 : gs h4 ≤ 100000 := by
    unfold gs
    rw [e1]
    exact iSh_c.2
  refine ⟨h', ?_, by omega, by omega⟩
  unfold mL_law
  rw [mb_eq x1, mb_eq x2, mb_eq x3, mb_eq x4]
  exact a

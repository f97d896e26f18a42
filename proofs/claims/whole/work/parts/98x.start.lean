/-! ===== the start: both objects, out of nothing ===== -/
/-- both objects are made -/
def iRun : gM Unit := mb (gNew 10 15) fun r => mb (m11_init r) fun _ => mb (gNew 11 45) fun q => mb (m12_init q) fun _ => if r = 0 ∧ q = 55 then mp () else mf
def iSh : List (Nat × Nat) := cSh ++ [(11, 45), (100, 7), (100, 16), (100, 48), (100, 96), (100, 12), (100, 504), (100, 1560), (100, 112), (100, 36), (100, 250), (100, 84), (100, 260), (100, 260), (100, 7), (100, 260), (100, 16), (100, 16), (100, 16), (100, 48), (100, 65280), (100, 4), (100, 4), (100, 160), (100, 4), (100, 4), (100, 4), (100, 30), (100, 2400)]
def iPt : List (Nat × Nat × Nat) := [(0, 0, 1), (0, 1, 15), (0, 3, 29), (0, 4, 38), (0, 5, 40), (0, 6, 42), (0, 7, 47), (0, 8, 48), (0, 9, 49), (0, 10, 50), (0, 11, 51), (0, 12, 52), (0, 13, 53), (0, 14, 54), (1, 2, 2), (1, 3, 3), (1, 5, 4), (1, 7, 5), (1, 9, 6), (1, 11, 7), (1, 12, 8), (1, 14, 9), (1, 15, 10), (1, 16, 11), (1, 17, 12), (1, 18, 13), (13, 0, 14), (15, 2, 16), (15, 3, 17), (15, 5, 18), (15, 7, 19), (15, 9, 20), (15, 11, 21), (15, 12, 22), (15, 14, 23), (15, 15, 24), (15, 16, 25), (15, 17, 26), (15, 18, 27), (27, 0, 28), (29, 3, 30), (29, 4, 31), (29, 5, 32), (29, 6, 33), (29, 7, 34), (29, 8, 35), (29, 9, 36), (29, 10, 37), (38, 0, 39), (40, 0, 41), (42, 0, 43), (42, 1, 44), (42, 2, 45), (42, 3, 46)]
def iMa : List (Nat × Nat) := [(0, 1), (1, 2), (2, 3), (3, 4), (4, 5), (5, 6), (6, 7), (7, 8), (8, 9), (9, 10), (16, 11), (17, 12), (18, 13), (21, 14), (22, 15), (24, 16), (25, 17), (26, 18), (28, 19), (29, 20), (30, 21), (31, 22), (32, 23), (33, 24), (34, 25), (35, 26), (39, 27), (43, 28)]
def iVl : List (Nat × Nat × Int) := [(1, 0, 0), (1, 1, 0), (1, 4, 0), (1, 6, 0), (1, 8, 0), (1, 10, 0), (1, 13, 0), (56, 0, 0), (56, 1, 0), (56, 2, 0), (56, 3, 0), (56, 4, 0), (56, 5, 0), (56, 6, 0), (0, 2, 0), (55, 42, 0), (38, 1, 0), (55, 27, 0), (29, 0, 0), (55, 10, 0), (47, 0, -1), (47, 1, -1), (47, 2, -1), (47, 3, -1), (76, 0, -1), (76, 1, -1), (76, 2, -1), (76, 3, -1), (77, 0, 0), (77, 1, 0), (77, 2, 0), (77, 3, 0), (49, 0, 5), (49, 1, 5), (49, 2, 5), (49, 3, 5), (79, 0, -1), (79, 1, -1), (79, 2, -1), (79, 3, -1), (40, 1, 0), (55, 40, 0), (54, 0, 0), (54, 256, 0), (69, 0, 112), (69, 1, 108), (69, 2, 101), (69, 3, 97), (69, 4, 100), (69, 5, 101), (69, 6, 100), (57, 0, 0), (58, 0, 0), (59, 0, 0), (60, 0, 0), (61, 0, 0), (62, 0, 0), (63, 0, 0), (64, 0, 0)]
/-- what is looked at -/
def iChk (h : gH) : Bool := decide (h.1 = iSh) && (iPt.all (fun x => decide (h.2.2 x.1 x.2.1 = some x.2.2)) && (iMa.all (fun x => decide (h.2.2 55 x.1 = some (55 + x.2))) && (iVl.all (fun x => decide (h.2.1 x.1 x.2.1 = iI x.2.2)) && (List.range 250).all (fun j => decide (h.2.1 65 j = 0)))))
def iSee (o : Option (Unit × gH)) : Bool := match o with
  | none => false
  | some q => iChk q.2
set_option maxRecDepth 100000 in
theorem iSee_ok : iSee (iRun gH0) = true := by decide +kernel
/-! behind the ends of rows lies nothing -/
def iZ (h : gH) : Prop := ∀ q t m n, h.1[q]? = some (t, m) → 100 ≤ t → m ≤ n → h.2.1 q n = 0
def iZp {α : Type} (x : gM α) : Prop := ∀ (h : gH) (r : α) (h' : gH), x h = some (r, h') → iZ h → iZ h'
theorem iZ_mb {α β : Type} {x : gM α} {f : α → gM β} (hx : iZp x) (hf : ∀ a, iZp (f a)) : iZp (mb x f) := fun h r h' e z => by
  obtain ⟨v, h1, e1, e2⟩ := mb_spec e
  exact hf v h1 r h' e2 (hx h v h1 e1 z)
theorem iZ_mp {α : Type} (a : α) : iZp (mp a) := fun h r h' e z => by
  cases e
  exact z
theorem iZ_mv {α : Type} {ts : List Nat} {a : Nat} {f : gM α} (hf : iZp f) : iZp (mv ts a f) := fun h r h' e z => by
  unfold mv at e
  split at e
  · cases e
  · split at e
    · exact hf h r h' e z
    · cases e
theorem iZ_if {α : Type} {c : Prop} [Decidable c] {f g : gM α} (hf : iZp f) (hg : iZp g) : iZp (if c then f else g) := by
  split
  · exact hf
  · exact hg
theorem iZ_new (t n : Nat) : iZp (gNew t n) := fun h r h' e z => by
  cases e
  intro q t' m k hq ht hk
  show (if q = h.1.length then (0 : Int32) else h.2.1 q k) = 0
  by_cases c : q = h.1.length
  · rw [if_pos c]
  · rw [if_neg c]
    have hq : (h.1 ++ [(t, n)])[q]? = some (t', m) := hq
    by_cases c2 : q < h.1.length
    · rw [List.getElem?_append_left c2] at hq
      exact z q t' m k hq ht hk
    · rw [List.getElem?_eq_none (by simp; omega)] at hq
      cases hq
theorem iZ_newA (t : Nat) (n : Int32) : iZp (gNewA t n) := fun h r h' e z => by
  unfold gNewA at e
  split at e
  · exact iZ_new t _ h r h' e z
  · cases e
theorem iZ_newM (n k : Int32) : iZp (gNewM n k) := fun h r h' e z => by
  unfold gNewM at e
  split at e
  · cases e
    intro q t' m j hq ht hj
    show (if h.1.length ≤ q then (0 : Int32) else h.2.1 q j) = 0
    by_cases c : h.1.length ≤ q
    · rw [if_pos c]
    · rw [if_neg c]
      have hq : (h.1 ++ (106, n.toNatClampNeg) :: List.replicate n.toNatClampNeg (100, k.toNatClampNeg))[q]? = some (t', m) := hq
      rw [List.getElem?_append_left (by omega)] at hq
      exact z q t' m j hq ht hj
  · cases e
theorem iZ_putR {ts : List Nat} {a k : Nat} {v : Option Nat} : iZp (gPutR ts a k v) := iZ_mv fun h r h' e z => by
  cases e
  exact z
theorem iZ_putI {ts : List Nat} {a k : Nat} {v : Int32} (hts : ∀ t, ts.contains t = true → t < 100) : iZp (gPutI ts a k v) := fun h r h' e z => by
  unfold gPutI mv at e
  split at e
  · cases e
  · rename_i p hp
    split at e
    · rename_i hc
      cases e
      intro q t' m j hq ht hj
      show (if q = a ∧ j = k then v else h.2.1 q j) = 0
      by_cases c : q = a ∧ j = k
      · exfalso
        have hq : h.1[q]? = some (t', m) := hq
        rw [c.1, hp] at hq
        have := hts _ hc
        cases hq
        omega
      · rw [if_neg c]
        exact z q t' m j hq ht hj
    · cases e
theorem iZ_putZ {ts : List Nat} {a k : Nat} {v : Int32} (hts : ∀ t, ts.contains t = true → t < 100) : iZp (gPutZ ts a k v) := fun h r h' e z => by
  unfold gPutZ at e
  split at e
  · exact iZ_putI hts h r h' e z
  · cases e
theorem iZ_getR {ts : List Nat} {a k : Nat} : iZp (gGetR ts a k) := iZ_mv fun h r h' e z => by
  split at e
  · cases e
  · cases e
    exact z
theorem iZ_stI {t a : Nat} {i v : Int32} : iZp (gStI t a i v) := fun h r h' e z => by
  unfold gStI mi at e
  split at e
  · cases e
  · rename_i p hp
    split at e
    · rename_i hc
      cases e
      intro q t' m j hq ht hj
      show (if q = a ∧ j = i.toNatClampNeg then v else h.2.1 q j) = 0
      by_cases c : q = a ∧ j = i.toNatClampNeg
      · exfalso
        have hq : h.1[q]? = some (t', m) := hq
        rw [c.1, hp] at hq
        cases hq
        exact hc.2 (Or.inr (by rw [← c.2]; exact hj))
      · rw [if_neg c]
        exact z q t' m j hq ht hj
    · cases e
theorem iZ_len {a : Nat} : iZp (gLen a) := fun h r h' e z => by
  unfold gLen at e
  split at e
  · cases e
  · split at e
    · cases e
      exact z
    · cases e
theorem iZ_fillL : ∀ (n : Nat) (a : Nat) (v i l : Int32), iZp (mj_fill_p5 n a v i l)
  | 0, _, _, _, _ => fun h r h' e z => by
    rw [mj_fill_p5] at e
    cases e
  | n + 1, a, v, i, l => by
    rw [mj_fill_p5]
    exact iZ_if (iZ_mp _) (iZ_mb iZ_stI fun _ => iZ_fillL n a v (i + 1) l)
theorem iZ_fill (a : Nat) (v : Int32) : iZp (mj_fill a v) := by
  unfold mj_fill
  exact iZ_mb (iZ_mv iZ_len) fun x => iZ_fillL FU a v 0 x
theorem lt100 {l : List Nat} (hl : l.all (fun x => decide (x < 100)) = true) : ∀ t, l.contains t = true → t < 100 := fun t ht => by
  have := List.all_eq_true.mp hl t (List.contains_iff_mem.mp ht)
  exact of_decide_eq_true this
theorem iZ_m7 (v : Nat) : iZp (m7_init v) := by
  unfold m7_init
  repeat' (first | exact iZ_mp _ | exact iZ_newA _ _ | exact iZ_putR | exact iZ_putI (lt100 rfl) | refine iZ_mb ?_ (fun _ => ?_))
theorem iZ_m1 (v : Nat) : iZp (m1_init v) := by
  unfold m1_init
  repeat' (first | exact iZ_mp _ | exact iZ_newA _ _ | exact iZ_new _ _ | exact iZ_putR | exact iZ_putI (lt100 rfl) | exact iZ_m7 _ | refine iZ_mb ?_ (fun _ => ?_))
theorem iZ_m5 (v : Nat) : iZp (m5_init v) := by
  unfold m5_init
  repeat' (first | exact iZ_mp _ | exact iZ_newA _ _ | exact iZ_putR | exact iZ_putI (lt100 rfl) | refine iZ_mb ?_ (fun _ => ?_))
theorem iZ_m9 (v : Nat) : iZp (m9_init v) := by
  unfold m9_init
  repeat' (first | exact iZ_mp _ | exact iZ_newA _ _ | exact iZ_putR | exact iZ_putI (lt100 rfl) | exact iZ_putZ (lt100 rfl) | refine iZ_mb ?_ (fun _ => ?_))
theorem iZ_m11 (v : Nat) : iZp (m11_init v) := by
  unfold m11_init
  repeat' (first | exact iZ_mp _ | exact iZ_newA _ _ | exact iZ_newM _ _ | exact iZ_new _ _ | exact iZ_putR | exact iZ_getR | exact iZ_fill _ _ | exact iZ_putI (lt100 rfl) | exact iZ_putZ (lt100 rfl) | exact iZ_m1 _ | exact iZ_m5 _ | exact iZ_m7 _ | exact iZ_m9 _ | refine iZ_mb ?_ (fun _ => ?_))
theorem iZ_m12 (v : Nat) : iZp (m12_init v) := by
  unfold m12_init
  repeat' (first | exact iZ_mp _ | exact iZ_newA _ _ | exact iZ_stI | exact iZ_putR | refine iZ_mb ?_ (fun _ => ?_))
/-- the numbers that a heap holds -/
def rH (h : gH) : Nat → Int → Int := fun q j => (h.2.1 q j.toNat).toInt
def mH (h : gH) : Nat → Int → Int := fun q j => (h.2.1 (55 + q) j.toNat).toInt
theorem iVl_at {h : gH} (hv : iVl.all (fun x => decide (h.2.1 x.1 x.2.1 = iI x.2.2)) = true) (q n : Nat) (v : Int) (hm : (q, n, v) ∈ iVl) : h.2.1 q n = iI v := of_decide_eq_true (List.all_eq_true.mp hv _ hm)
theorem iVl_t {h : gH} (hv : iVl.all (fun x => decide (h.2.1 x.1 x.2.1 = iI x.2.2)) = true) (q n : Nat) (v : Int) (hm : (q, n, v) ∈ iVl) (i : i32 v) : (h.2.1 q n).toInt = v := by
  rw [iVl_at hv q n v hm, iI_t i]
theorem iRun_inv : ∃ h, iRun gH0 = some ((), h) ∧ Inv (mH h) (rH h) h ∧ cK (rH h) h = h ∧ h.1 = iSh := by
  have hs := iSee_ok
  have hZ : ∀ r h, iRun gH0 = some (r, h) → iZ h := fun r h e => by
    refine (iZ_mb (iZ_new 10 15) fun r => iZ_mb (iZ_m11 r) fun _ => iZ_mb (iZ_new 11 45) fun q => iZ_mb (iZ_m12 q) fun _ => iZ_if (iZ_mp _) ?_) gH0 r h e (fun q t m n hq => by cases hq)
    intro h r h' e
    cases e
  cases hrun : iRun gH0 with
  | none =>
    rw [hrun] at hs
    cases hs
  | some q =>
    obtain ⟨u, h⟩ := q
    have hz := hZ u h hrun
    rw [hrun] at hs
    have hs : iChk h = true := hs
    unfold iChk at hs
    rw [Bool.and_eq_true, Bool.and_eq_true, Bool.and_eq_true, Bool.and_eq_true] at hs
    obtain ⟨s1, s2, s3', s4, s5⟩ := hs
    have e1 : h.1 = iSh := of_decide_eq_true s1
    have pt : ∀ x, x ∈ iPt → h.2.2 x.1 x.2.1 = some x.2.2 := fun x hx => of_decide_eq_true (List.all_eq_true.mp s2 x hx)
    have ma : ∀ x, x ∈ iMa → h.2.2 55 x.1 = some (55 + x.2) := fun x hx => of_decide_eq_true (List.all_eq_true.mp s3' x hx)
    have vl := iVl_t s4
    have z10 : ∀ j, j < 250 → h.2.1 65 j = 0 := fun j hj => of_decide_eq_true (List.all_eq_true.mp s5 j (List.mem_range.mpr hj))
    have i1 : i32 (-1) := ⟨by omega, by omega⟩
    have i0 : i32 0 := ⟨by omega, by omega⟩
    have i5 : i32 5 := ⟨by omega, by omega⟩
    have hC : OKC h := by
      refine ⟨fun a ha => ?_, fun a k t hp => ?_⟩
      · rw [e1]
        exact List.getElem?_append_left ha
      · unfold cPt at hp
        split at hp
        · cases hp; exact pt (0, 0, 1) (by decide)
        · cases hp; exact pt (0, 1, 15) (by decide)
        · cases hp; exact pt (0, 3, 29) (by decide)
        · cases hp; exact pt (0, 4, 38) (by decide)
        · cases hp; exact pt (0, 5, 40) (by decide)
        · cases hp; exact pt (0, 6, 42) (by decide)
        · cases hp; exact pt (0, 7, 47) (by decide)
        · cases hp; exact pt (0, 8, 48) (by decide)
        · cases hp; exact pt (0, 9, 49) (by decide)
        · cases hp; exact pt (0, 10, 50) (by decide)
        · cases hp; exact pt (0, 11, 51) (by decide)
        · cases hp; exact pt (0, 12, 52) (by decide)
        · cases hp; exact pt (0, 13, 53) (by decide)
        · cases hp; exact pt (0, 14, 54) (by decide)
        · cases hp; exact pt (1, 2, 2) (by decide)
        · cases hp; exact pt (1, 3, 3) (by decide)
        · cases hp; exact pt (1, 5, 4) (by decide)
        · cases hp; exact pt (1, 7, 5) (by decide)
        · cases hp; exact pt (1, 9, 6) (by decide)
        · cases hp; exact pt (1, 11, 7) (by decide)
        · cases hp; exact pt (1, 12, 8) (by decide)
        · cases hp; exact pt (1, 14, 9) (by decide)
        · cases hp; exact pt (1, 15, 10) (by decide)
        · cases hp; exact pt (1, 16, 11) (by decide)
        · cases hp; exact pt (1, 17, 12) (by decide)
        · cases hp; exact pt (1, 18, 13) (by decide)
        · cases hp; exact pt (13, 0, 14) (by decide)
        · cases hp; exact pt (15, 2, 16) (by decide)
        · cases hp; exact pt (15, 3, 17) (by decide)
        · cases hp; exact pt (15, 5, 18) (by decide)
        · cases hp; exact pt (15, 7, 19) (by decide)
        · cases hp; exact pt (15, 9, 20) (by decide)
        · cases hp; exact pt (15, 11, 21) (by decide)
        · cases hp; exact pt (15, 12, 22) (by decide)
        · cases hp; exact pt (15, 14, 23) (by decide)
        · cases hp; exact pt (15, 15, 24) (by decide)
        · cases hp; exact pt (15, 16, 25) (by decide)
        · cases hp; exact pt (15, 17, 26) (by decide)
        · cases hp; exact pt (15, 18, 27) (by decide)
        · cases hp; exact pt (27, 0, 28) (by decide)
        · cases hp; exact pt (29, 3, 30) (by decide)
        · cases hp; exact pt (29, 4, 31) (by decide)
        · cases hp; exact pt (29, 5, 32) (by decide)
        · cases hp; exact pt (29, 6, 33) (by decide)
        · cases hp; exact pt (29, 7, 34) (by decide)
        · cases hp; exact pt (29, 8, 35) (by decide)
        · cases hp; exact pt (29, 9, 36) (by decide)
        · cases hp; exact pt (29, 10, 37) (by decide)
        · cases hp; exact pt (38, 0, 39) (by decide)
        · cases hp; exact pt (40, 0, 41) (by decide)
        · cases hp; exact pt (42, 0, 43) (by decide)
        · cases hp; exact pt (42, 1, 44) (by decide)
        · cases hp; exact pt (42, 2, 45) (by decide)
        · cases hp; exact pt (42, 3, 46) (by decide)
        · cases hp
    have hM : OKM 55 h := by
      refine ⟨by rw [e1]; rfl, fun o n ho => ?_, fun k o ho => ?_⟩
      · rw [e1]
        unfold mLn at ho
        split at ho
        · cases ho; rfl
        · cases ho; rfl
        · cases ho; rfl
        · cases ho; rfl
        · cases ho; rfl
        · cases ho; rfl
        · cases ho; rfl
        · cases ho; rfl
        · cases ho; rfl
        · cases ho; rfl
        · cases ho; rfl
        · cases ho; rfl
        · cases ho; rfl
        · cases ho; rfl
        · cases ho; rfl
        · cases ho; rfl
        · cases ho; rfl
        · cases ho; rfl
        · cases ho; rfl
        · cases ho; rfl
        · cases ho; rfl
        · cases ho; rfl
        · cases ho; rfl
        · cases ho; rfl
        · cases ho; rfl
        · cases ho; rfl
        · cases ho; rfl
        · cases ho; rfl
        · cases ho
      · unfold mAr at ho
        split at ho
        · cases ho; exact ma (0, 1) (by decide)
        · cases ho; exact ma (1, 2) (by decide)
        · cases ho; exact ma (2, 3) (by decide)
        · cases ho; exact ma (3, 4) (by decide)
        · cases ho; exact ma (4, 5) (by decide)
        · cases ho; exact ma (5, 6) (by decide)
        · cases ho; exact ma (6, 7) (by decide)
        · cases ho; exact ma (7, 8) (by decide)
        · cases ho; exact ma (8, 9) (by decide)
        · cases ho; exact ma (9, 10) (by decide)
        · cases ho; exact ma (16, 11) (by decide)
        · cases ho; exact ma (17, 12) (by decide)
        · cases ho; exact ma (18, 13) (by decide)
        · cases ho; exact ma (21, 14) (by decide)
        · cases ho; exact ma (22, 15) (by decide)
        · cases ho; exact ma (24, 16) (by decide)
        · cases ho; exact ma (25, 17) (by decide)
        · cases ho; exact ma (26, 18) (by decide)
        · cases ho; exact ma (28, 19) (by decide)
        · cases ho; exact ma (29, 20) (by decide)
        · cases ho; exact ma (30, 21) (by decide)
        · cases ho; exact ma (31, 22) (by decide)
        · cases ho; exact ma (32, 23) (by decide)
        · cases ho; exact ma (33, 24) (by decide)
        · cases ho; exact ma (34, 25) (by decide)
        · cases ho; exact ma (35, 26) (by decide)
        · cases ho; exact ma (39, 27) (by decide)
        · cases ho; exact ma (43, 28) (by decide)
        · cases ho
    have eC : cK (rH h) h = h := by
      obtain ⟨a, b, c⟩ := h
      unfold cK rH
      simp only [Prod.mk.injEq, true_and, and_true]
      funext q n
      split
      · exact iI_of _
      · rfl
    have eM : mK 55 (mH h) h = h := by
      obtain ⟨a, b, c⟩ := h
      unfold mK mH
      simp only [Prod.mk.injEq, true_and, and_true]
      funext q n
      split
      · rename_i c
        have e : 55 + (q - 55) = q := by omega
        rw [e]
        exact iI_of _
      · rfl
    have gR : okG (rH h) := fun q j => i32_of _
    have gM' : okG (mH h) := fun q j => i32_of _
    have n0 : mH h 1 0 = 0 := vl 56 0 0 (by decide) i0
    have n1 : mH h 1 1 = 0 := vl 56 1 0 (by decide) i0
    have n2 : mH h 1 2 = 0 := vl 56 2 0 (by decide) i0
    have n3 : mH h 1 3 = 0 := vl 56 3 0 (by decide) i0
    have n4 : mH h 1 4 = 0 := vl 56 4 0 (by decide) i0
    have n5 : mH h 1 5 = 0 := vl 56 5 0 (by decide) i0
    have n6 : mH h 1 6 = 0 := vl 56 6 0 (by decide) i0
    have n42 : mH h 0 42 = 0 := vl 55 42 0 (by decide) i0
    have n27 : mH h 0 27 = 0 := vl 55 27 0 (by decide) i0
    have n10 : mH h 0 10 = 0 := vl 55 10 0 (by decide) i0
    have n40 : mH h 0 40 = 0 := vl 55 40 0 (by decide) i0
    have c10 : ∀ k, k = 0 ∨ k = 1 ∨ k = 4 ∨ k = 6 ∨ k = 8 ∨ k = 10 ∨ k = 13 → rH h 1 (k : Nat) = 0 := fun k hk => by
      rcases hk with rfl | rfl | rfl | rfl | rfl | rfl | rfl <;> exact vl 1 _ 0 (by decide) i0
    have R : RDs 1 (mH h) (rH h) h := by
      refine ⟨⟨(c10 0 (by omega)).trans n0.symm, (c10 1 (by omega)).trans n1.symm, (c10 4 (by omega)).trans n2.symm, (c10 6 (by omega)).trans n3.symm, (c10 8 (by omega)).trans n4.symm, (c10 10 (by omega)).trans n5.symm, (c10 13 (by omega)).trans n6.symm⟩, ?_, ?_, ?_, ?_, ?_, ?_, ?_⟩
      · intro i h0 h1; omega
      · intro i h0 h1; omega
      · intro i h0 h1; omega
      · intro i h0 h1; omega
      · intro i h0 h1; omega
      · intro i h0 h1; omega
      · intro i h0 h1; omega
    have s21 : ∀ s : Int, 0 ≤ s → s < 4 → mH h 21 s = -1 ∧ rH h 47 s = -1 ∧ mH h 22 s = 0 ∧ mH h 24 s = -1 ∧ rH h 49 s = 5 := fun s h0 h1 => by
      have : s = 0 ∨ s = 1 ∨ s = 2 ∨ s = 3 := by omega
      rcases this with rfl | rfl | rfl | rfl
      · exact ⟨vl 76 0 (-1) (by decide) i1, vl 47 0 (-1) (by decide) i1, vl 77 0 0 (by decide) i0, vl 79 0 (-1) (by decide) i1, vl 49 0 5 (by decide) i5⟩
      · exact ⟨vl 76 1 (-1) (by decide) i1, vl 47 1 (-1) (by decide) i1, vl 77 1 0 (by decide) i0, vl 79 1 (-1) (by decide) i1, vl 49 1 5 (by decide) i5⟩
      · exact ⟨vl 76 2 (-1) (by decide) i1, vl 47 2 (-1) (by decide) i1, vl 77 2 0 (by decide) i0, vl 79 2 (-1) (by decide) i1, vl 49 2 5 (by decide) i5⟩
      · exact ⟨vl 76 3 (-1) (by decide) i1, vl 47 3 (-1) (by decide) i1, vl 77 3 0 (by decide) i0, vl 79 3 (-1) (by decide) i1, vl 49 3 5 (by decide) i5⟩
    have CI0 : CI (mH h) (rH h) h := by
      refine ⟨hC, ?_, gR, by rw [e1]; decide, R, ⟨(vl 0 2 0 (by decide) i0).trans n42.symm, fun q => by omega⟩, ⟨(vl 38 1 0 (by decide) i0).trans n27.symm, fun j j0 j1 => by omega⟩, ⟨(vl 29 0 0 (by decide) i0).trans n10.symm, fun j j0 j1 => by omega⟩, ?_, ?_, ⟨(vl 40 1 0 (by decide) i0).trans n40.symm, fun j j0 j1 => by omega, vl 54 0 0 (by decide) i0, vl 54 256 0 (by decide) i0⟩⟩
      · intro p n hp
        rw [e1] at hp
        have hb : ∀ x, x ∈ iSh → x.1 ≠ 4 := by decide
        exact absurd rfl (hb _ (List.mem_of_getElem? hp))
      · intro s h0 h1
        obtain ⟨a, b, _⟩ := s21 s h0 h1
        exact ⟨b.trans a.symm, fun q => by omega⟩
      · intro s h0 h1
        obtain ⟨_, _, _, a, b⟩ := s21 s h0 h1
        exact Or.inl ⟨a, b⟩
    have W : WD (mH h) := by
      refine ⟨gM', by rw [n0]; omega, by rw [n1]; omega, by rw [n2]; omega, by rw [n3]; omega, by rw [n4]; omega, by rw [n5]; omega, by rw [n6]; omega, ?_, ?_, ?_, ?_, ?_, ?_, ?_, ?_⟩
      · intro i h0 h1; omega
      · intro i h0 h1; omega
      · intro i h0 h1; omega
      · intro i h0 h1; omega
      · intro i h0 h1; omega
      · intro i j h0 h1 h2; omega
      · intro i h0 h1; omega
      · intro i h0 h1; omega
    have X : WX (mH h) := by
      refine ⟨by rw [n27]; omega, fun j h0 h1 => ?_, fun j h0 h1 => ?_, by rw [n40]; omega⟩
      · obtain ⟨a, _, b, _⟩ := s21 j h0 h1
        omega
      · obtain ⟨_, _, _, b, _⟩ := s21 j h0 h1
        omega
    have Y : WY (mH h) := by
      refine ⟨by rw [n10]; omega, fun j h0 h1 => ?_, ?_, Or.inl n42, fun k j h1 h2 h3 => ?_⟩
      · have e : mH h 10 j = 0 := by
          show (h.2.1 65 j.toNat).toInt = 0
          rw [z10 j.toNat (by omega)]
          rfl
        rw [e]; omega
      · have il : ∀ v : Int, 0 ≤ v → v ≤ 255 → i32 v := fun v h0 h1 => ⟨by omega, by omega⟩
        exact ⟨vl 69 0 112 (by decide) (il _ (by omega) (by omega)), vl 69 1 108 (by decide) (il _ (by omega) (by omega)), vl 69 2 101 (by decide) (il _ (by omega) (by omega)), vl 69 3 97 (by decide) (il _ (by omega) (by omega)), vl 69 4 100 (by decide) (il _ (by omega) (by omega)), vl 69 5 101 (by decide) (il _ (by omega) (by omega)), vl 69 6 100 (by decide) (il _ (by omega) (by omega))⟩
      · have hk : k = 1 ∨ k = 2 ∨ k = 3 ∨ k = 4 ∨ k = 5 ∨ k = 6 ∨ k = 7 ∨ k = 8 ∨ k = 9 := by omega
        by_cases c : j < 0
        · have ej : j.toNat = 0 := by omega
          show (h.2.1 (55 + k) j.toNat).toInt = 0
          rw [ej]
          rcases hk with rfl | rfl | rfl | rfl | rfl | rfl | rfl | rfl | rfl <;> exact vl _ 0 0 (by decide) i0
        · have hl : lenK k ≤ j := h3.elim (fun z => absurd z c) id
          have key : ∀ m, (h.1)[55 + k]? = some (100, m) → (m : Int) ≤ j → mH h k j = 0 := fun m hm hj => by
            show (h.2.1 (55 + k) j.toNat).toInt = 0
            rw [hz (55 + k) 100 m j.toNat hm (by omega) (by omega)]
            rfl
          rw [e1] at key
          rcases hk with rfl | rfl | rfl | rfl | rfl | rfl | rfl | rfl | rfl
          · exact key 7 rfl hl
          · exact key 16 rfl hl
          · exact key 48 rfl hl
          · exact key 96 rfl hl
          · exact key 12 rfl hl
          · exact key 504 rfl hl
          · exact key 1560 rfl hl
          · exact key 112 rfl hl
          · exact key 36 rfl hl
    exact ⟨h, rfl, ⟨CI0, W, X, Y, hM, eM⟩, eC, e1⟩

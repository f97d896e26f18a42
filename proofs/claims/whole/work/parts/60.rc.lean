/-! ===== the class's fixed objects, at 0 to 54: what they hold is rho ===== -/
def cSh : List (Nat × Nat) := [(10, 15), (1, 19), (100, 8), (100, 8), (102, 16), (103, 24), (104, 6), (105, 16), (100, 16), (100, 12), (100, 12), (100, 12), (100, 9), (6, 2), (100, 48), (1, 19), (100, 8), (100, 8), (102, 16), (103, 24), (104, 6), (105, 16), (100, 16), (100, 12), (100, 12), (100, 12), (100, 9), (6, 2), (100, 48), (5, 13), (100, 12), (100, 12), (100, 12), (100, 250), (100, 48), (101, 250), (100, 251), (100, 251), (6, 2), (100, 48), (8, 3), (100, 30), (106, 4), (100, 40), (100, 40), (100, 40), (100, 40), (100, 4), (100, 4), (100, 4), (100, 4), (100, 4), (100, 4), (100, 16), (100, 512)]
/-- which place a field holds -/
def cPt : Nat → Nat → Option Nat
  | 0, 0 => some 1
  | 0, 1 => some 15
  | 0, 3 => some 29
  | 0, 4 => some 38
  | 0, 5 => some 40
  | 0, 6 => some 42
  | 0, 7 => some 47
  | 0, 8 => some 48
  | 0, 9 => some 49
  | 0, 10 => some 50
  | 0, 11 => some 51
  | 0, 12 => some 52
  | 0, 13 => some 53
  | 0, 14 => some 54
  | 1, 2 => some 2
  | 1, 3 => some 3
  | 1, 5 => some 4
  | 1, 7 => some 5
  | 1, 9 => some 6
  | 1, 11 => some 7
  | 1, 12 => some 8
  | 1, 14 => some 9
  | 1, 15 => some 10
  | 1, 16 => some 11
  | 1, 17 => some 12
  | 1, 18 => some 13
  | 13, 0 => some 14
  | 15, 2 => some 16
  | 15, 3 => some 17
  | 15, 5 => some 18
  | 15, 7 => some 19
  | 15, 9 => some 20
  | 15, 11 => some 21
  | 15, 12 => some 22
  | 15, 14 => some 23
  | 15, 15 => some 24
  | 15, 16 => some 25
  | 15, 17 => some 26
  | 15, 18 => some 27
  | 27, 0 => some 28
  | 29, 3 => some 30
  | 29, 4 => some 31
  | 29, 5 => some 32
  | 29, 6 => some 33
  | 29, 7 => some 34
  | 29, 8 => some 35
  | 29, 9 => some 36
  | 29, 10 => some 37
  | 38, 0 => some 39
  | 40, 0 => some 41
  | 42, 0 => some 43
  | 42, 1 => some 44
  | 42, 2 => some 45
  | 42, 3 => some 46
  | _, _ => none
def OKC (h : gH) : Prop := (∀ a, a < 55 → h.1[a]? = cSh[a]?) ∧ ∀ a k t, cPt a k = some t → h.2.2 a k = some t
/-- the heap in which the class's fixed objects hold rho -/
def cK (rho : Nat → Int → Int) (h : gH) : gH := (h.1, (fun q n => if q < 55 then iI (rho q n) else h.2.1 q n), h.2.2)
theorem cK_0 {rho : Nat → Int → Int} {h : gH} {a n : Nat} (ha : a < 55) : (cK rho h).2.1 a n = iI (rho a n) := by
  show (if a < 55 then _ else _) = _
  rw [if_pos ha]
theorem cK_d {rho : Nat → Int → Int} {h : gH} {a n : Nat} (ha : 55 ≤ a) : (cK rho h).2.1 a n = h.2.1 a n := by
  show (if a < 55 then _ else _) = _
  rw [if_neg (by omega)]
theorem cK_w {rho : Nat → Int → Int} {h : gH} {a : Nat} {j v : Int} (ha : a < 55) (hj : 0 ≤ j) : ((cK rho h).1, u2 (cK rho h).2.1 a j.toNat (iI v), (cK rho h).2.2) = cK (s3 rho a j v) h := by
  unfold cK
  simp only [Prod.mk.injEq, true_and, and_true]
  funext q n
  unfold u2 s3
  by_cases h1 : q < 55
  · simp only [h1, if_true]
    by_cases h2 : q = a ∧ n = j.toNat
    · rw [if_pos h2, if_pos ⟨h2.1, by omega⟩]
    · rw [if_neg h2, if_neg (fun z => h2 ⟨z.1, by omega⟩)]
  · simp only [h1, if_false]
    rw [if_neg (fun z => h1 (by omega))]
section RCS
variable {rho : Nat → Int → Int} {h : gH} {α β : Type}
theorem OKC.sh (hC : OKC h) {a : Nat} (ha : a < 55) : (cK rho h).1[a]? = cSh[a]? := hC.1 a ha
theorem OKC.vw (hC : OKC h) {a t n : Nat} {ts : List Nat} (ha : a < 55) (hs : cSh[a]? = some (t, n)) (ht : ts.contains t = true) (f : gM α) : mv ts a f (cK rho h) = f (cK rho h) := mv_eq ((hC.sh ha).trans hs) ht
theorem OKC.gt (hC : OKC h) {a k t n x : Nat} {ts : List Nat} (ha : a < 55) (hs : cSh[a]? = some (t, n)) (ht : ts.contains t = true) (hp : cPt a k = some x) (f : Nat → gM α) : mb (gGetR ts a k) f (cK rho h) = f x (cK rho h) := by
  have h1 : (cK rho h).2.2 a k = some x := hC.2 a k x hp
  refine mb_eq ?_
  unfold gGetR
  rw [hC.vw ha hs ht, h1]
theorem OKC.sc (hC : OKC h) {a t n : Nat} {ts : List Nat} (k : Nat) (ha : a < 55) (hs : cSh[a]? = some (t, n)) (ht : ts.contains t = true) (f : Int32 → gM α) : mb (gGetI ts a k) f (cK rho h) = f (iI (rho a k)) (cK rho h) := by
  refine mb_eq ?_
  unfold gGetI
  rw [hC.vw ha hs ht, cK_0 ha]
theorem OKC.ps (hC : OKC h) {a t n : Nat} {ts : List Nat} (k : Nat) (v : Int) (ha : a < 55) (hs : cSh[a]? = some (t, n)) (ht : ts.contains t = true) (f : Unit → gM α) : mb (gPutI ts a k (iI v)) f (cK rho h) = f () (cK (s3 rho a k v) h) := by
  refine mb_eq ?_
  unfold gPutI
  rw [hC.vw ha hs ht]
  have := cK_w (rho := rho) (h := h) (a := a) (j := k) (v := v) ha (by omega)
  rw [Int.toNat_natCast] at this
  rw [this]
theorem OKC.ix (hC : OKC h) {a t n : Nat} (ha : a < 55) (hs : cSh[a]? = some (t, n)) {j : Int} (h0 : 0 ≤ j) (h1 : j < n) (hn : n ≤ 100000) (f : gM α) : mi t a (iI j) f (cK rho h) = f (cK rho h) := by
  have h2 : (cK rho h).1[a]? = some (t, n) := (hC.sh ha).trans hs
  have hc : (iI j).toNatClampNeg = j.toNat := iI_cl ⟨by omega, by omega⟩
  have h4 : ¬ iI j < 0 := by rw [iI_0, iI_lt ⟨by omega, by omega⟩ ⟨by omega, by omega⟩]; omega
  unfold mi
  rw [h2]
  simp only [hc]
  rw [if_pos ⟨trivial, fun q => q.elim h4 (fun q => by omega)⟩]
theorem OKC.ld (hC : OKC h) {a t n : Nat} (ha : a < 55) (hs : cSh[a]? = some (t, n)) {j : Int} (h0 : 0 ≤ j) (h1 : j < n) (hn : n ≤ 100000) (f : Int32 → gM α) : mb (gLdI t a (iI j)) f (cK rho h) = f (iI (rho a j)) (cK rho h) := by
  have hc : (iI j).toNatClampNeg = j.toNat := iI_cl ⟨by omega, by omega⟩
  refine mb_eq ?_
  unfold gLdI
  rw [hC.ix ha hs h0 h1 hn, hc, cK_0 ha, Int.toNat_of_nonneg h0]
theorem OKC.st (hC : OKC h) {a t n : Nat} (ha : a < 55) (hs : cSh[a]? = some (t, n)) {j v : Int} (h0 : 0 ≤ j) (h1 : j < n) (hn : n ≤ 100000) (f : Unit → gM α) : mb (gStI t a (iI j) (iI v)) f (cK rho h) = f () (cK (s3 rho a j v) h) := by
  have hc : (iI j).toNatClampNeg = j.toNat := iI_cl ⟨by omega, by omega⟩
  refine mb_eq ?_
  unfold gStI
  rw [hC.ix ha hs h0 h1 hn, hc, cK_w ha h0]
theorem OKC.ln (hC : OKC h) {a t n : Nat} (ha : a < 55) (hs : cSh[a]? = some (t, n)) (ht : 100 ≤ t) (f : Int32 → gM α) : mb (gLen a) f (cK rho h) = f (iI n) (cK rho h) := by
  have h2 : (cK rho h).1[a]? = some (t, n) := (hC.sh ha).trans hs
  refine mb_eq ?_
  unfold gLen
  rw [h2]
  simp only [ht, if_true]
  rw [← Int32.ofInt_eq_ofNat]
  rfl
theorem OKC.m0 (hC : OKC h) (g : gM α) (f : α → gM β) : mb (mv [10] 0 g) f (cK rho h) = mb g f (cK rho h) := by
  unfold mb
  rw [hC.vw (a := 0) (by omega) rfl rfl]
theorem OKC.g0_0 (hC : OKC h) (f : Nat → gM α) : mb (gGetR [10] 0 0) f (cK rho h) = f 1 (cK rho h) := hC.gt (by omega) rfl rfl rfl f
theorem OKC.g0_1 (hC : OKC h) (f : Nat → gM α) : mb (gGetR [10] 0 1) f (cK rho h) = f 15 (cK rho h) := hC.gt (by omega) rfl rfl rfl f
theorem OKC.g0_3 (hC : OKC h) (f : Nat → gM α) : mb (gGetR [10] 0 3) f (cK rho h) = f 29 (cK rho h) := hC.gt (by omega) rfl rfl rfl f
theorem OKC.g0_4 (hC : OKC h) (f : Nat → gM α) : mb (gGetR [10] 0 4) f (cK rho h) = f 38 (cK rho h) := hC.gt (by omega) rfl rfl rfl f
theorem OKC.g0_5 (hC : OKC h) (f : Nat → gM α) : mb (gGetR [10] 0 5) f (cK rho h) = f 40 (cK rho h) := hC.gt (by omega) rfl rfl rfl f
theorem OKC.g0_6 (hC : OKC h) (f : Nat → gM α) : mb (gGetR [10] 0 6) f (cK rho h) = f 42 (cK rho h) := hC.gt (by omega) rfl rfl rfl f
theorem OKC.g0_7 (hC : OKC h) (f : Nat → gM α) : mb (gGetR [10] 0 7) f (cK rho h) = f 47 (cK rho h) := hC.gt (by omega) rfl rfl rfl f
theorem OKC.g0_8 (hC : OKC h) (f : Nat → gM α) : mb (gGetR [10] 0 8) f (cK rho h) = f 48 (cK rho h) := hC.gt (by omega) rfl rfl rfl f
theorem OKC.g0_9 (hC : OKC h) (f : Nat → gM α) : mb (gGetR [10] 0 9) f (cK rho h) = f 49 (cK rho h) := hC.gt (by omega) rfl rfl rfl f
theorem OKC.g0_10 (hC : OKC h) (f : Nat → gM α) : mb (gGetR [10] 0 10) f (cK rho h) = f 50 (cK rho h) := hC.gt (by omega) rfl rfl rfl f
theorem OKC.g0_11 (hC : OKC h) (f : Nat → gM α) : mb (gGetR [10] 0 11) f (cK rho h) = f 51 (cK rho h) := hC.gt (by omega) rfl rfl rfl f
theorem OKC.g0_12 (hC : OKC h) (f : Nat → gM α) : mb (gGetR [10] 0 12) f (cK rho h) = f 52 (cK rho h) := hC.gt (by omega) rfl rfl rfl f
theorem OKC.g0_13 (hC : OKC h) (f : Nat → gM α) : mb (gGetR [10] 0 13) f (cK rho h) = f 53 (cK rho h) := hC.gt (by omega) rfl rfl rfl f
theorem OKC.g0_14 (hC : OKC h) (f : Nat → gM α) : mb (gGetR [10] 0 14) f (cK rho h) = f 54 (cK rho h) := hC.gt (by omega) rfl rfl rfl f
theorem OKC.s0_2 (hC : OKC h) (f : Int32 → gM α) : mb (gGetI [10] 0 2) f (cK rho h) = f (iI (rho 0 2)) (cK rho h) := hC.sc 2 (by omega) rfl rfl f
theorem OKC.p0_2 (hC : OKC h) {v : Int} (f : Unit → gM α) : mb (gPutI [10] 0 2 (iI v)) f (cK rho h) = f () (cK (s3 rho 0 2 v) h) := hC.ps 2 v (by omega) rfl rfl f
theorem OKC.m1 (hC : OKC h) (g : gM α) (f : α → gM β) : mb (mv [1] 1 g) f (cK rho h) = mb g f (cK rho h) := by
  unfold mb
  rw [hC.vw (a := 1) (by omega) rfl rfl]
theorem OKC.g1_2 (hC : OKC h) (f : Nat → gM α) : mb (gGetR [1] 1 2) f (cK rho h) = f 2 (cK rho h) := hC.gt (by omega) rfl rfl rfl f
theorem OKC.g1_3 (hC : OKC h) (f : Nat → gM α) : mb (gGetR [1] 1 3) f (cK rho h) = f 3 (cK rho h) := hC.gt (by omega) rfl rfl rfl f
theorem OKC.g1_5 (hC : OKC h) (f : Nat → gM α) : mb (gGetR [1] 1 5) f (cK rho h) = f 4 (cK rho h) := hC.gt (by omega) rfl rfl rfl f
theorem OKC.g1_7 (hC : OKC h) (f : Nat → gM α) : mb (gGetR [1] 1 7) f (cK rho h) = f 5 (cK rho h) := hC.gt (by omega) rfl rfl rfl f
theorem OKC.g1_9 (hC : OKC h) (f : Nat → gM α) : mb (gGetR [1] 1 9) f (cK rho h) = f 6 (cK rho h) := hC.gt (by omega) rfl rfl rfl f
theorem OKC.g1_11 (hC : OKC h) (f : Nat → gM α) : mb (gGetR [1] 1 11) f (cK rho h) = f 7 (cK rho h) := hC.gt (by omega) rfl rfl rfl f
theorem OKC.g1_12 (hC : OKC h) (f : Nat → gM α) : mb (gGetR [1] 1 12) f (cK rho h) = f 8 (cK rho h) := hC.gt (by omega) rfl rfl rfl f
theorem OKC.g1_14 (hC : OKC h) (f : Nat → gM α) : mb (gGetR [1] 1 14) f (cK rho h) = f 9 (cK rho h) := hC.gt (by omega) rfl rfl rfl f
theorem OKC.g1_15 (hC : OKC h) (f : Nat → gM α) : mb (gGetR [1] 1 15) f (cK rho h) = f 10 (cK rho h) := hC.gt (by omega) rfl rfl rfl f
theorem OKC.g1_16 (hC : OKC h) (f : Nat → gM α) : mb (gGetR [1] 1 16) f (cK rho h) = f 11 (cK rho h) := hC.gt (by omega) rfl rfl rfl f
theorem OKC.g1_17 (hC : OKC h) (f : Nat → gM α) : mb (gGetR [1] 1 17) f (cK rho h) = f 12 (cK rho h) := hC.gt (by omega) rfl rfl rfl f
theorem OKC.g1_18 (hC : OKC h) (f : Nat → gM α) : mb (gGetR [1] 1 18) f (cK rho h) = f 13 (cK rho h) := hC.gt (by omega) rfl rfl rfl f
theorem OKC.s1_0 (hC : OKC h) (f : Int32 → gM α) : mb (gGetI [1] 1 0) f (cK rho h) = f (iI (rho 1 0)) (cK rho h) := hC.sc 0 (by omega) rfl rfl f
theorem OKC.p1_0 (hC : OKC h) {v : Int} (f : Unit → gM α) : mb (gPutI [1] 1 0 (iI v)) f (cK rho h) = f () (cK (s3 rho 1 0 v) h) := hC.ps 0 v (by omega) rfl rfl f
theorem OKC.s1_1 (hC : OKC h) (f : Int32 → gM α) : mb (gGetI [1] 1 1) f (cK rho h) = f (iI (rho 1 1)) (cK rho h) := hC.sc 1 (by omega) rfl rfl f
theorem OKC.p1_1 (hC : OKC h) {v : Int} (f : Unit → gM α) : mb (gPutI [1] 1 1 (iI v)) f (cK rho h) = f () (cK (s3 rho 1 1 v) h) := hC.ps 1 v (by omega) rfl rfl f
theorem OKC.s1_4 (hC : OKC h) (f : Int32 → gM α) : mb (gGetI [1] 1 4) f (cK rho h) = f (iI (rho 1 4)) (cK rho h) := hC.sc 4 (by omega) rfl rfl f
theorem OKC.p1_4 (hC : OKC h) {v : Int} (f : Unit → gM α) : mb (gPutI [1] 1 4 (iI v)) f (cK rho h) = f () (cK (s3 rho 1 4 v) h) := hC.ps 4 v (by omega) rfl rfl f
theorem OKC.s1_6 (hC : OKC h) (f : Int32 → gM α) : mb (gGetI [1] 1 6) f (cK rho h) = f (iI (rho 1 6)) (cK rho h) := hC.sc 6 (by omega) rfl rfl f
theorem OKC.p1_6 (hC : OKC h) {v : Int} (f : Unit → gM α) : mb (gPutI [1] 1 6 (iI v)) f (cK rho h) = f () (cK (s3 rho 1 6 v) h) := hC.ps 6 v (by omega) rfl rfl f
theorem OKC.s1_8 (hC : OKC h) (f : Int32 → gM α) : mb (gGetI [1] 1 8) f (cK rho h) = f (iI (rho 1 8)) (cK rho h) := hC.sc 8 (by omega) rfl rfl f
theorem OKC.p1_8 (hC : OKC h) {v : Int} (f : Unit → gM α) : mb (gPutI [1] 1 8 (iI v)) f (cK rho h) = f () (cK (s3 rho 1 8 v) h) := hC.ps 8 v (by omega) rfl rfl f
theorem OKC.s1_10 (hC : OKC h) (f : Int32 → gM α) : mb (gGetI [1] 1 10) f (cK rho h) = f (iI (rho 1 10)) (cK rho h) := hC.sc 10 (by omega) rfl rfl f
theorem OKC.p1_10 (hC : OKC h) {v : Int} (f : Unit → gM α) : mb (gPutI [1] 1 10 (iI v)) f (cK rho h) = f () (cK (s3 rho 1 10 v) h) := hC.ps 10 v (by omega) rfl rfl f
theorem OKC.s1_13 (hC : OKC h) (f : Int32 → gM α) : mb (gGetI [1] 1 13) f (cK rho h) = f (iI (rho 1 13)) (cK rho h) := hC.sc 13 (by omega) rfl rfl f
theorem OKC.p1_13 (hC : OKC h) {v : Int} (f : Unit → gM α) : mb (gPutI [1] 1 13 (iI v)) f (cK rho h) = f () (cK (s3 rho 1 13 v) h) := hC.ps 13 v (by omega) rfl rfl f
theorem OKC.m13 (hC : OKC h) (g : gM α) (f : α → gM β) : mb (mv [6] 13 g) f (cK rho h) = mb g f (cK rho h) := by
  unfold mb
  rw [hC.vw (a := 13) (by omega) rfl rfl]
theorem OKC.g13_0 (hC : OKC h) (f : Nat → gM α) : mb (gGetR [6] 13 0) f (cK rho h) = f 14 (cK rho h) := hC.gt (by omega) rfl rfl rfl f
theorem OKC.s13_1 (hC : OKC h) (f : Int32 → gM α) : mb (gGetI [6] 13 1) f (cK rho h) = f (iI (rho 13 1)) (cK rho h) := hC.sc 1 (by omega) rfl rfl f
theorem OKC.p13_1 (hC : OKC h) {v : Int} (f : Unit → gM α) : mb (gPutI [6] 13 1 (iI v)) f (cK rho h) = f () (cK (s3 rho 13 1 v) h) := hC.ps 1 v (by omega) rfl rfl f
theorem OKC.m15 (hC : OKC h) (g : gM α) (f : α → gM β) : mb (mv [1] 15 g) f (cK rho h) = mb g f (cK rho h) := by
  unfold mb
  rw [hC.vw (a := 15) (by omega) rfl rfl]
theorem OKC.g15_2 (hC : OKC h) (f : Nat → gM α) : mb (gGetR [1] 15 2) f (cK rho h) = f 16 (cK rho h) := hC.gt (by omega) rfl rfl rfl f
theorem OKC.g15_3 (hC : OKC h) (f : Nat → gM α) : mb (gGetR [1] 15 3) f (cK rho h) = f 17 (cK rho h) := hC.gt (by omega) rfl rfl rfl f
theorem OKC.g15_5 (hC : OKC h) (f : Nat → gM α) : mb (gGetR [1] 15 5) f (cK rho h) = f 18 (cK rho h) := hC.gt (by omega) rfl rfl rfl f
theorem OKC.g15_7 (hC : OKC h) (f : Nat → gM α) : mb (gGetR [1] 15 7) f (cK rho h) = f 19 (cK rho h) := hC.gt (by omega) rfl rfl rfl f
theorem OKC.g15_9 (hC : OKC h) (f : Nat → gM α) : mb (gGetR [1] 15 9) f (cK rho h) = f 20 (cK rho h) := hC.gt (by omega) rfl rfl rfl f
theorem OKC.g15_11 (hC : OKC h) (f : Nat → gM α) : mb (gGetR [1] 15 11) f (cK rho h) = f 21 (cK rho h) := hC.gt (by omega) rfl rfl rfl f
theorem OKC.g15_12 (hC : OKC h) (f : Nat → gM α) : mb (gGetR [1] 15 12) f (cK rho h) = f 22 (cK rho h) := hC.gt (by omega) rfl rfl rfl f
theorem OKC.g15_14 (hC : OKC h) (f : Nat → gM α) : mb (gGetR [1] 15 14) f (cK rho h) = f 23 (cK rho h) := hC.gt (by omega) rfl rfl rfl f
theorem OKC.g15_15 (hC : OKC h) (f : Nat → gM α) : mb (gGetR [1] 15 15) f (cK rho h) = f 24 (cK rho h) := hC.gt (by omega) rfl rfl rfl f
theorem OKC.g15_16 (hC : OKC h) (f : Nat → gM α) : mb (gGetR [1] 15 16) f (cK rho h) = f 25 (cK rho h) := hC.gt (by omega) rfl rfl rfl f
theorem OKC.g15_17 (hC : OKC h) (f : Nat → gM α) : mb (gGetR [1] 15 17) f (cK rho h) = f 26 (cK rho h) := hC.gt (by omega) rfl rfl rfl f
theorem OKC.g15_18 (hC : OKC h) (f : Nat → gM α) : mb (gGetR [1] 15 18) f (cK rho h) = f 27 (cK rho h) := hC.gt (by omega) rfl rfl rfl f
theorem OKC.s15_0 (hC : OKC h) (f : Int32 → gM α) : mb (gGetI [1] 15 0) f (cK rho h) = f (iI (rho 15 0)) (cK rho h) := hC.sc 0 (by omega) rfl rfl f
theorem OKC.p15_0 (hC : OKC h) {v : Int} (f : Unit → gM α) : mb (gPutI [1] 15 0 (iI v)) f (cK rho h) = f () (cK (s3 rho 15 0 v) h) := hC.ps 0 v (by omega) rfl rfl f
theorem OKC.s15_1 (hC : OKC h) (f : Int32 → gM α) : mb (gGetI [1] 15 1) f (cK rho h) = f (iI (rho 15 1)) (cK rho h) := hC.sc 1 (by omega) rfl rfl f
theorem OKC.p15_1 (hC : OKC h) {v : Int} (f : Unit → gM α) : mb (gPutI [1] 15 1 (iI v)) f (cK rho h) = f () (cK (s3 rho 15 1 v) h) := hC.ps 1 v (by omega) rfl rfl f
theorem OKC.s15_4 (hC : OKC h) (f : Int32 → gM α) : mb (gGetI [1] 15 4) f (cK rho h) = f (iI (rho 15 4)) (cK rho h) := hC.sc 4 (by omega) rfl rfl f
theorem OKC.p15_4 (hC : OKC h) {v : Int} (f : Unit → gM α) : mb (gPutI [1] 15 4 (iI v)) f (cK rho h) = f () (cK (s3 rho 15 4 v) h) := hC.ps 4 v (by omega) rfl rfl f
theorem OKC.s15_6 (hC : OKC h) (f : Int32 → gM α) : mb (gGetI [1] 15 6) f (cK rho h) = f (iI (rho 15 6)) (cK rho h) := hC.sc 6 (by omega) rfl rfl f
theorem OKC.p15_6 (hC : OKC h) {v : Int} (f : Unit → gM α) : mb (gPutI [1] 15 6 (iI v)) f (cK rho h) = f () (cK (s3 rho 15 6 v) h) := hC.ps 6 v (by omega) rfl rfl f
theorem OKC.s15_8 (hC : OKC h) (f : Int32 → gM α) : mb (gGetI [1] 15 8) f (cK rho h) = f (iI (rho 15 8)) (cK rho h) := hC.sc 8 (by omega) rfl rfl f
theorem OKC.p15_8 (hC : OKC h) {v : Int} (f : Unit → gM α) : mb (gPutI [1] 15 8 (iI v)) f (cK rho h) = f () (cK (s3 rho 15 8 v) h) := hC.ps 8 v (by omega) rfl rfl f
theorem OKC.s15_10 (hC : OKC h) (f : Int32 → gM α) : mb (gGetI [1] 15 10) f (cK rho h) = f (iI (rho 15 10)) (cK rho h) := hC.sc 10 (by omega) rfl rfl f
theorem OKC.p15_10 (hC : OKC h) {v : Int} (f : Unit → gM α) : mb (gPutI [1] 15 10 (iI v)) f (cK rho h) = f () (cK (s3 rho 15 10 v) h) := hC.ps 10 v (by omega) rfl rfl f
theorem OKC.s15_13 (hC : OKC h) (f : Int32 → gM α) : mb (gGetI [1] 15 13) f (cK rho h) = f (iI (rho 15 13)) (cK rho h) := hC.sc 13 (by omega) rfl rfl f
theorem OKC.p15_13 (hC : OKC h) {v : Int} (f : Unit → gM α) : mb (gPutI [1] 15 13 (iI v)) f (cK rho h) = f () (cK (s3 rho 15 13 v) h) := hC.ps 13 v (by omega) rfl rfl f
theorem OKC.m27 (hC : OKC h) (g : gM α) (f : α → gM β) : mb (mv [6] 27 g) f (cK rho h) = mb g f (cK rho h) := by
  unfold mb
  rw [hC.vw (a := 27) (by omega) rfl rfl]
theorem OKC.g27_0 (hC : OKC h) (f : Nat → gM α) : mb (gGetR [6] 27 0) f (cK rho h) = f 28 (cK rho h) := hC.gt (by omega) rfl rfl rfl f
theorem OKC.s27_1 (hC : OKC h) (f : Int32 → gM α) : mb (gGetI [6] 27 1) f (cK rho h) = f (iI (rho 27 1)) (cK rho h) := hC.sc 1 (by omega) rfl rfl f
theorem OKC.p27_1 (hC : OKC h) {v : Int} (f : Unit → gM α) : mb (gPutI [6] 27 1 (iI v)) f (cK rho h) = f () (cK (s3 rho 27 1 v) h) := hC.ps 1 v (by omega) rfl rfl f
theorem OKC.m29 (hC : OKC h) (g : gM α) (f : α → gM β) : mb (mv [5] 29 g) f (cK rho h) = mb g f (cK rho h) := by
  unfold mb
  rw [hC.vw (a := 29) (by omega) rfl rfl]
theorem OKC.g29_3 (hC : OKC h) (f : Nat → gM α) : mb (gGetR [5] 29 3) f (cK rho h) = f 30 (cK rho h) := hC.gt (by omega) rfl rfl rfl f
theorem OKC.g29_4 (hC : OKC h) (f : Nat → gM α) : mb (gGetR [5] 29 4) f (cK rho h) = f 31 (cK rho h) := hC.gt (by omega) rfl rfl rfl f
theorem OKC.g29_5 (hC : OKC h) (f : Nat → gM α) : mb (gGetR [5] 29 5) f (cK rho h) = f 32 (cK rho h) := hC.gt (by omega) rfl rfl rfl f
theorem OKC.g29_6 (hC : OKC h) (f : Nat → gM α) : mb (gGetR [5] 29 6) f (cK rho h) = f 33 (cK rho h) := hC.gt (by omega) rfl rfl rfl f
theorem OKC.g29_7 (hC : OKC h) (f : Nat → gM α) : mb (gGetR [5] 29 7) f (cK rho h) = f 34 (cK rho h) := hC.gt (by omega) rfl rfl rfl f
theorem OKC.g29_8 (hC : OKC h) (f : Nat → gM α) : mb (gGetR [5] 29 8) f (cK rho h) = f 35 (cK rho h) := hC.gt (by omega) rfl rfl rfl f
theorem OKC.g29_9 (hC : OKC h) (f : Nat → gM α) : mb (gGetR [5] 29 9) f (cK rho h) = f 36 (cK rho h) := hC.gt (by omega) rfl rfl rfl f
theorem OKC.g29_10 (hC : OKC h) (f : Nat → gM α) : mb (gGetR [5] 29 10) f (cK rho h) = f 37 (cK rho h) := hC.gt (by omega) rfl rfl rfl f
theorem OKC.s29_0 (hC : OKC h) (f : Int32 → gM α) : mb (gGetI [5] 29 0) f (cK rho h) = f (iI (rho 29 0)) (cK rho h) := hC.sc 0 (by omega) rfl rfl f
theorem OKC.p29_0 (hC : OKC h) {v : Int} (f : Unit → gM α) : mb (gPutI [5] 29 0 (iI v)) f (cK rho h) = f () (cK (s3 rho 29 0 v) h) := hC.ps 0 v (by omega) rfl rfl f
theorem OKC.s29_1 (hC : OKC h) (f : Int32 → gM α) : mb (gGetI [5] 29 1) f (cK rho h) = f (iI (rho 29 1)) (cK rho h) := hC.sc 1 (by omega) rfl rfl f
theorem OKC.p29_1 (hC : OKC h) {v : Int} (f : Unit → gM α) : mb (gPutI [5] 29 1 (iI v)) f (cK rho h) = f () (cK (s3 rho 29 1 v) h) := hC.ps 1 v (by omega) rfl rfl f
theorem OKC.s29_2 (hC : OKC h) (f : Int32 → gM α) : mb (gGetI [5] 29 2) f (cK rho h) = f (iI (rho 29 2)) (cK rho h) := hC.sc 2 (by omega) rfl rfl f
theorem OKC.p29_2 (hC : OKC h) {v : Int} (f : Unit → gM α) : mb (gPutI [5] 29 2 (iI v)) f (cK rho h) = f () (cK (s3 rho 29 2 v) h) := hC.ps 2 v (by omega) rfl rfl f
theorem OKC.s29_11 (hC : OKC h) (f : Int32 → gM α) : mb (gGetI [5] 29 11) f (cK rho h) = f (iI (rho 29 11)) (cK rho h) := hC.sc 11 (by omega) rfl rfl f
theorem OKC.p29_11 (hC : OKC h) {v : Int} (f : Unit → gM α) : mb (gPutI [5] 29 11 (iI v)) f (cK rho h) = f () (cK (s3 rho 29 11 v) h) := hC.ps 11 v (by omega) rfl rfl f
theorem OKC.s29_12 (hC : OKC h) (f : Int32 → gM α) : mb (gGetI [5] 29 12) f (cK rho h) = f (iI (rho 29 12)) (cK rho h) := hC.sc 12 (by omega) rfl rfl f
theorem OKC.p29_12 (hC : OKC h) {v : Int} (f : Unit → gM α) : mb (gPutI [5] 29 12 (iI v)) f (cK rho h) = f () (cK (s3 rho 29 12 v) h) := hC.ps 12 v (by omega) rfl rfl f
theorem OKC.m38 (hC : OKC h) (g : gM α) (f : α → gM β) : mb (mv [6] 38 g) f (cK rho h) = mb g f (cK rho h) := by
  unfold mb
  rw [hC.vw (a := 38) (by omega) rfl rfl]
theorem OKC.g38_0 (hC : OKC h) (f : Nat → gM α) : mb (gGetR [6] 38 0) f (cK rho h) = f 39 (cK rho h) := hC.gt (by omega) rfl rfl rfl f
theorem OKC.s38_1 (hC : OKC h) (f : Int32 → gM α) : mb (gGetI [6] 38 1) f (cK rho h) = f (iI (rho 38 1)) (cK rho h) := hC.sc 1 (by omega) rfl rfl f
theorem OKC.p38_1 (hC : OKC h) {v : Int} (f : Unit → gM α) : mb (gPutI [6] 38 1 (iI v)) f (cK rho h) = f () (cK (s3 rho 38 1 v) h) := hC.ps 1 v (by omega) rfl rfl f
theorem OKC.m40 (hC : OKC h) (g : gM α) (f : α → gM β) : mb (mv [8] 40 g) f (cK rho h) = mb g f (cK rho h) := by
  unfold mb
  rw [hC.vw (a := 40) (by omega) rfl rfl]
theorem OKC.g40_0 (hC : OKC h) (f : Nat → gM α) : mb (gGetR [8] 40 0) f (cK rho h) = f 41 (cK rho h) := hC.gt (by omega) rfl rfl rfl f
theorem OKC.s40_1 (hC : OKC h) (f : Int32 → gM α) : mb (gGetI [8] 40 1) f (cK rho h) = f (iI (rho 40 1)) (cK rho h) := hC.sc 1 (by omega) rfl rfl f
theorem OKC.p40_1 (hC : OKC h) {v : Int} (f : Unit → gM α) : mb (gPutI [8] 40 1 (iI v)) f (cK rho h) = f () (cK (s3 rho 40 1 v) h) := hC.ps 1 v (by omega) rfl rfl f
theorem OKC.s40_2 (hC : OKC h) (f : Int32 → gM α) : mb (gGetI [8] 40 2) f (cK rho h) = f (iI (rho 40 2)) (cK rho h) := hC.sc 2 (by omega) rfl rfl f
theorem OKC.p40_2 (hC : OKC h) {v : Int} (f : Unit → gM α) : mb (gPutI [8] 40 2 (iI v)) f (cK rho h) = f () (cK (s3 rho 40 2 v) h) := hC.ps 2 v (by omega) rfl rfl f
theorem OKC.l2 (hC : OKC h) {j : Int} (h0 : 0 ≤ j) (h1 : j < 8) (f : Int32 → gM α) : mb (gLdI 100 2 (iI j)) f (cK rho h) = f (iI (rho 2 j)) (cK rho h) := hC.ld (n := 8) (by omega) rfl h0 h1 (by omega) f
theorem OKC.w2 (hC : OKC h) {j v : Int} (h0 : 0 ≤ j) (h1 : j < 8) (f : Unit → gM α) : mb (gStI 100 2 (iI j) (iI v)) f (cK rho h) = f () (cK (s3 rho 2 j v) h) := hC.st (n := 8) (by omega) rfl h0 h1 (by omega) f
theorem OKC.l3 (hC : OKC h) {j : Int} (h0 : 0 ≤ j) (h1 : j < 8) (f : Int32 → gM α) : mb (gLdI 100 3 (iI j)) f (cK rho h) = f (iI (rho 3 j)) (cK rho h) := hC.ld (n := 8) (by omega) rfl h0 h1 (by omega) f
theorem OKC.w3 (hC : OKC h) {j v : Int} (h0 : 0 ≤ j) (h1 : j < 8) (f : Unit → gM α) : mb (gStI 100 3 (iI j) (iI v)) f (cK rho h) = f () (cK (s3 rho 3 j v) h) := hC.st (n := 8) (by omega) rfl h0 h1 (by omega) f
theorem OKC.l8 (hC : OKC h) {j : Int} (h0 : 0 ≤ j) (h1 : j < 16) (f : Int32 → gM α) : mb (gLdI 100 8 (iI j)) f (cK rho h) = f (iI (rho 8 j)) (cK rho h) := hC.ld (n := 16) (by omega) rfl h0 h1 (by omega) f
theorem OKC.w8 (hC : OKC h) {j v : Int} (h0 : 0 ≤ j) (h1 : j < 16) (f : Unit → gM α) : mb (gStI 100 8 (iI j) (iI v)) f (cK rho h) = f () (cK (s3 rho 8 j v) h) := hC.st (n := 16) (by omega) rfl h0 h1 (by omega) f
theorem OKC.l9 (hC : OKC h) {j : Int} (h0 : 0 ≤ j) (h1 : j < 12) (f : Int32 → gM α) : mb (gLdI 100 9 (iI j)) f (cK rho h) = f (iI (rho 9 j)) (cK rho h) := hC.ld (n := 12) (by omega) rfl h0 h1 (by omega) f
theorem OKC.w9 (hC : OKC h) {j v : Int} (h0 : 0 ≤ j) (h1 : j < 12) (f : Unit → gM α) : mb (gStI 100 9 (iI j) (iI v)) f (cK rho h) = f () (cK (s3 rho 9 j v) h) := hC.st (n := 12) (by omega) rfl h0 h1 (by omega) f
theorem OKC.l10 (hC : OKC h) {j : Int} (h0 : 0 ≤ j) (h1 : j < 12) (f : Int32 → gM α) : mb (gLdI 100 10 (iI j)) f (cK rho h) = f (iI (rho 10 j)) (cK rho h) := hC.ld (n := 12) (by omega) rfl h0 h1 (by omega) f
theorem OKC.w10 (hC : OKC h) {j v : Int} (h0 : 0 ≤ j) (h1 : j < 12) (f : Unit → gM α) : mb (gStI 100 10 (iI j) (iI v)) f (cK rho h) = f () (cK (s3 rho 10 j v) h) := hC.st (n := 12) (by omega) rfl h0 h1 (by omega) f
theorem OKC.l11 (hC : OKC h) {j : Int} (h0 : 0 ≤ j) (h1 : j < 12) (f : Int32 → gM α) : mb (gLdI 100 11 (iI j)) f (cK rho h) = f (iI (rho 11 j)) (cK rho h) := hC.ld (n := 12) (by omega) rfl h0 h1 (by omega) f
theorem OKC.w11 (hC : OKC h) {j v : Int} (h0 : 0 ≤ j) (h1 : j < 12) (f : Unit → gM α) : mb (gStI 100 11 (iI j) (iI v)) f (cK rho h) = f () (cK (s3 rho 11 j v) h) := hC.st (n := 12) (by omega) rfl h0 h1 (by omega) f
theorem OKC.l12 (hC : OKC h) {j : Int} (h0 : 0 ≤ j) (h1 : j < 9) (f : Int32 → gM α) : mb (gLdI 100 12 (iI j)) f (cK rho h) = f (iI (rho 12 j)) (cK rho h) := hC.ld (n := 9) (by omega) rfl h0 h1 (by omega) f
theorem OKC.w12 (hC : OKC h) {j v : Int} (h0 : 0 ≤ j) (h1 : j < 9) (f : Unit → gM α) : mb (gStI 100 12 (iI j) (iI v)) f (cK rho h) = f () (cK (s3 rho 12 j v) h) := hC.st (n := 9) (by omega) rfl h0 h1 (by omega) f
theorem OKC.l14 (hC : OKC h) {j : Int} (h0 : 0 ≤ j) (h1 : j < 48) (f : Int32 → gM α) : mb (gLdI 100 14 (iI j)) f (cK rho h) = f (iI (rho 14 j)) (cK rho h) := hC.ld (n := 48) (by omega) rfl h0 h1 (by omega) f
theorem OKC.w14 (hC : OKC h) {j v : Int} (h0 : 0 ≤ j) (h1 : j < 48) (f : Unit → gM α) : mb (gStI 100 14 (iI j) (iI v)) f (cK rho h) = f () (cK (s3 rho 14 j v) h) := hC.st (n := 48) (by omega) rfl h0 h1 (by omega) f
theorem OKC.l16 (hC : OKC h) {j : Int} (h0 : 0 ≤ j) (h1 : j < 8) (f : Int32 → gM α) : mb (gLdI 100 16 (iI j)) f (cK rho h) = f (iI (rho 16 j)) (cK rho h) := hC.ld (n := 8) (by omega) rfl h0 h1 (by omega) f
theorem OKC.w16 (hC : OKC h) {j v : Int} (h0 : 0 ≤ j) (h1 : j < 8) (f : Unit → gM α) : mb (gStI 100 16 (iI j) (iI v)) f (cK rho h) = f () (cK (s3 rho 16 j v) h) := hC.st (n := 8) (by omega) rfl h0 h1 (by omega) f
theorem OKC.l17 (hC : OKC h) {j : Int} (h0 : 0 ≤ j) (h1 : j < 8) (f : Int32 → gM α) : mb (gLdI 100 17 (iI j)) f (cK rho h) = f (iI (rho 17 j)) (cK rho h) := hC.ld (n := 8) (by omega) rfl h0 h1 (by omega) f
theorem OKC.w17 (hC : OKC h) {j v : Int} (h0 : 0 ≤ j) (h1 : j < 8) (f : Unit → gM α) : mb (gStI 100 17 (iI j) (iI v)) f (cK rho h) = f () (cK (s3 rho 17 j v) h) := hC.st (n := 8) (by omega) rfl h0 h1 (by omega) f
theorem OKC.l22 (hC : OKC h) {j : Int} (h0 : 0 ≤ j) (h1 : j < 16) (f : Int32 → gM α) : mb (gLdI 100 22 (iI j)) f (cK rho h) = f (iI (rho 22 j)) (cK rho h) := hC.ld (n := 16) (by omega) rfl h0 h1 (by omega) f
theorem OKC.w22 (hC : OKC h) {j v : Int} (h0 : 0 ≤ j) (h1 : j < 16) (f : Unit → gM α) : mb (gStI 100 22 (iI j) (iI v)) f (cK rho h) = f () (cK (s3 rho 22 j v) h) := hC.st (n := 16) (by omega) rfl h0 h1 (by omega) f
theorem OKC.l23 (hC : OKC h) {j : Int} (h0 : 0 ≤ j) (h1 : j < 12) (f : Int32 → gM α) : mb (gLdI 100 23 (iI j)) f (cK rho h) = f (iI (rho 23 j)) (cK rho h) := hC.ld (n := 12) (by omega) rfl h0 h1 (by omega) f
theorem OKC.w23 (hC : OKC h) {j v : Int} (h0 : 0 ≤ j) (h1 : j < 12) (f : Unit → gM α) : mb (gStI 100 23 (iI j) (iI v)) f (cK rho h) = f () (cK (s3 rho 23 j v) h) := hC.st (n := 12) (by omega) rfl h0 h1 (by omega) f
theorem OKC.l24 (hC : OKC h) {j : Int} (h0 : 0 ≤ j) (h1 : j < 12) (f : Int32 → gM α) : mb (gLdI 100 24 (iI j)) f (cK rho h) = f (iI (rho 24 j)) (cK rho h) := hC.ld (n := 12) (by omega) rfl h0 h1 (by omega) f
theorem OKC.w24 (hC : OKC h) {j v : Int} (h0 : 0 ≤ j) (h1 : j < 12) (f : Unit → gM α) : mb (gStI 100 24 (iI j) (iI v)) f (cK rho h) = f () (cK (s3 rho 24 j v) h) := hC.st (n := 12) (by omega) rfl h0 h1 (by omega) f
theorem OKC.l25 (hC : OKC h) {j : Int} (h0 : 0 ≤ j) (h1 : j < 12) (f : Int32 → gM α) : mb (gLdI 100 25 (iI j)) f (cK rho h) = f (iI (rho 25 j)) (cK rho h) := hC.ld (n := 12) (by omega) rfl h0 h1 (by omega) f
theorem OKC.w25 (hC : OKC h) {j v : Int} (h0 : 0 ≤ j) (h1 : j < 12) (f : Unit → gM α) : mb (gStI 100 25 (iI j) (iI v)) f (cK rho h) = f () (cK (s3 rho 25 j v) h) := hC.st (n := 12) (by omega) rfl h0 h1 (by omega) f
theorem OKC.l26 (hC : OKC h) {j : Int} (h0 : 0 ≤ j) (h1 : j < 9) (f : Int32 → gM α) : mb (gLdI 100 26 (iI j)) f (cK rho h) = f (iI (rho 26 j)) (cK rho h) := hC.ld (n := 9) (by omega) rfl h0 h1 (by omega) f
theorem OKC.w26 (hC : OKC h) {j v : Int} (h0 : 0 ≤ j) (h1 : j < 9) (f : Unit → gM α) : mb (gStI 100 26 (iI j) (iI v)) f (cK rho h) = f () (cK (s3 rho 26 j v) h) := hC.st (n := 9) (by omega) rfl h0 h1 (by omega) f
theorem OKC.l28 (hC : OKC h) {j : Int} (h0 : 0 ≤ j) (h1 : j < 48) (f : Int32 → gM α) : mb (gLdI 100 28 (iI j)) f (cK rho h) = f (iI (rho 28 j)) (cK rho h) := hC.ld (n := 48) (by omega) rfl h0 h1 (by omega) f
theorem OKC.w28 (hC : OKC h) {j v : Int} (h0 : 0 ≤ j) (h1 : j < 48) (f : Unit → gM α) : mb (gStI 100 28 (iI j) (iI v)) f (cK rho h) = f () (cK (s3 rho 28 j v) h) := hC.st (n := 48) (by omega) rfl h0 h1 (by omega) f
theorem OKC.l30 (hC : OKC h) {j : Int} (h0 : 0 ≤ j) (h1 : j < 12) (f : Int32 → gM α) : mb (gLdI 100 30 (iI j)) f (cK rho h) = f (iI (rho 30 j)) (cK rho h) := hC.ld (n := 12) (by omega) rfl h0 h1 (by omega) f
theorem OKC.w30 (hC : OKC h) {j v : Int} (h0 : 0 ≤ j) (h1 : j < 12) (f : Unit → gM α) : mb (gStI 100 30 (iI j) (iI v)) f (cK rho h) = f () (cK (s3 rho 30 j v) h) := hC.st (n := 12) (by omega) rfl h0 h1 (by omega) f
theorem OKC.l31 (hC : OKC h) {j : Int} (h0 : 0 ≤ j) (h1 : j < 12) (f : Int32 → gM α) : mb (gLdI 100 31 (iI j)) f (cK rho h) = f (iI (rho 31 j)) (cK rho h) := hC.ld (n := 12) (by omega) rfl h0 h1 (by omega) f
theorem OKC.w31 (hC : OKC h) {j v : Int} (h0 : 0 ≤ j) (h1 : j < 12) (f : Unit → gM α) : mb (gStI 100 31 (iI j) (iI v)) f (cK rho h) = f () (cK (s3 rho 31 j v) h) := hC.st (n := 12) (by omega) rfl h0 h1 (by omega) f
theorem OKC.l32 (hC : OKC h) {j : Int} (h0 : 0 ≤ j) (h1 : j < 12) (f : Int32 → gM α) : mb (gLdI 100 32 (iI j)) f (cK rho h) = f (iI (rho 32 j)) (cK rho h) := hC.ld (n := 12) (by omega) rfl h0 h1 (by omega) f
theorem OKC.w32 (hC : OKC h) {j v : Int} (h0 : 0 ≤ j) (h1 : j < 12) (f : Unit → gM α) : mb (gStI 100 32 (iI j) (iI v)) f (cK rho h) = f () (cK (s3 rho 32 j v) h) := hC.st (n := 12) (by omega) rfl h0 h1 (by omega) f
theorem OKC.l33 (hC : OKC h) {j : Int} (h0 : 0 ≤ j) (h1 : j < 250) (f : Int32 → gM α) : mb (gLdI 100 33 (iI j)) f (cK rho h) = f (iI (rho 33 j)) (cK rho h) := hC.ld (n := 250) (by omega) rfl h0 h1 (by omega) f
theorem OKC.w33 (hC : OKC h) {j v : Int} (h0 : 0 ≤ j) (h1 : j < 250) (f : Unit → gM α) : mb (gStI 100 33 (iI j) (iI v)) f (cK rho h) = f () (cK (s3 rho 33 j v) h) := hC.st (n := 250) (by omega) rfl h0 h1 (by omega) f
theorem OKC.l34 (hC : OKC h) {j : Int} (h0 : 0 ≤ j) (h1 : j < 48) (f : Int32 → gM α) : mb (gLdI 100 34 (iI j)) f (cK rho h) = f (iI (rho 34 j)) (cK rho h) := hC.ld (n := 48) (by omega) rfl h0 h1 (by omega) f
theorem OKC.w34 (hC : OKC h) {j v : Int} (h0 : 0 ≤ j) (h1 : j < 48) (f : Unit → gM α) : mb (gStI 100 34 (iI j) (iI v)) f (cK rho h) = f () (cK (s3 rho 34 j v) h) := hC.st (n := 48) (by omega) rfl h0 h1 (by omega) f
theorem OKC.l36 (hC : OKC h) {j : Int} (h0 : 0 ≤ j) (h1 : j < 251) (f : Int32 → gM α) : mb (gLdI 100 36 (iI j)) f (cK rho h) = f (iI (rho 36 j)) (cK rho h) := hC.ld (n := 251) (by omega) rfl h0 h1 (by omega) f
theorem OKC.w36 (hC : OKC h) {j v : Int} (h0 : 0 ≤ j) (h1 : j < 251) (f : Unit → gM α) : mb (gStI 100 36 (iI j) (iI v)) f (cK rho h) = f () (cK (s3 rho 36 j v) h) := hC.st (n := 251) (by omega) rfl h0 h1 (by omega) f
theorem OKC.l37 (hC : OKC h) {j : Int} (h0 : 0 ≤ j) (h1 : j < 251) (f : Int32 → gM α) : mb (gLdI 100 37 (iI j)) f (cK rho h) = f (iI (rho 37 j)) (cK rho h) := hC.ld (n := 251) (by omega) rfl h0 h1 (by omega) f
theorem OKC.w37 (hC : OKC h) {j v : Int} (h0 : 0 ≤ j) (h1 : j < 251) (f : Unit → gM α) : mb (gStI 100 37 (iI j) (iI v)) f (cK rho h) = f () (cK (s3 rho 37 j v) h) := hC.st (n := 251) (by omega) rfl h0 h1 (by omega) f
theorem OKC.l39 (hC : OKC h) {j : Int} (h0 : 0 ≤ j) (h1 : j < 48) (f : Int32 → gM α) : mb (gLdI 100 39 (iI j)) f (cK rho h) = f (iI (rho 39 j)) (cK rho h) := hC.ld (n := 48) (by omega) rfl h0 h1 (by omega) f
theorem OKC.w39 (hC : OKC h) {j v : Int} (h0 : 0 ≤ j) (h1 : j < 48) (f : Unit → gM α) : mb (gStI 100 39 (iI j) (iI v)) f (cK rho h) = f () (cK (s3 rho 39 j v) h) := hC.st (n := 48) (by omega) rfl h0 h1 (by omega) f
theorem OKC.l41 (hC : OKC h) {j : Int} (h0 : 0 ≤ j) (h1 : j < 30) (f : Int32 → gM α) : mb (gLdI 100 41 (iI j)) f (cK rho h) = f (iI (rho 41 j)) (cK rho h) := hC.ld (n := 30) (by omega) rfl h0 h1 (by omega) f
theorem OKC.w41 (hC : OKC h) {j v : Int} (h0 : 0 ≤ j) (h1 : j < 30) (f : Unit → gM α) : mb (gStI 100 41 (iI j) (iI v)) f (cK rho h) = f () (cK (s3 rho 41 j v) h) := hC.st (n := 30) (by omega) rfl h0 h1 (by omega) f
theorem OKC.l43 (hC : OKC h) {j : Int} (h0 : 0 ≤ j) (h1 : j < 40) (f : Int32 → gM α) : mb (gLdI 100 43 (iI j)) f (cK rho h) = f (iI (rho 43 j)) (cK rho h) := hC.ld (n := 40) (by omega) rfl h0 h1 (by omega) f
theorem OKC.w43 (hC : OKC h) {j v : Int} (h0 : 0 ≤ j) (h1 : j < 40) (f : Unit → gM α) : mb (gStI 100 43 (iI j) (iI v)) f (cK rho h) = f () (cK (s3 rho 43 j v) h) := hC.st (n := 40) (by omega) rfl h0 h1 (by omega) f
theorem OKC.l44 (hC : OKC h) {j : Int} (h0 : 0 ≤ j) (h1 : j < 40) (f : Int32 → gM α) : mb (gLdI 100 44 (iI j)) f (cK rho h) = f (iI (rho 44 j)) (cK rho h) := hC.ld (n := 40) (by omega) rfl h0 h1 (by omega) f
theorem OKC.w44 (hC : OKC h) {j v : Int} (h0 : 0 ≤ j) (h1 : j < 40) (f : Unit → gM α) : mb (gStI 100 44 (iI j) (iI v)) f (cK rho h) = f () (cK (s3 rho 44 j v) h) := hC.st (n := 40) (by omega) rfl h0 h1 (by omega) f
theorem OKC.l45 (hC : OKC h) {j : Int} (h0 : 0 ≤ j) (h1 : j < 40) (f : Int32 → gM α) : mb (gLdI 100 45 (iI j)) f (cK rho h) = f (iI (rho 45 j)) (cK rho h) := hC.ld (n := 40) (by omega) rfl h0 h1 (by omega) f
theorem OKC.w45 (hC : OKC h) {j v : Int} (h0 : 0 ≤ j) (h1 : j < 40) (f : Unit → gM α) : mb (gStI 100 45 (iI j) (iI v)) f (cK rho h) = f () (cK (s3 rho 45 j v) h) := hC.st (n := 40) (by omega) rfl h0 h1 (by omega) f
theorem OKC.l46 (hC : OKC h) {j : Int} (h0 : 0 ≤ j) (h1 : j < 40) (f : Int32 → gM α) : mb (gLdI 100 46 (iI j)) f (cK rho h) = f (iI (rho 46 j)) (cK rho h) := hC.ld (n := 40) (by omega) rfl h0 h1 (by omega) f
theorem OKC.w46 (hC : OKC h) {j v : Int} (h0 : 0 ≤ j) (h1 : j < 40) (f : Unit → gM α) : mb (gStI 100 46 (iI j) (iI v)) f (cK rho h) = f () (cK (s3 rho 46 j v) h) := hC.st (n := 40) (by omega) rfl h0 h1 (by omega) f
theorem OKC.l47 (hC : OKC h) {j : Int} (h0 : 0 ≤ j) (h1 : j < 4) (f : Int32 → gM α) : mb (gLdI 100 47 (iI j)) f (cK rho h) = f (iI (rho 47 j)) (cK rho h) := hC.ld (n := 4) (by omega) rfl h0 h1 (by omega) f
theorem OKC.w47 (hC : OKC h) {j v : Int} (h0 : 0 ≤ j) (h1 : j < 4) (f : Unit → gM α) : mb (gStI 100 47 (iI j) (iI v)) f (cK rho h) = f () (cK (s3 rho 47 j v) h) := hC.st (n := 4) (by omega) rfl h0 h1 (by omega) f
theorem OKC.l48 (hC : OKC h) {j : Int} (h0 : 0 ≤ j) (h1 : j < 4) (f : Int32 → gM α) : mb (gLdI 100 48 (iI j)) f (cK rho h) = f (iI (rho 48 j)) (cK rho h) := hC.ld (n := 4) (by omega) rfl h0 h1 (by omega) f
theorem OKC.w48 (hC : OKC h) {j v : Int} (h0 : 0 ≤ j) (h1 : j < 4) (f : Unit → gM α) : mb (gStI 100 48 (iI j) (iI v)) f (cK rho h) = f () (cK (s3 rho 48 j v) h) := hC.st (n := 4) (by omega) rfl h0 h1 (by omega) f
theorem OKC.l49 (hC : OKC h) {j : Int} (h0 : 0 ≤ j) (h1 : j < 4) (f : Int32 → gM α) : mb (gLdI 100 49 (iI j)) f (cK rho h) = f (iI (rho 49 j)) (cK rho h) := hC.ld (n := 4) (by omega) rfl h0 h1 (by omega) f
theorem OKC.w49 (hC : OKC h) {j v : Int} (h0 : 0 ≤ j) (h1 : j < 4) (f : Unit → gM α) : mb (gStI 100 49 (iI j) (iI v)) f (cK rho h) = f () (cK (s3 rho 49 j v) h) := hC.st (n := 4) (by omega) rfl h0 h1 (by omega) f
theorem OKC.l50 (hC : OKC h) {j : Int} (h0 : 0 ≤ j) (h1 : j < 4) (f : Int32 → gM α) : mb (gLdI 100 50 (iI j)) f (cK rho h) = f (iI (rho 50 j)) (cK rho h) := hC.ld (n := 4) (by omega) rfl h0 h1 (by omega) f
theorem OKC.w50 (hC : OKC h) {j v : Int} (h0 : 0 ≤ j) (h1 : j < 4) (f : Unit → gM α) : mb (gStI 100 50 (iI j) (iI v)) f (cK rho h) = f () (cK (s3 rho 50 j v) h) := hC.st (n := 4) (by omega) rfl h0 h1 (by omega) f
theorem OKC.l51 (hC : OKC h) {j : Int} (h0 : 0 ≤ j) (h1 : j < 4) (f : Int32 → gM α) : mb (gLdI 100 51 (iI j)) f (cK rho h) = f (iI (rho 51 j)) (cK rho h) := hC.ld (n := 4) (by omega) rfl h0 h1 (by omega) f
theorem OKC.w51 (hC : OKC h) {j v : Int} (h0 : 0 ≤ j) (h1 : j < 4) (f : Unit → gM α) : mb (gStI 100 51 (iI j) (iI v)) f (cK rho h) = f () (cK (s3 rho 51 j v) h) := hC.st (n := 4) (by omega) rfl h0 h1 (by omega) f
theorem OKC.l52 (hC : OKC h) {j : Int} (h0 : 0 ≤ j) (h1 : j < 4) (f : Int32 → gM α) : mb (gLdI 100 52 (iI j)) f (cK rho h) = f (iI (rho 52 j)) (cK rho h) := hC.ld (n := 4) (by omega) rfl h0 h1 (by omega) f
theorem OKC.w52 (hC : OKC h) {j v : Int} (h0 : 0 ≤ j) (h1 : j < 4) (f : Unit → gM α) : mb (gStI 100 52 (iI j) (iI v)) f (cK rho h) = f () (cK (s3 rho 52 j v) h) := hC.st (n := 4) (by omega) rfl h0 h1 (by omega) f
theorem OKC.l53 (hC : OKC h) {j : Int} (h0 : 0 ≤ j) (h1 : j < 16) (f : Int32 → gM α) : mb (gLdI 100 53 (iI j)) f (cK rho h) = f (iI (rho 53 j)) (cK rho h) := hC.ld (n := 16) (by omega) rfl h0 h1 (by omega) f
theorem OKC.w53 (hC : OKC h) {j v : Int} (h0 : 0 ≤ j) (h1 : j < 16) (f : Unit → gM α) : mb (gStI 100 53 (iI j) (iI v)) f (cK rho h) = f () (cK (s3 rho 53 j v) h) := hC.st (n := 16) (by omega) rfl h0 h1 (by omega) f
theorem OKC.l54 (hC : OKC h) {j : Int} (h0 : 0 ≤ j) (h1 : j < 512) (f : Int32 → gM α) : mb (gLdI 100 54 (iI j)) f (cK rho h) = f (iI (rho 54 j)) (cK rho h) := hC.ld (n := 512) (by omega) rfl h0 h1 (by omega) f
theorem OKC.w54 (hC : OKC h) {j v : Int} (h0 : 0 ≤ j) (h1 : j < 512) (f : Unit → gM α) : mb (gStI 100 54 (iI j) (iI v)) f (cK rho h) = f () (cK (s3 rho 54 j v) h) := hC.st (n := 512) (by omega) rfl h0 h1 (by omega) f
theorem OKC.l35 (hC : OKC h) {j : Int} (h0 : 0 ≤ j) (h1 : j < 250) (f : Int32 → gM α) : mb (gLdI 101 35 (iI j)) f (cK rho h) = f (iI (rho 35 j)) (cK rho h) := hC.ld (n := 250) (by omega) rfl h0 h1 (by omega) f
theorem OKC.n33 (hC : OKC h) (f : Int32 → gM α) : mb (mv [100] 33 (gLen 33)) f (cK rho h) = f (iI 250) (cK rho h) := by
  have e : mb (mv [100] 33 (gLen 33)) f (cK rho h) = mb (gLen 33) f (cK rho h) := by
    unfold mb
    rw [hC.vw (a := 33) (by omega) rfl rfl]
  rw [e]
  exact hC.ln (n := 250) (by omega) rfl (by omega) f
theorem OKC.n36 (hC : OKC h) (f : Int32 → gM α) : mb (mv [100] 36 (gLen 36)) f (cK rho h) = f (iI 251) (cK rho h) := by
  have e : mb (mv [100] 36 (gLen 36)) f (cK rho h) = mb (gLen 36) f (cK rho h) := by
    unfold mb
    rw [hC.vw (a := 36) (by omega) rfl rfl]
  rw [e]
  exact hC.ln (n := 251) (by omega) rfl (by omega) f
end RCS

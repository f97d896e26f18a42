/-! ===== the class's docket at X holds the reference's numbers sg ===== -/
/-- where the row a holds its i-th place -/
def dpt (P : Nat → Nat → Option Nat) (a : Nat) (i : Int) : Nat := (P a i.toNat).getD 0
def isDeedO (sg : Nat → Int → Int) (h : gH) (p : Nat) (i : Int) : Prop := 84 ≤ p ∧ h.1[p]? = some (if sAge sg i < 18 then 9 else 0, 5) ∧ h.2.1 p 0 = iI i ∧ h.2.1 p 1 = iI (sg 3 (3 * i + 1)) ∧ h.2.1 p 2 = iI (sg 3 (3 * i)) ∧ h.2.1 p 3 = iI (sg 3 (3 * i + 2)) ∧ h.2.1 p 4 = iI (sAge sg i)
def isFindO (sg : Nat → Int → Int) (h : gH) (X p : Nat) (i : Int) : Prop := 84 ≤ p ∧ h.1[p]? = some (3, 5) ∧ h.2.1 p 0 = iI i ∧ h.2.1 p 1 = iI (sg 4 (4 * i + 1)) ∧ h.2.2 p 2 = some (dpt h.2.2 (X + 3) (sg 4 (4 * i))) ∧ h.2.1 p 3 = iI (sg 4 (4 * i + 2)) ∧ h.2.1 p 4 = iI (sg 4 (4 * i + 3))
def isTermO (sg : Nat → Int → Int) (h : gH) (X p : Nat) (i : Int) : Prop := 84 ≤ p ∧ h.1[p]? = some (if sg 8 (7 * i + 4) = 1 then 2 else 7, 6) ∧ h.2.1 p 0 = iI i ∧ h.2.1 p 1 = iI (sg 8 (7 * i + 2)) ∧ h.2.2 p 2 = some (dpt h.2.2 (X + 3) (sg 8 (7 * i))) ∧ h.2.1 p 3 = iI (sg 8 (7 * i + 1)) ∧ h.2.1 p 4 = iI (sg 8 (7 * i + 3)) ∧ h.2.1 p 5 = iI (sg 8 (7 * i + 5))
/-- what a code of the class is as a sign of the reference -/
def ct (c : Int) : Int := if c < 1000 then 1000 + c else if c ≤ 1003 then c - 999 else if c = 1004 then 5 else if c = 1005 then 6 else if c = 1006 then 12 else if c = 1007 then 13 else if c = 1008 then 11 else if c = 2000 then 14 else if c = 2001 then 15 else if c = 2002 then 16 else if c = 2003 then 17 else if c = 2004 then 7 else if c = 2005 then 8 else 9
/-- a code of a condition -/
def okCode (c : Int) : Prop := (0 ≤ c ∧ c ≤ 1008) ∨ (2000 ≤ c ∧ c ≤ 2006)
def lawSt (sg : Nat → Int → Int) (v l : Int) : Int := if sLine sg v l 0 = 4 then sLine sg v l 1 else if sLine sg v l 0 = 5 then - sLine sg v l 1 else 0
def isLawO (sg : Nat → Int → Int) (h : gH) (p : Nat) (v : Int) : Prop :=
  (84 ≤ p ∧ h.1[p]? = some (4, 14) ∧ h.2.1 p 0 = iI v ∧ h.2.1 p 1 = iI (sg 5 (2 * v)) ∧ h.2.1 p 2 = iI (sg 5 (2 * v + 1)) ∧ h.2.1 p 3 = iI (b2 (sBack sg v)) ∧ h.2.1 p 7 = iI (sOld sg v)) ∧
  (h.2.2 p 5 = some (p + 1) ∧ h.2.2 p 6 = some (p + 2) ∧ h.2.2 p 8 = some (p + 3) ∧ h.2.2 p 13 = some (p + 4) ∧ h.2.2 p 4 = some (p + 5) ∧ h.2.2 p 10 = some (p + 6) ∧ h.2.2 p 11 = some (p + 7) ∧ h.2.2 p 12 = some (p + 8) ∧ h.2.2 p 9 = some (p + 9)) ∧
  (h.1[p + 1]? = some (100, 6) ∧ h.1[p + 2]? = some (100, 6) ∧ h.1[p + 3]? = some (100, 20) ∧ h.1[p + 4]? = some (100, 16)) ∧
  (∀ i : Int, 0 ≤ i → i < 6 → h.2.1 (p + 1) i.toNat = iI (sTold sg v 0 i) ∧ h.2.1 (p + 2) i.toNat = iI (sTold sg v 1 i)) ∧
  (∀ g o : Int, 0 ≤ g → g ≤ 4 → 0 ≤ o → o ≤ 3 → h.2.1 (p + 3) (g * 4 + o).toNat = iI (orN (sRange sg v g o))) ∧
  (∃ nc : Nat, nc ≤ 250 ∧ (∀ i, i = 5 ∨ i = 6 ∨ i = 7 ∨ i = 9 → h.1[p + i]? = some (100, (sg 5 (2 * v)).toNat)) ∧ h.1[p + 8]? = some (100, nc) ∧
    ∃ cs ce cc : Int → Int, (∀ l : Int, 0 ≤ l → l < sg 5 (2 * v) → h.2.1 (p + 5) l.toNat = iI (sLine sg v l 0) ∧ h.2.1 (p + 6) l.toNat = iI (cs l) ∧ h.2.1 (p + 7) l.toNat = iI (ce l) ∧ h.2.1 (p + 9) l.toNat = iI (lawSt sg v l) ∧
        (4 ≤ sLine sg v l 0 → sLine sg v l 0 ≤ 6 → 0 ≤ cs l ∧ cs l ≤ ce l ∧ ce l ≤ nc ∧ (∀ j, cs l ≤ j → j < ce l → okCode (cc j)) ∧ ∀ e, EnvOK e → xMs e ((rowL cc (ce l - cs l).toNat (cs l)).map ct) [] = xMs e (sSigns sg v l) [])) ∧
      ∀ j : Int, 0 ≤ j → j < nc → h.2.1 (p + 8) j.toNat = iI (cc j))
def RDs (X : Nat) (sg rho : Nat → Int → Int) (h : gH) : Prop :=
  (rho X 0 = sg 1 0 ∧ rho X 1 = sg 1 1 ∧ rho X 4 = sg 1 2 ∧ rho X 6 = sg 1 3 ∧ rho X 8 = sg 1 4 ∧ rho X 10 = sg 1 5 ∧ rho X 13 = sg 1 6) ∧
  (∀ i, 0 ≤ i → i < sg 1 1 → rho (X + 1) i = sg 2 (2 * i) ∧ rho (X + 2) i = sg 2 (2 * i + 1)) ∧
  (∀ i, 0 ≤ i → i < sg 1 2 → ∃ p, h.2.2 (X + 3) i.toNat = some p ∧ isDeedO sg h p i) ∧
  (∀ i, 0 ≤ i → i < sg 1 3 → ∃ p, h.2.2 (X + 4) i.toNat = some p ∧ isFindO sg h X p i) ∧
  (∀ i, 0 ≤ i → i < sg 1 4 → ∃ p, h.2.2 (X + 5) i.toNat = some p ∧ isLawO sg h p i) ∧
  (∀ i, 0 ≤ i → i < sg 1 5 → ∃ p, h.2.2 (X + 6) i.toNat = some p ∧ isTermO sg h X p i) ∧
  (∀ i, 0 ≤ i → i < sg 1 5 → rho (X + 7) i = if sg 8 (7 * i + 6) = 100000 then 10000 else sg 8 (7 * i + 6)) ∧
  (∀ i, 0 ≤ i → i < sg 1 6 → rho (X + 8) i = sg 9 (3 * i) ∧ rho (X + 9) i = sg 9 (3 * i + 1) ∧ rho (X + 10) i = sg 9 (3 * i + 2))
/-- each law has its rows behind it -/
def LB (h : gH) : Prop := ∀ p n, h.1[p]? = some (4, n) → ∀ i, 1 ≤ i → i ≤ 9 → ∃ m, h.1[p + i]? = some (100, m)
/-- the class's scratch: view, times, drawn months, sums -/
def cS (rho rho' : Nat → Int → Int) : Prop := ∀ q j, q ≠ 12 → q ≠ 13 → q ≠ 14 → q ≠ 53 → (q ≠ 54 ∨ j = 0 ∨ j = 256) → rho' q j = rho q j
/-- the laws' stacks -/
def hS (h h' : gH) : Prop := h'.1 = h.1 ∧ h'.2.2 = h.2.2 ∧ ∀ q, (∀ p n, q = p + 4 → h.1[p]? ≠ some (4, n)) → h'.2.1 q = h.2.1 q
def CS (rho : Nat → Int → Int) (h s : gH) : Prop := ∃ rho' h', cS rho rho' ∧ hS h h' ∧ okG rho' ∧ s = cK rho' h'
theorem cS.rf (rho : Nat → Int → Int) : cS rho rho := fun _ _ _ _ _ _ _ => rfl
theorem hS.rf (h : gH) : hS h h := ⟨rfl, rfl, fun _ _ => rfl⟩
theorem cS.tr {a b c : Nat → Int → Int} (h : cS a b) (k : cS b c) : cS a c := fun q j h1 h2 h3 h4 h5 => (k q j h1 h2 h3 h4 h5).trans (h q j h1 h2 h3 h4 h5)
theorem hS.tr {a b c : gH} (h : hS a b) (k : hS b c) : hS a c := ⟨k.1.trans h.1, k.2.1.trans h.2.1, fun q hq => (k.2.2 q (fun p n e => by rw [h.1]; exact hq p n e)).trans (h.2.2 q hq)⟩
theorem CS.self {rho : Nat → Int → Int} {h : gH} (hg : okG rho) : CS rho h (cK rho h) := ⟨rho, h, cS.rf _, hS.rf _, hg, rfl⟩
theorem OKC.hs {h h' : gH} (hC : OKC h) (k : hS h h') : OKC h' := ⟨fun a ha => by rw [k.1]; exact hC.1 a ha, fun a x t hp => by rw [k.2.1]; exact hC.2 a x t hp⟩
theorem LB.hs {h h' : gH} (hL : LB h) (k : hS h h') : LB h' := fun p n hp i h1 h2 => by
  rw [k.1] at hp ⊢
  exact hL p n hp i h1 h2
/-- no stack: a cell of another kind, or a law's other rows -/
theorem hS.kind {h h' : gH} (k : hS h h') (hL : LB h) {q t n : Nat} (hq : h.1[q]? = some (t, n)) (ht : t ≠ 100) : h'.2.1 q = h.2.1 q := k.2.2 q fun p n' e hp => by
  obtain ⟨m, hm⟩ := hL p n' hp 4 (by omega) (by omega)
  rw [← e, hq] at hm
  exact ht (by injection hm with hm; exact (Prod.mk.inj hm).1)
theorem hS.row {h h' : gH} (k : hS h h') (hL : LB h) {p n i : Nat} (hp : h.1[p]? = some (4, n)) (h1 : 1 ≤ i) (h2 : i ≤ 9) (h4 : i ≠ 4) : h'.2.1 (p + i) = h.2.1 (p + i) := k.2.2 _ fun p' n' e hp' => by
  by_cases c : i < 4
  · obtain ⟨m, hm⟩ := hL p' n' hp' (4 - i) (by omega) (by omega)
    have e2 : p' + (4 - i) = p := by omega
    rw [e2, hp] at hm
    cases hm
  · obtain ⟨m, hm⟩ := hL p n hp (i - 4) (by omega) (by omega)
    have e2 : p + (i - 4) = p' := by omega
    rw [e2, hp'] at hm
    cases hm
theorem isLawO.hs {sg : Nat → Int → Int} {h h' : gH} (k : hS h h') (hL : LB h) {p : Nat} {v : Int} (H : isLawO sg h p v) : isLawO sg h' p v := by
  obtain ⟨⟨a1, a2, a3⟩, b, c, d, e, nc, f1, f2, f3, cs, ce, cc, f4, f5⟩ := H
  have ep := k.kind hL a2 (by omega)
  have er := fun i h1 h2 h4 => k.row hL a2 (i := i) h1 h2 h4
  unfold isLawO
  rw [k.1, k.2.1, ep, er 1 (by omega) (by omega) (by omega), er 2 (by omega) (by omega) (by omega), er 3 (by omega) (by omega) (by omega), er 5 (by omega) (by omega) (by omega), er 6 (by omega) (by omega) (by omega), er 7 (by omega) (by omega) (by omega), er 8 (by omega) (by omega) (by omega), er 9 (by omega) (by omega) (by omega)]
  exact ⟨⟨a1, a2, a3⟩, b, c, d, e, nc, f1, f2, f3, cs, ce, cc, f4, f5⟩
/-- the relation outlasts scratch -/
theorem RDs.hs {X : Nat} {sg rho rho' : Nat → Int → Int} {h h' : gH} (hX : X = 1 ∨ X = 15) (H : RDs X sg rho h) (hL : LB h) (k1 : cS rho rho') (k : hS h h') : RDs X sg rho' h' := by
  obtain ⟨a, b, c, d, e, f, g, i⟩ := H
  have er : ∀ q j, q = X ∨ q = X + 1 ∨ q = X + 2 ∨ q = X + 7 ∨ q = X + 8 ∨ q = X + 9 ∨ q = X + 10 → rho' q j = rho q j := fun q j hq => k1 q j (by omega) (by omega) (by omega) (by omega) (by omega)
  refine ⟨?_, ?_, ?_, ?_, ?_, ?_, ?_, ?_⟩
  · rw [er X 0 (by omega), er X 1 (by omega), er X 4 (by omega), er X 6 (by omega), er X 8 (by omega), er X 10 (by omega), er X 13 (by omega)]
    exact a
  · intro i h0 h1
    rw [er _ i (by omega), er _ i (by omega)]
    exact b i h0 h1
  · intro i h0 h1
    obtain ⟨p, h2, h3⟩ := c i h0 h1
    refine ⟨p, by rw [k.2.1]; exact h2, ?_⟩
    unfold isDeedO at h3 ⊢
    rw [k.1, k.kind hL h3.2.1 (by split <;> omega)]
    exact h3
  · intro i h0 h1
    obtain ⟨p, h2, h3⟩ := d i h0 h1
    refine ⟨p, by rw [k.2.1]; exact h2, ?_⟩
    unfold isFindO at h3 ⊢
    rw [k.1, k.2.1, k.kind hL h3.2.1 (by omega)]
    exact h3
  · intro i h0 h1
    obtain ⟨p, h2, h3⟩ := e i h0 h1
    exact ⟨p, by rw [k.2.1]; exact h2, h3.hs k hL⟩
  · intro i h0 h1
    obtain ⟨p, h2, h3⟩ := f i h0 h1
    refine ⟨p, by rw [k.2.1]; exact h2, ?_⟩
    unfold isTermO at h3 ⊢
    rw [k.1, k.2.1, k.kind hL h3.2.1 (by split <;> omega)]
    exact h3
  · intro i h0 h1
    rw [er _ i (by omega)]
    exact g i h0 h1
  · intro j h0 h1
    rw [er _ j (by omega), er _ j (by omega), er _ j (by omega)]
    exact i j h0 h1
/-! reading it, at 1 -/
section RDR
variable {sg rho : Nat → Int → Int} {h : gH} {α : Type}
theorem mi_ok {t n a : Nat} {j : Int} (f : gM α) (s : gH) (hs : s.1[a]? = some (t, n)) (h0 : 0 ≤ j) (h1 : j < n) (hn : n ≤ 100000) : mi t a (iI j) f s = f s := by
  have hc : (iI j).toNatClampNeg = j.toNat := iI_cl ⟨by omega, by omega⟩
  have h4 : ¬ iI j < 0 := by rw [iI_0, iI_lt ⟨by omega, by omega⟩ ⟨by omega, by omega⟩]; omega
  unfold mi
  rw [hs]
  simp only [hc]
  rw [if_pos ⟨trivial, fun q => q.elim h4 (fun q => by omega)⟩]
theorem ldR_ok {t n a x : Nat} {j : Int} (f : Nat → gM α) (s : gH) (hs : s.1[a]? = some (t, n)) (h0 : 0 ≤ j) (h1 : j < n) (hn : n ≤ 100000) (hx : s.2.2 a j.toNat = some x) : mb (gLdR t a (iI j)) f s = f x s := by
  have hc : (iI j).toNatClampNeg = j.toNat := iI_cl ⟨by omega, by omega⟩
  refine mb_eq ?_
  unfold gLdR
  rw [mi_ok _ _ hs h0 h1 hn, hc, hx]
theorem ldI_ok {t n a : Nat} {j x : Int} (f : Int32 → gM α) (s : gH) (hs : s.1[a]? = some (t, n)) (h0 : 0 ≤ j) (h1 : j < n) (hn : n ≤ 100000) (hx : s.2.1 a j.toNat = iI x) : mb (gLdI t a (iI j)) f s = f (iI x) s := by
  have hc : (iI j).toNatClampNeg = j.toNat := iI_cl ⟨by omega, by omega⟩
  refine mb_eq ?_
  unfold gLdI
  rw [mi_ok _ _ hs h0 h1 hn, hc, hx]
theorem getI_ok {t n a k : Nat} {ts : List Nat} {x : Int} (f : Int32 → gM α) (s : gH) (hs : s.1[a]? = some (t, n)) (ht : ts.contains t = true) (hx : s.2.1 a k = iI x) : mb (gGetI ts a k) f s = f (iI x) s := by
  refine mb_eq ?_
  unfold gGetI
  rw [mv_eq hs ht, hx]
theorem getR_ok {t n a k x : Nat} {ts : List Nat} (f : Nat → gM α) (s : gH) (hs : s.1[a]? = some (t, n)) (ht : ts.contains t = true) (hx : s.2.2 a k = some x) : mb (gGetR ts a k) f s = f x s := by
  refine mb_eq ?_
  unfold gGetR
  rw [mv_eq hs ht, hx]
abbrev dP (h : gH) (i : Int) : Nat := dpt h.2.2 4 i
abbrev fP (h : gH) (i : Int) : Nat := dpt h.2.2 5 i
abbrev lP (h : gH) (i : Int) : Nat := dpt h.2.2 6 i
abbrev tP (h : gH) (i : Int) : Nat := dpt h.2.2 7 i
theorem dpt_eq {P : Nat → Nat → Option Nat} {a p : Nat} {i : Int} (h : P a i.toNat = some p) : dpt P a i = p := by
  unfold dpt
  rw [h]; rfl
theorem RDs.de (R : RDs 1 sg rho h) {i : Int} (h0 : 0 ≤ i) (h1 : i < sg 1 2) : h.2.2 4 i.toNat = some (dP h i) ∧ isDeedO sg h (dP h i) i := by
  obtain ⟨p, a, b⟩ := R.2.2.1 i h0 h1
  have e : dP h i = p := dpt_eq a
  rw [e]; exact ⟨a, b⟩
theorem RDs.fi (R : RDs 1 sg rho h) {i : Int} (h0 : 0 ≤ i) (h1 : i < sg 1 3) : h.2.2 5 i.toNat = some (fP h i) ∧ isFindO sg h 1 (fP h i) i := by
  obtain ⟨p, a, b⟩ := R.2.2.2.1 i h0 h1
  have e : fP h i = p := dpt_eq a
  rw [e]; exact ⟨a, b⟩
theorem RDs.la (R : RDs 1 sg rho h) {i : Int} (h0 : 0 ≤ i) (h1 : i < sg 1 4) : h.2.2 6 i.toNat = some (lP h i) ∧ isLawO sg h (lP h i) i := by
  obtain ⟨p, a, b⟩ := R.2.2.2.2.1 i h0 h1
  have e : lP h i = p := dpt_eq a
  rw [e]; exact ⟨a, b⟩
theorem RDs.te (R : RDs 1 sg rho h) {i : Int} (h0 : 0 ≤ i) (h1 : i < sg 1 5) : h.2.2 7 i.toNat = some (tP h i) ∧ isTermO sg h 1 (tP h i) i := by
  obtain ⟨p, a, b⟩ := R.2.2.2.2.2.1 i h0 h1
  have e : tP h i = p := dpt_eq a
  rw [e]; exact ⟨a, b⟩
/-- two deeds lie at one place only if they are one -/
theorem RDs.inj (R : RDs 1 sg rho h) (W : WD sg) {i j : Int} (h0 : 0 ≤ i) (h1 : i < sg 1 2) (k0 : 0 ≤ j) (k1 : j < sg 1 2) : ((some (dP h i) : Option Nat) = some (dP h j)) ↔ i = j := by
  have n2 := W.n2
  constructor
  · intro e
    have a := (R.de h0 h1).2.2.2.1
    have b := (R.de k0 k1).2.2.2.1
    injection e with e
    rw [e, b, iI_inj ⟨by omega, by omega⟩ ⟨by omega, by omega⟩] at a
    exact a.symm
  · intro e; rw [e]
theorem OKC.dl (hC : OKC h) (R : RDs 1 sg rho h) (W : WD sg) {r : Nat → Int → Int} {i : Int} (h0 : 0 ≤ i) (h1 : i < sg 1 2) (f : Nat → gM α) : mb (gLdR 102 4 (iI i)) f (cK r h) = f (dP h i) (cK r h) := by
  have n2 := W.n2
  exact ldR_ok f _ ((hC.sh (a := 4) (by omega)).trans rfl) h0 (n := 16) (by omega) (by omega) (R.de h0 h1).1
theorem OKC.fl (hC : OKC h) (R : RDs 1 sg rho h) (W : WD sg) {r : Nat → Int → Int} {i : Int} (h0 : 0 ≤ i) (h1 : i < sg 1 3) (f : Nat → gM α) : mb (gLdR 103 5 (iI i)) f (cK r h) = f (fP h i) (cK r h) := by
  have n2 := W.n3
  exact ldR_ok f _ ((hC.sh (a := 5) (by omega)).trans rfl) h0 (n := 24) (by omega) (by omega) (R.fi h0 h1).1
theorem OKC.ll (hC : OKC h) (R : RDs 1 sg rho h) (W : WD sg) {r : Nat → Int → Int} {i : Int} (h0 : 0 ≤ i) (h1 : i < sg 1 4) (f : Nat → gM α) : mb (gLdR 104 6 (iI i)) f (cK r h) = f (lP h i) (cK r h) := by
  have n2 := W.n4
  exact ldR_ok f _ ((hC.sh (a := 6) (by omega)).trans rfl) h0 (n := 6) (by omega) (by omega) (R.la h0 h1).1
theorem OKC.tl (hC : OKC h) (R : RDs 1 sg rho h) (W : WD sg) {r : Nat → Int → Int} {i : Int} (h0 : 0 ≤ i) (h1 : i < sg 1 5) (f : Nat → gM α) : mb (gLdR 105 7 (iI i)) f (cK r h) = f (tP h i) (cK r h) := by
  have n2 := W.n5
  exact ldR_ok f _ ((hC.sh (a := 7) (by omega)).trans rfl) h0 (n := 16) (by omega) (by omega) (R.te h0 h1).1
theorem RDs.d2 (R : RDs 1 sg rho h) {r : Nat → Int → Int} {i : Int} (h0 : 0 ≤ i) (h1 : i < sg 1 2) (f : Int32 → gM α) : mb (gGetI [0, 9] (dP h i) 2) f (cK r h) = f (iI (sg 3 (3 * i))) (cK r h) := by
  have H := (R.de h0 h1).2
  exact getI_ok f (cK r h) H.2.1 (by split <;> rfl) ((cK_d (by have := H.1; omega)).trans H.2.2.2.2.1)
theorem RDs.d1 (R : RDs 1 sg rho h) {r : Nat → Int → Int} {i : Int} (h0 : 0 ≤ i) (h1 : i < sg 1 2) (f : Int32 → gM α) : mb (gGetI [0, 9] (dP h i) 1) f (cK r h) = f (iI (sg 3 (3 * i + 1))) (cK r h) := by
  have H := (R.de h0 h1).2
  exact getI_ok f (cK r h) H.2.1 (by split <;> rfl) ((cK_d (by have := H.1; omega)).trans H.2.2.2.1)
theorem RDs.d3 (R : RDs 1 sg rho h) {r : Nat → Int → Int} {i : Int} (h0 : 0 ≤ i) (h1 : i < sg 1 2) (f : Int32 → gM α) : mb (gGetI [0, 9] (dP h i) 3) f (cK r h) = f (iI (sg 3 (3 * i + 2))) (cK r h) := by
  have H := (R.de h0 h1).2
  exact getI_ok f (cK r h) H.2.1 (by split <;> rfl) ((cK_d (by have := H.1; omega)).trans H.2.2.2.2.2.1)
theorem RDs.d4 (R : RDs 1 sg rho h) {r : Nat → Int → Int} {i : Int} (h0 : 0 ≤ i) (h1 : i < sg 1 2) (f : Int32 → gM α) : mb (gGetI [0, 9] (dP h i) 4) f (cK r h) = f (iI (sAge sg i)) (cK r h) := by
  have H := (R.de h0 h1).2
  exact getI_ok f (cK r h) H.2.1 (by split <;> rfl) ((cK_d (by have := H.1; omega)).trans H.2.2.2.2.2.2)
theorem RDs.dn (R : RDs 1 sg rho h) {r : Nat → Int → Int} {i : Int} (h0 : 0 ≤ i) (h1 : i < sg 1 2) (f : Int32 → gM α) : mb (gGetI [0, 2, 3, 4, 7, 9] (dP h i) 0) f (cK r h) = f (iI (i)) (cK r h) := by
  have H := (R.de h0 h1).2
  exact getI_ok f (cK r h) H.2.1 (by split <;> rfl) ((cK_d (by have := H.1; omega)).trans H.2.2.1)
theorem RDs.da (R : RDs 1 sg rho h) {r : Nat → Int → Int} {i : Int} (h0 : 0 ≤ i) (h1 : i < sg 1 2) (f : Int32 → gM α) : mb (gGetI [0, 2, 3, 4, 7, 9] (dP h i) 1) f (cK r h) = f (iI (sg 3 (3 * i + 1))) (cK r h) := by
  have H := (R.de h0 h1).2
  exact getI_ok f (cK r h) H.2.1 (by split <;> rfl) ((cK_d (by have := H.1; omega)).trans H.2.2.2.1)
theorem RDs.f1 (R : RDs 1 sg rho h) {r : Nat → Int → Int} {i : Int} (h0 : 0 ≤ i) (h1 : i < sg 1 3) (f : Int32 → gM α) : mb (gGetI [3] (fP h i) 1) f (cK r h) = f (iI (sg 4 (4 * i + 1))) (cK r h) := by
  have H := (R.fi h0 h1).2
  exact getI_ok f (cK r h) H.2.1 rfl ((cK_d (by have := H.1; omega)).trans H.2.2.2.1)
theorem RDs.f2 (R : RDs 1 sg rho h) {r : Nat → Int → Int} {i : Int} (h0 : 0 ≤ i) (h1 : i < sg 1 3) (f : Nat → gM α) : mb (gGetR [3] (fP h i) 2) f (cK r h) = f (dP h (sg 4 (4 * i))) (cK r h) := by
  have H := (R.fi h0 h1).2
  exact getR_ok f (cK r h) H.2.1 rfl H.2.2.2.2.1
theorem RDs.f3 (R : RDs 1 sg rho h) {r : Nat → Int → Int} {i : Int} (h0 : 0 ≤ i) (h1 : i < sg 1 3) (f : Int32 → gM α) : mb (gGetI [3] (fP h i) 3) f (cK r h) = f (iI (sg 4 (4 * i + 2))) (cK r h) := by
  have H := (R.fi h0 h1).2
  exact getI_ok f (cK r h) H.2.1 rfl ((cK_d (by have := H.1; omega)).trans H.2.2.2.2.2.1)
theorem RDs.f4 (R : RDs 1 sg rho h) {r : Nat → Int → Int} {i : Int} (h0 : 0 ≤ i) (h1 : i < sg 1 3) (f : Int32 → gM α) : mb (gGetI [3] (fP h i) 4) f (cK r h) = f (iI (sg 4 (4 * i + 3))) (cK r h) := by
  have H := (R.fi h0 h1).2
  exact getI_ok f (cK r h) H.2.1 rfl ((cK_d (by have := H.1; omega)).trans H.2.2.2.2.2.2)
theorem RDs.fn (R : RDs 1 sg rho h) {r : Nat → Int → Int} {i : Int} (h0 : 0 ≤ i) (h1 : i < sg 1 3) (f : Int32 → gM α) : mb (gGetI [0, 2, 3, 4, 7, 9] (fP h i) 0) f (cK r h) = f (iI (i)) (cK r h) := by
  have H := (R.fi h0 h1).2
  exact getI_ok f (cK r h) H.2.1 rfl ((cK_d (by have := H.1; omega)).trans H.2.2.1)
theorem RDs.fa (R : RDs 1 sg rho h) {r : Nat → Int → Int} {i : Int} (h0 : 0 ≤ i) (h1 : i < sg 1 3) (f : Int32 → gM α) : mb (gGetI [0, 2, 3, 4, 7, 9] (fP h i) 1) f (cK r h) = f (iI (sg 4 (4 * i + 1))) (cK r h) := by
  have H := (R.fi h0 h1).2
  exact getI_ok f (cK r h) H.2.1 rfl ((cK_d (by have := H.1; omega)).trans H.2.2.2.1)
theorem RDs.t1 (R : RDs 1 sg rho h) {r : Nat → Int → Int} {i : Int} (h0 : 0 ≤ i) (h1 : i < sg 1 5) (f : Int32 → gM α) : mb (gGetI [7, 2] (tP h i) 1) f (cK r h) = f (iI (sg 8 (7 * i + 2))) (cK r h) := by
  have H := (R.te h0 h1).2
  exact getI_ok f (cK r h) H.2.1 (by split <;> rfl) ((cK_d (by have := H.1; omega)).trans H.2.2.2.1)
theorem RDs.t2 (R : RDs 1 sg rho h) {r : Nat → Int → Int} {i : Int} (h0 : 0 ≤ i) (h1 : i < sg 1 5) (f : Nat → gM α) : mb (gGetR [7, 2] (tP h i) 2) f (cK r h) = f (dP h (sg 8 (7 * i))) (cK r h) := by
  have H := (R.te h0 h1).2
  exact getR_ok f (cK r h) H.2.1 (by split <;> rfl) H.2.2.2.2.1
theorem RDs.t3 (R : RDs 1 sg rho h) {r : Nat → Int → Int} {i : Int} (h0 : 0 ≤ i) (h1 : i < sg 1 5) (f : Int32 → gM α) : mb (gGetI [7, 2] (tP h i) 3) f (cK r h) = f (iI (sg 8 (7 * i + 1))) (cK r h) := by
  have H := (R.te h0 h1).2
  exact getI_ok f (cK r h) H.2.1 (by split <;> rfl) ((cK_d (by have := H.1; omega)).trans H.2.2.2.2.2.1)
theorem RDs.t4 (R : RDs 1 sg rho h) {r : Nat → Int → Int} {i : Int} (h0 : 0 ≤ i) (h1 : i < sg 1 5) (f : Int32 → gM α) : mb (gGetI [7, 2] (tP h i) 4) f (cK r h) = f (iI (sg 8 (7 * i + 3))) (cK r h) := by
  have H := (R.te h0 h1).2
  exact getI_ok f (cK r h) H.2.1 (by split <;> rfl) ((cK_d (by have := H.1; omega)).trans H.2.2.2.2.2.2.1)
theorem RDs.t5 (R : RDs 1 sg rho h) {r : Nat → Int → Int} {i : Int} (h0 : 0 ≤ i) (h1 : i < sg 1 5) (f : Int32 → gM α) : mb (gGetI [7, 2] (tP h i) 5) f (cK r h) = f (iI (sg 8 (7 * i + 5))) (cK r h) := by
  have H := (R.te h0 h1).2
  exact getI_ok f (cK r h) H.2.1 (by split <;> rfl) ((cK_d (by have := H.1; omega)).trans H.2.2.2.2.2.2.2)
theorem RDs.tn (R : RDs 1 sg rho h) {r : Nat → Int → Int} {i : Int} (h0 : 0 ≤ i) (h1 : i < sg 1 5) (f : Int32 → gM α) : mb (gGetI [0, 2, 3, 4, 7, 9] (tP h i) 0) f (cK r h) = f (iI (i)) (cK r h) := by
  have H := (R.te h0 h1).2
  exact getI_ok f (cK r h) H.2.1 (by split <;> rfl) ((cK_d (by have := H.1; omega)).trans H.2.2.1)
theorem RDs.ta (R : RDs 1 sg rho h) {r : Nat → Int → Int} {i : Int} (h0 : 0 ≤ i) (h1 : i < sg 1 5) (f : Int32 → gM α) : mb (gGetI [0, 2, 3, 4, 7, 9] (tP h i) 1) f (cK r h) = f (iI (sg 8 (7 * i + 2))) (cK r h) := by
  have H := (R.te h0 h1).2
  exact getI_ok f (cK r h) H.2.1 (by split <;> rfl) ((cK_d (by have := H.1; omega)).trans H.2.2.2.1)
theorem RDs.l0 (R : RDs 1 sg rho h) {r : Nat → Int → Int} {i : Int} (h0 : 0 ≤ i) (h1 : i < sg 1 4) (f : Int32 → gM α) : mb (gGetI [4] (lP h i) 0) f (cK r h) = f (iI (i)) (cK r h) := by
  have H := (R.la h0 h1).2
  exact getI_ok f (cK r h) H.1.2.1 rfl ((cK_d (by have := H.1.1; omega)).trans H.1.2.2.1)
theorem RDs.l1 (R : RDs 1 sg rho h) {r : Nat → Int → Int} {i : Int} (h0 : 0 ≤ i) (h1 : i < sg 1 4) (f : Int32 → gM α) : mb (gGetI [4] (lP h i) 1) f (cK r h) = f (iI (sg 5 (2 * i))) (cK r h) := by
  have H := (R.la h0 h1).2
  exact getI_ok f (cK r h) H.1.2.1 rfl ((cK_d (by have := H.1.1; omega)).trans H.1.2.2.2.1)
theorem RDs.l2 (R : RDs 1 sg rho h) {r : Nat → Int → Int} {i : Int} (h0 : 0 ≤ i) (h1 : i < sg 1 4) (f : Int32 → gM α) : mb (gGetI [4] (lP h i) 2) f (cK r h) = f (iI (sg 5 (2 * i + 1))) (cK r h) := by
  have H := (R.la h0 h1).2
  exact getI_ok f (cK r h) H.1.2.1 rfl ((cK_d (by have := H.1.1; omega)).trans H.1.2.2.2.2.1)
theorem RDs.l3 (R : RDs 1 sg rho h) {r : Nat → Int → Int} {i : Int} (h0 : 0 ≤ i) (h1 : i < sg 1 4) (f : Int32 → gM α) : mb (gGetI [4] (lP h i) 3) f (cK r h) = f (iI (b2 (sBack sg i))) (cK r h) := by
  have H := (R.la h0 h1).2
  exact getI_ok f (cK r h) H.1.2.1 rfl ((cK_d (by have := H.1.1; omega)).trans H.1.2.2.2.2.2.1)
theorem RDs.l7 (R : RDs 1 sg rho h) {r : Nat → Int → Int} {i : Int} (h0 : 0 ≤ i) (h1 : i < sg 1 4) (f : Int32 → gM α) : mb (gGetI [4] (lP h i) 7) f (cK r h) = f (iI (sOld sg i)) (cK r h) := by
  have H := (R.la h0 h1).2
  exact getI_ok f (cK r h) H.1.2.1 rfl ((cK_d (by have := H.1.1; omega)).trans H.1.2.2.2.2.2.2)
theorem RDs.ln (R : RDs 1 sg rho h) {r : Nat → Int → Int} {i : Int} (h0 : 0 ≤ i) (h1 : i < sg 1 4) (f : Int32 → gM α) : mb (gGetI [0, 2, 3, 4, 7, 9] (lP h i) 0) f (cK r h) = f (iI (i)) (cK r h) := by
  have H := (R.la h0 h1).2
  exact getI_ok f (cK r h) H.1.2.1 rfl ((cK_d (by have := H.1.1; omega)).trans H.1.2.2.1)
theorem RDs.lv (R : RDs 1 sg rho h) {r : Nat → Int → Int} {i : Int} (h0 : 0 ≤ i) (h1 : i < sg 1 4) (f : Int32 → gM α) : mb (gGetI [0, 2, 3, 4, 7, 9] (lP h i) 1) f (cK r h) = f (iI (sg 5 (2 * i))) (cK r h) := by
  have H := (R.la h0 h1).2
  exact getI_ok f (cK r h) H.1.2.1 rfl ((cK_d (by have := H.1.1; omega)).trans H.1.2.2.2.1)
theorem RDs.r5 (R : RDs 1 sg rho h) {r : Nat → Int → Int} {i : Int} (h0 : 0 ≤ i) (h1 : i < sg 1 4) (f : Nat → gM α) : mb (gGetR [4] (lP h i) 5) f (cK r h) = f (lP h i + 1) (cK r h) := by
  have H := (R.la h0 h1).2
  exact getR_ok f (cK r h) H.1.2.1 rfl H.2.1.1
theorem RDs.r6 (R : RDs 1 sg rho h) {r : Nat → Int → Int} {i : Int} (h0 : 0 ≤ i) (h1 : i < sg 1 4) (f : Nat → gM α) : mb (gGetR [4] (lP h i) 6) f (cK r h) = f (lP h i + 2) (cK r h) := by
  have H := (R.la h0 h1).2
  exact getR_ok f (cK r h) H.1.2.1 rfl H.2.1.2.1
theorem RDs.r8 (R : RDs 1 sg rho h) {r : Nat → Int → Int} {i : Int} (h0 : 0 ≤ i) (h1 : i < sg 1 4) (f : Nat → gM α) : mb (gGetR [4] (lP h i) 8) f (cK r h) = f (lP h i + 3) (cK r h) := by
  have H := (R.la h0 h1).2
  exact getR_ok f (cK r h) H.1.2.1 rfl H.2.1.2.2.1
theorem RDs.r13 (R : RDs 1 sg rho h) {r : Nat → Int → Int} {i : Int} (h0 : 0 ≤ i) (h1 : i < sg 1 4) (f : Nat → gM α) : mb (gGetR [4] (lP h i) 13) f (cK r h) = f (lP h i + 4) (cK r h) := by
  have H := (R.la h0 h1).2
  exact getR_ok f (cK r h) H.1.2.1 rfl H.2.1.2.2.2.1
theorem RDs.r4 (R : RDs 1 sg rho h) {r : Nat → Int → Int} {i : Int} (h0 : 0 ≤ i) (h1 : i < sg 1 4) (f : Nat → gM α) : mb (gGetR [4] (lP h i) 4) f (cK r h) = f (lP h i + 5) (cK r h) := by
  have H := (R.la h0 h1).2
  exact getR_ok f (cK r h) H.1.2.1 rfl H.2.1.2.2.2.2.1
theorem RDs.r10 (R : RDs 1 sg rho h) {r : Nat → Int → Int} {i : Int} (h0 : 0 ≤ i) (h1 : i < sg 1 4) (f : Nat → gM α) : mb (gGetR [4] (lP h i) 10) f (cK r h) = f (lP h i + 6) (cK r h) := by
  have H := (R.la h0 h1).2
  exact getR_ok f (cK r h) H.1.2.1 rfl H.2.1.2.2.2.2.2.1
theorem RDs.r11 (R : RDs 1 sg rho h) {r : Nat → Int → Int} {i : Int} (h0 : 0 ≤ i) (h1 : i < sg 1 4) (f : Nat → gM α) : mb (gGetR [4] (lP h i) 11) f (cK r h) = f (lP h i + 7) (cK r h) := by
  have H := (R.la h0 h1).2
  exact getR_ok f (cK r h) H.1.2.1 rfl H.2.1.2.2.2.2.2.2.1
theorem RDs.r12 (R : RDs 1 sg rho h) {r : Nat → Int → Int} {i : Int} (h0 : 0 ≤ i) (h1 : i < sg 1 4) (f : Nat → gM α) : mb (gGetR [4] (lP h i) 12) f (cK r h) = f (lP h i + 8) (cK r h) := by
  have H := (R.la h0 h1).2
  exact getR_ok f (cK r h) H.1.2.1 rfl H.2.1.2.2.2.2.2.2.2.1
theorem RDs.r9 (R : RDs 1 sg rho h) {r : Nat → Int → Int} {i : Int} (h0 : 0 ≤ i) (h1 : i < sg 1 4) (f : Nat → gM α) : mb (gGetR [4] (lP h i) 9) f (cK r h) = f (lP h i + 9) (cK r h) := by
  have H := (R.la h0 h1).2
  exact getR_ok f (cK r h) H.1.2.1 rfl H.2.1.2.2.2.2.2.2.2.2
theorem RDs.mt (R : RDs 1 sg rho h) {β : Type} {r : Nat → Int → Int} {i : Int} (h0 : 0 ≤ i) (h1 : i < sg 1 5) (g : gM α) (f : α → gM β) : mb (mv [7, 2] (tP h i) g) f (cK r h) = mb g f (cK r h) := by
  have H := (R.te h0 h1).2
  unfold mb
  rw [mv_eq (h := cK r h) H.2.1 (by split <;> rfl)]
theorem RDs.ml (R : RDs 1 sg rho h) {β : Type} {r : Nat → Int → Int} {i : Int} (h0 : 0 ≤ i) (h1 : i < sg 1 4) (g : gM α) (f : α → gM β) : mb (mv [4] (lP h i) g) f (cK r h) = mb g f (cK r h) := by
  have H := (R.la h0 h1).2
  unfold mb
  rw [mv_eq (h := cK r h) H.1.2.1 rfl]
theorem RDs.lg (R : RDs 1 sg rho h) {r : Nat → Int → Int} {v i : Int} (h0 : 0 ≤ v) (h1 : v < sg 1 4) (k0 : 0 ≤ i) (k1 : i < 6) (f : Int32 → gM α) : mb (gLdI 100 (lP h v + 1) (iI i)) f (cK r h) = f (iI (sTold sg v 0 i)) (cK r h) := by
  have H := (R.la h0 h1).2
  exact ldI_ok f (cK r h) (n := 6) H.2.2.1.1 k0 (by omega) (by omega) ((cK_d (by have := H.1.1; omega)).trans (H.2.2.2.1 i k0 k1).1)
theorem RDs.lp (R : RDs 1 sg rho h) {r : Nat → Int → Int} {v i : Int} (h0 : 0 ≤ v) (h1 : v < sg 1 4) (k0 : 0 ≤ i) (k1 : i < 6) (f : Int32 → gM α) : mb (gLdI 100 (lP h v + 2) (iI i)) f (cK r h) = f (iI (sTold sg v 1 i)) (cK r h) := by
  have H := (R.la h0 h1).2
  exact ldI_ok f (cK r h) (n := 6) H.2.2.1.2.1 k0 (by omega) (by omega) ((cK_d (by have := H.1.1; omega)).trans (H.2.2.2.1 i k0 k1).2)
theorem RDs.lr (R : RDs 1 sg rho h) {r : Nat → Int → Int} {v g o : Int} (h0 : 0 ≤ v) (h1 : v < sg 1 4) (k0 : 0 ≤ g) (k1 : g ≤ 4) (k2 : 0 ≤ o) (k3 : o ≤ 3) (f : Int32 → gM α) : mb (gLdI 100 (lP h v + 3) (iI (g * 4 + o))) f (cK r h) = f (iI (orN (sRange sg v g o))) (cK r h) := by
  have H := (R.la h0 h1).2
  exact ldI_ok f (cK r h) (n := 20) H.2.2.1.2.2.1 (by omega) (by omega) (by omega) ((cK_d (by have := H.1.1; omega)).trans (H.2.2.2.2.1 g o k0 k1 k2 k3))
theorem RDs.lo (R : RDs 1 sg rho h) (W : WD sg) {r : Nat → Int → Int} {v l : Int} (h0 : 0 ≤ v) (h1 : v < sg 1 4) (k0 : 0 ≤ l) (k1 : l < sg 5 (2 * v)) (f : Int32 → gM α) : mb (gLdI 100 (lP h v + 5) (iI l)) f (cK r h) = f (iI (sLine sg v l 0)) (cK r h) := by
  have H := (R.la h0 h1).2
  have nv := W.ve v h0 h1
  obtain ⟨nc, f1, f2, f3, cs, ce, cc, f4, f5⟩ := H.2.2.2.2.2
  exact ldI_ok f (cK r h) (n := (sg 5 (2 * v)).toNat) (f2 5 (by omega)) k0 (by omega) (by omega) ((cK_d (by have := H.1.1; omega)).trans (f4 l k0 k1).1)
theorem RDs.ls (R : RDs 1 sg rho h) (W : WD sg) {r : Nat → Int → Int} {v l : Int} (h0 : 0 ≤ v) (h1 : v < sg 1 4) (k0 : 0 ≤ l) (k1 : l < sg 5 (2 * v)) (f : Int32 → gM α) : mb (gLdI 100 (lP h v + 9) (iI l)) f (cK r h) = f (iI (lawSt sg v l)) (cK r h) := by
  have H := (R.la h0 h1).2
  have nv := W.ve v h0 h1
  obtain ⟨nc, f1, f2, f3, cs, ce, cc, f4, f5⟩ := H.2.2.2.2.2
  exact ldI_ok f (cK r h) (n := (sg 5 (2 * v)).toNat) (f2 9 (by omega)) k0 (by omega) (by omega) ((cK_d (by have := H.1.1; omega)).trans (f4 l k0 k1).2.2.2.1)
end RDR
theorem RDs.born {sg rho : Nat → Int → Int} {h : gH} (R : RDs 1 sg rho h) {i : Int} (h0 : 0 ≤ i) (h1 : i < sg 1 1) : rho 2 i = sg 2 (2 * i) := (R.2.1 i h0 h1).1
theorem RDs.good {sg rho : Nat → Int → Int} {h : gH} (R : RDs 1 sg rho h) {i : Int} (h0 : 0 ≤ i) (h1 : i < sg 1 1) : rho 3 i = sg 2 (2 * i + 1) := (R.2.1 i h0 h1).2
theorem RDs.unw {sg rho : Nat → Int → Int} {h : gH} (R : RDs 1 sg rho h) {i : Int} (h0 : 0 ≤ i) (h1 : i < sg 1 5) : rho 8 i = if sg 8 (7 * i + 6) = 100000 then 10000 else sg 8 (7 * i + 6) := R.2.2.2.2.2.2.1 i h0 h1
theorem RDs.hp {sg rho : Nat → Int → Int} {h : gH} (R : RDs 1 sg rho h) {i : Int} (h0 : 0 ≤ i) (h1 : i < sg 1 6) : rho 9 i = sg 9 (3 * i) := (R.2.2.2.2.2.2.2 i h0 h1).1
theorem RDs.hf {sg rho : Nat → Int → Int} {h : gH} (R : RDs 1 sg rho h) {i : Int} (h0 : 0 ≤ i) (h1 : i < sg 1 6) : rho 10 i = sg 9 (3 * i + 1) := (R.2.2.2.2.2.2.2 i h0 h1).2.1
theorem RDs.ht {sg rho : Nat → Int → Int} {h : gH} (R : RDs 1 sg rho h) {i : Int} (h0 : 0 ≤ i) (h1 : i < sg 1 6) : rho 11 i = sg 9 (3 * i + 2) := (R.2.2.2.2.2.2.2 i h0 h1).2.2

/-! ===== the class and the reference hold the same ===== -/
def offK : Nat → Int
  | 1 => 0 | 2 => 7 | 3 => 23 | 4 => 71 | 5 => 167 | 6 => 179 | 7 => 683 | 8 => 2243 | 9 => 2355 | _ => 2391
def lenK : Nat → Int
  | 1 => 7 | 2 => 16 | 3 => 48 | 4 => 96 | 5 => 12 | 6 => 504 | 7 => 1560 | 8 => 112 | 9 => 36 | _ => 0
/-- what the reference has kept -/
def kG (sg : Nat → Int → Int) : Nat → Int → Int := fun k j => if 0 ≤ j ∧ j < lenK k then sg 28 (offK k + j) else 0
/-- nothing behind the rows' ends -/
def JZ (sg : Nat → Int → Int) : Prop := ∀ k j, 1 ≤ k → k ≤ 9 → (j < 0 ∨ lenK k ≤ j) → sg k j = 0
theorem JZ.s {sg : Nat → Int → Int} (h : JZ sg) {k : Nat} {j v : Int} (hk : k = 0 ∨ 10 ≤ k ∨ (0 ≤ j ∧ j < lenK k)) : JZ (s3 sg k j v) := fun k' j' h1 h2 h3 => by
  by_cases e : k' = k
  · subst e
    rw [s3_nj (by omega)]
    exact h k' j' h1 h2 h3
  · rw [s3_nk e]
    exact h k' j' h1 h2 h3
/-- what else always holds of the reference -/
def WY (sg : Nat → Int → Int) : Prop := (0 ≤ sg 0 10 ∧ sg 0 10 ≤ 250) ∧ (∀ j, 0 ≤ j → j < 250 → 0 ≤ sg 10 j ∧ sg 10 j ≤ 255) ∧ (sg 14 0 = 112 ∧ sg 14 1 = 108 ∧ sg 14 2 = 101 ∧ sg 14 3 = 97 ∧ sg 14 4 = 100 ∧ sg 14 5 = 101 ∧ sg 14 6 = 100) ∧ (sg 0 42 = 0 ∨ (sg 0 42 = 1 ∧ WD (kG sg))) ∧ JZ sg
def bsg (b : Int) : Int := if b < 128 then b else b - 256
def XK (sg rho : Nat → Int → Int) (h : gH) : Prop := rho 0 2 = sg 0 42 ∧ (sg 0 42 = 1 → RDs 15 (kG sg) rho h)
def XR (sg rho : Nat → Int → Int) : Prop := rho 38 1 = sg 0 27 ∧ ∀ j, 0 ≤ j → j < 3 * sg 0 27 → rho 39 j = sg 19 j
def XT (sg rho : Nat → Int → Int) : Prop := rho 29 0 = sg 0 10 ∧ ∀ j, 0 ≤ j → j < sg 0 10 → rho 35 j = bsg (sg 10 j)
def XS (sg rho : Nat → Int → Int) : Prop := ∀ s, 0 ≤ s → s < 4 → rho 47 s = sg 21 s ∧ (0 ≤ sg 21 s → rho 48 s = sg 22 s ∧ ∀ j, 0 ≤ j → j < 40 → rho (43 + s.toNat) j = sg 23 (40 * s + j))
def XH (sg rho : Nat → Int → Int) : Prop := ∀ s, 0 ≤ s → s < 4 → (sg 24 s = -1 ∧ rho 49 s = 5) ∨ ((0 ≤ sg 24 s ∧ sg 24 s ≤ 3) ∧ rho 49 s = sg 24 s ∧ rho 50 s = sg 25 s) ∨ (sg 24 s = 4 ∧ rho 49 s = 4 ∧ rho 51 s = sg 25 s ∧ rho 52 s = sg 26 s ∧ 0 ≤ sg 25 s ∧ sg 25 s ≤ 3)
def XB (sg rho : Nat → Int → Int) : Prop := rho 40 1 = sg 0 40 ∧ (∀ j, 0 ≤ j → j < sg 0 40 → rho 41 j = sg 27 j) ∧ rho 54 0 = 0 ∧ rho 54 256 = 0
/-- the class at rho, h holds what the reference's numbers sg say -/
def CI (sg rho : Nat → Int → Int) (h : gH) : Prop := OKC h ∧ LB h ∧ okG rho ∧ 84 ≤ h.1.length ∧ RDs 1 sg rho h ∧ XK sg rho h ∧ XR sg rho ∧ XT sg rho ∧ XS sg rho ∧ XH sg rho ∧ XB sg rho
/-- cells are added, old ones behind the class's and the reference's objects stay -/
def hG (h h' : gH) : Prop := (∃ L : List (Nat × Nat), h'.1 = h.1 ++ L ∧ L.length ≤ 10 ∧ (L.map fun q => q.2).sum ≤ 400) ∧ (∀ q, q < 84 → h'.2.1 q = h.2.1 q) ∧ ∀ q, 55 ≤ q → q < 84 → h'.2.2 q = h.2.2 q
/-- both, and what always holds -/
def Inv (sg rho : Nat → Int → Int) (h : gH) : Prop := CI sg rho h ∧ WD sg ∧ WX sg ∧ WY sg ∧ OKM 55 h ∧ mK 55 sg h = h
theorem hG.rf (h : gH) : hG h h := ⟨⟨[], by simp, by simp, by simp⟩, fun _ _ => rfl, fun _ _ _ => rfl⟩
theorem mK_d {M : Nat} {sg : Nat → Int → Int} {h : gH} {a : Nat} (ha : a < M ∨ M + 28 < a) : (mK M sg h).2.1 a = h.2.1 a := by
  funext n
  show (if M ≤ a ∧ a ≤ M + 28 then _ else _) = _
  rw [if_neg (by omega)]
theorem mK_cK {sg rho : Nat → Int → Int} {h : gH} : mK 55 sg (cK rho h) = cK rho (mK 55 sg h) := by
  unfold mK cK
  simp only [Prod.mk.injEq, true_and, and_true]
  funext q n
  by_cases c : q < 55
  · have c2 : ¬ (55 ≤ q ∧ q ≤ 55 + 28) := by omega
    simp only [c, c2, if_true, if_false]
  · simp only [c, if_false]
theorem OKM.ck_ {h : gH} {rho : Nat → Int → Int} (hM : OKM 55 h) : OKM 55 (cK rho h) := hM
theorem OKM.mk_ {h : gH} {sg : Nat → Int → Int} (hM : OKM 55 h) : OKM 55 (mK 55 sg h) := hM
theorem OKC.mk_ {h : gH} {sg : Nat → Int → Int} (hC : OKC h) : OKC (mK 55 sg h) := hC
theorem mK_mK {sg sg' : Nat → Int → Int} {h : gH} : mK 55 sg' (mK 55 sg h) = mK 55 sg' h := by
  unfold mK
  simp only [Prod.mk.injEq, true_and, and_true]
  funext q n
  by_cases c : 55 ≤ q ∧ q ≤ 55 + 28
  · simp only [c, and_self, if_true]
  · simp only [c, if_false]
theorem OKM.hg_ {h h' : gH} (hM : OKM 55 h) (k : hG h h') : OKM 55 h' := by
  obtain ⟨⟨L, e, _, _⟩, _, k3⟩ := k
  have ex : ∀ (q : Nat) (x : Nat × Nat), h.1[q]? = some x → h'.1[q]? = some x := fun q x hx => by
    have hl : q < h.1.length := (List.getElem?_eq_some_iff.mp hx).1
    rw [e, List.getElem?_append_left hl]; exact hx
  refine ⟨ex _ _ hM.1, fun o n ho => ex _ _ (hM.2.1 o n ho), fun a o ho => ?_⟩
  rw [k3 55 (by omega) (by omega)]
  exact hM.2.2 a o ho
/-- the docket's relation outlasts growth -/
theorem RDs.ext {X : Nat} {sg rho : Nat → Int → Int} {h h' : gH} (H : RDs X sg rho h) (k1 : ∀ (q : Nat) (x : Nat × Nat), h.1[q]? = some x → h'.1[q]? = some x) (k2 : ∀ q, 84 ≤ q → q < h.1.length → h'.2.1 q = h.2.1 q ∧ h'.2.2 q = h.2.2 q) (k3 : ∀ q, X + 3 ≤ q → q ≤ X + 6 → h'.2.2 q = h.2.2 q) : RDs X sg rho h' := by
  obtain ⟨a, b, c, d, e, f, g, i⟩ := H
  have lt : ∀ (q : Nat) (x : Nat × Nat), h.1[q]? = some x → q < h.1.length := fun q x hx => (List.getElem?_eq_some_iff.mp hx).1
  refine ⟨a, b, ?_, ?_, ?_, ?_, g, i⟩
  · intro i h0 h1
    obtain ⟨p, h2, h3⟩ := c i h0 h1
    refine ⟨p, by rw [k3 _ (by omega) (by omega)]; exact h2, ?_⟩
    obtain ⟨e1, e2⟩ := k2 p h3.1 (lt _ _ h3.2.1)
    unfold isDeedO at h3 ⊢
    rw [e1]
    exact ⟨h3.1, k1 _ _ h3.2.1, h3.2.2⟩
  · intro i h0 h1
    obtain ⟨p, h2, h3⟩ := d i h0 h1
    refine ⟨p, by rw [k3 _ (by omega) (by omega)]; exact h2, ?_⟩
    obtain ⟨e1, e2⟩ := k2 p h3.1 (lt _ _ h3.2.1)
    unfold isFindO dpt at h3 ⊢
    rw [e1, e2, k3 (X + 3) (by omega) (by omega)]
    exact ⟨h3.1, k1 _ _ h3.2.1, h3.2.2⟩
  · intro i h0 h1
    obtain ⟨p, h2, h3⟩ := e i h0 h1
    refine ⟨p, by rw [k3 _ (by omega) (by omega)]; exact h2, ?_⟩
    obtain ⟨⟨a1, a2, a3⟩, b, ⟨c1, c2, c3, c4⟩, d, e, nc, f1, f2, f3, f4⟩ := h3
    obtain ⟨e1, e2⟩ := k2 p a1 (lt _ _ a2)
    have r := fun i (hi : i = 1 ∨ i = 2 ∨ i = 3 ∨ i = 5 ∨ i = 6 ∨ i = 7 ∨ i = 8 ∨ i = 9) => (k2 (p + i) (by omega) (by
      rcases hi with rfl | rfl | rfl | rfl | rfl | rfl | rfl | rfl
      · exact lt _ _ c1
      · exact lt _ _ c2
      · exact lt _ _ c3
      · exact lt _ _ (f2 5 (by omega))
      · exact lt _ _ (f2 6 (by omega))
      · exact lt _ _ (f2 7 (by omega))
      · exact lt _ _ f3
      · exact lt _ _ (f2 9 (by omega)))).1
    unfold isLawO
    rw [e1, e2, r 1 (by omega), r 2 (by omega), r 3 (by omega), r 5 (by omega), r 6 (by omega), r 7 (by omega), r 8 (by omega), r 9 (by omega)]
    exact ⟨⟨a1, k1 _ _ a2, a3⟩, b, ⟨k1 _ _ c1, k1 _ _ c2, k1 _ _ c3, k1 _ _ c4⟩, d, e, nc, f1, fun i hi => k1 _ _ (f2 i hi), k1 _ _ f3, f4⟩
  · intro i h0 h1
    obtain ⟨p, h2, h3⟩ := f i h0 h1
    refine ⟨p, by rw [k3 _ (by omega) (by omega)]; exact h2, ?_⟩
    obtain ⟨e1, e2⟩ := k2 p h3.1 (lt _ _ h3.2.1)
    unfold isTermO dpt at h3 ⊢
    rw [e1, e2, k3 (X + 3) (by omega) (by omega)]
    exact ⟨h3.1, k1 _ _ h3.2.1, h3.2.2⟩
theorem CI.mk_ {sg sg2 rho : Nat → Int → Int} {h : gH} (C : CI sg rho h) : CI sg rho (mK 55 sg2 h) := by
  obtain ⟨a, b, c, d, e, f, g⟩ := C
  have x : ∀ {X : Nat} {s : Nat → Int → Int}, RDs X s rho h → RDs X s rho (mK 55 sg2 h) := fun H => RDs.ext H (fun q x hx => hx) (fun q q0 _ => ⟨mK_d (by omega), rfl⟩) (fun _ _ _ => rfl)
  exact ⟨a, b, c, d, x e, ⟨f.1, fun q => x (f.2 q)⟩, g⟩
/-- numbers outside of 1 to 9 don't matter to a docket -/
def nG (sg : Nat → Int → Int) : Nat → Int → Int := fun k => if 1 ≤ k ∧ k ≤ 9 then sg k else fun _ => 0
theorem RDs.ng_ (X : Nat) (sg rho : Nat → Int → Int) (h : gH) : RDs X (nG sg) rho h = RDs X sg rho h := rfl
theorem RDs.c9 {X : Nat} {sg sg' rho : Nat → Int → Int} {h : gH} (k : ∀ q, 1 ≤ q → q ≤ 9 → sg' q = sg q) (H : RDs X sg rho h) : RDs X sg' rho h := by
  rw [← RDs.ng_] at H ⊢
  have e2 : (fun k => if 1 ≤ k ∧ k ≤ 9 then sg' k else fun _ => 0 : Nat → Int → Int) = fun k => if 1 ≤ k ∧ k ≤ 9 then sg k else fun _ => 0 := by
    funext q
    by_cases c : 1 ≤ q ∧ q ≤ 9
    · rw [if_pos c, if_pos c, k q c.1 c.2]
    · rw [if_neg c, if_neg c]
  show RDs X (fun k => if 1 ≤ k ∧ k ≤ 9 then sg' k else fun _ => 0) rho h
  rw [e2]
  exact H
theorem WD.c9 {sg sg' : Nat → Int → Int} (W : WD sg) (k : ∀ q, 1 ≤ q → q ≤ 9 → sg' q = sg q) (hi : ∀ k j, i32 (sg' k j)) : WD sg' := by
  refine ⟨hi, ?_⟩
  have := W.2
  unfold sLine at this ⊢
  rw [k 1 (by omega) (by omega), k 2 (by omega) (by omega), k 3 (by omega) (by omega), k 4 (by omega) (by omega), k 5 (by omega) (by omega), k 6 (by omega) (by omega), k 7 (by omega) (by omega), k 8 (by omega) (by omega), k 9 (by omega) (by omega)]
  exact this
/-- after the class's scratch -/
theorem CI.cs {sg rho rho' : Nat → Int → Int} {h h' : gH} (C : CI sg rho h) (k1 : cS rho rho') (k2 : hS h h') (hg : okG rho') : CI sg rho' h' := by
  obtain ⟨a, b, c, d, e, f, g, i, j, k, l⟩ := C
  have er : ∀ q, q ≠ 12 → q ≠ 13 → q ≠ 14 → q ≠ 53 → q ≠ 54 → rho' q = rho q := fun q h1 h2 h3 h4 h5 => by funext j; exact k1 q j h1 h2 h3 h4 (Or.inl h5)
  refine ⟨a.hs k2, b.hs k2, hg, by rw [k2.1]; exact d, e.hs (Or.inl rfl) b k1 k2, ?_, ?_, ?_, ?_, ?_, ?_⟩
  · exact ⟨by rw [er 0 (by omega) (by omega) (by omega) (by omega) (by omega)]; exact f.1, fun q => (f.2 q).hs (Or.inr rfl) b k1 k2⟩
  · unfold XR
    rw [er 38 (by omega) (by omega) (by omega) (by omega) (by omega), er 39 (by omega) (by omega) (by omega) (by omega) (by omega)]
    exact g
  · unfold XT
    rw [er 29 (by omega) (by omega) (by omega) (by omega) (by omega), er 35 (by omega) (by omega) (by omega) (by omega) (by omega)]
    exact i
  · intro s s0 s1
    rw [er 47 (by omega) (by omega) (by omega) (by omega) (by omega), er 48 (by omega) (by omega) (by omega) (by omega) (by omega), er (43 + s.toNat) (by omega) (by omega) (by omega) (by omega) (by omega)]
    exact j s s0 s1
  · unfold XH
    rw [er 49 (by omega) (by omega) (by omega) (by omega) (by omega), er 50 (by omega) (by omega) (by omega) (by omega) (by omega), er 51 (by omega) (by omega) (by omega) (by omega) (by omega), er 52 (by omega) (by omega) (by omega) (by omega) (by omega)]
    exact k
  · unfold XB
    rw [er 40 (by omega) (by omega) (by omega) (by omega) (by omega), er 41 (by omega) (by omega) (by omega) (by omega) (by omega), k1 54 0 (by omega) (by omega) (by omega) (by omega) (Or.inr (Or.inl rfl)), k1 54 256 (by omega) (by omega) (by omega) (by omega) (Or.inr (Or.inr rfl))]
    exact l
/-- the laws' stacks lie behind the reference's rows -/
theorem hS.hg_ {h h' : gH} (k : hS h h') (hC : OKC h) (hM : OKM 55 h) : hG h h' := by
  refine ⟨⟨[], by rw [k.1]; simp, by simp, by simp⟩, fun q hq => k.2.2 q fun p n e hp => ?_, fun q _ _ => by rw [k.2.1]⟩
  have hp80 : p < 80 := by omega
  by_cases c : p < 55
  · have h1 := hC.1 p c
    rw [hp] at h1
    have : ∀ p : Fin 55, ∀ x, cSh[p.val]? = some x → x.1 ≠ 4 := by decide
    exact this ⟨p, c⟩ _ h1.symm rfl
  · by_cases c2 : p = 55
    · subst c2
      rw [hM.1] at hp
      cases hp
    · have hl : ∃ n, mLn (p - 55) = some n := by
        have : p = 56 ∨ p = 57 ∨ p = 58 ∨ p = 59 ∨ p = 60 ∨ p = 61 ∨ p = 62 ∨ p = 63 ∨ p = 64 ∨ p = 65 ∨ p = 66 ∨ p = 67 ∨ p = 68 ∨ p = 69 ∨ p = 70 ∨ p = 71 ∨ p = 72 ∨ p = 73 ∨ p = 74 ∨ p = 75 ∨ p = 76 ∨ p = 77 ∨ p = 78 ∨ p = 79 := by omega
        rcases this with rfl | rfl | rfl | rfl | rfl | rfl | rfl | rfl | rfl | rfl | rfl | rfl | rfl | rfl | rfl | rfl | rfl | rfl | rfl | rfl | rfl | rfl | rfl | rfl <;> exact ⟨_, rfl⟩
      obtain ⟨n', hn'⟩ := hl
      have := hM.2.1 _ _ hn'
      have e2 : 55 + (p - 55) = p := by omega
      rw [e2, hp] at this
      cases this

/-! ===== a call on both: read, a right text ===== -/
section READG
variable {rho : Nat → Int → Int} {h : gH} {v n nc : Int}
/-- what the new law's cells hold, told by the lines D -/
def LawU (rho U : Nat → Int → Int) (v n nc : Int) (D : Int → Int → Int) : Prop := (U 0 0 = v ∧ U 0 1 = n ∧ U 0 2 = rho 1 0 ∧ U 0 3 = fo (fK D) n.toNat 0 0 ∧ U 0 7 = fo (fO D) n.toNat 90 0) ∧ (∀ k, 0 ≤ k → k < 6 → U 1 k = fo (fT D 0 k) n.toNat 0 0 ∧ U 2 k = fo (fT D 1 k) n.toNat 0 0) ∧ (∀ g p, 0 ≤ g → g ≤ 4 → 0 ≤ p → p ≤ 3 → U 3 (g * 4 + p) = orN (fo (fR D g p) n.toNat (-1) 0)) ∧ (∀ x, 0 ≤ x → x < n → U 5 x = rho 30 x ∧ U 6 x = rho 31 x ∧ U 7 x = rho 32 x ∧ U 9 x = lawSt' D x) ∧ ∀ x, 0 ≤ x → x < nc → U 8 x = rho 33 x
abbrev hLaw (h : gH) (v n nc : Int) (U : Nat → Int → Int) : gH := hPr (nK h (L10 n nc) U (wLaw h.1.length (jkW h))) 6 v.toNat h.1.length
theorem hLaw_inj {U U2 r : Nat → Int → Int} (hl : 84 ≤ h.1.length) (e : cK r (hLaw h v n nc U) = cK r (hLaw h v n nc U2)) : hLaw h v n nc U = hLaw h v n nc U2 := by
  refine Prod.ext rfl (Prod.ext ?_ rfl)
  funext q j
  by_cases c : q < 55
  · show (if q < h.1.length then h.2.1 q j else _) = (if q < h.1.length then h.2.1 q j else _)
    rw [if_pos (by omega), if_pos (by omega)]
  · have := congrFun (congrFun (congrArg (fun z : gH => z.2.1) e) q) j
    have e2 : (if q < 55 then iI (r q j) else (hLaw h v n nc U).2.1 q j) = (if q < 55 then iI (r q j) else (hLaw h v n nc U2).2.1 q j) := this
    rw [if_neg c, if_neg c] at e2
    exact e2
theorem C_addLawU (hC : OKC h) (hl : 84 ≤ h.1.length) (hg : okG rho) (e1 : rho 29 1 = n) (e2 : rho 29 2 = nc) (hn : 0 ≤ n ∧ n ≤ 12) (hc : 0 ≤ nc ∧ nc ≤ 250) (e8 : rho 1 8 = v) (hv : 0 ≤ v ∧ v < 6) {D0 : Int → Int → Int} (hD0 : DL rho D0 n) : ∃ h', m1_addLaw 1 29 (cK rho h) = some (iI v, cK (s3 rho 1 8 (v + 1)) h') ∧ ∀ D, DL rho D n → ∃ U, h' = hLaw h v n nc U ∧ LawU rho U v n nc D := by
  obtain ⟨U0, a, _⟩ := C_addLaw hC hl hg e1 e2 hn hc e8 hv hD0
  refine ⟨_, a, fun D hD => ?_⟩
  obtain ⟨U, b, f⟩ := C_addLaw hC hl hg e1 e2 hn hc e8 hv hD
  have e := Option.some.inj (a.symm.trans b)
  exact ⟨U, hLaw_inj hl (Prod.mk.inj e).2, f⟩
theorem fo_cg {A : Type} {f g : A → Int → A} : ∀ (m : Nat) (a : A) (i : Int), (∀ a j, i ≤ j → j < i + m → f a j = g a j) → fo f m a i = fo g m a i
  | 0, _, _, _ => rfl
  | m + 1, a, i, H => by
    rw [fo, fo, H a i (by omega) (by omega), fo_cg m _ (i + 1) (fun a j h0 h1 => H a j (by omega) (by omega))]
/-- the new law is what the reference's numbers say -/
theorem law_new {sg : Nat → Int → Int} {U : Nat → Int → Int} {D : Int → Int → Int} (hl : 84 ≤ h.1.length) (hv : 0 ≤ v ∧ v < 6) (hn : 0 ≤ n ∧ n ≤ 12) (hc : 0 ≤ nc ∧ nc ≤ 250) (LU : LawU rho U v n nc D) (td : rho 1 0 = sg 5 (2 * v + 1)) (s5 : sg 5 (2 * v) = n) (sD : ∀ l w, 0 ≤ l → l < n → 0 ≤ w → w < 7 → sLine sg v l w = D l w) (r30 : ∀ l, 0 ≤ l → l < n → rho 30 l = D l 0) (cond : ∀ l, 0 ≤ l → l < n → 4 ≤ D l 0 → D l 0 ≤ 6 → 0 ≤ rho 31 l ∧ rho 31 l ≤ rho 32 l ∧ rho 32 l ≤ nc ∧ (∀ j, rho 31 l ≤ j → j < rho 32 l → okCode (rho 33 j)) ∧ ∀ e, EnvOK e → xMs e ((rowL (rho 33) (rho 32 l - rho 31 l).toNat (rho 31 l)).map ct) [] = xMs e (sSigns sg v l) []) : isLawO sg (hLaw h v n nc U) h.1.length v := by
  obtain ⟨⟨u0, u1, u2', u3, u7⟩, t1, t3, t5, t8⟩ := LU
  have ints : ∀ i j : Nat, (hLaw h v n nc U).2.1 (h.1.length + i) j = iI (U i j) := fun i j => by
    show (if h.1.length + i < h.1.length then _ else iI (U (h.1.length + i - h.1.length) j)) = _
    rw [if_neg (by omega), Nat.add_sub_cancel_left]
  have refs : ∀ j : Nat, (hLaw h v n nc U).2.2 h.1.length j = wLaw h.1.length (jkW h) 0 j := fun j => by
    show (if h.1.length = 6 ∧ j = v.toNat then _ else if h.1.length < h.1.length then _ else wLaw h.1.length (jkW h) (h.1.length - h.1.length) j) = _
    rw [if_neg (by omega), if_neg (by omega), Nat.sub_self]
  have cells : ∀ i, i < 10 → (hLaw h v n nc U).1[h.1.length + i]? = some ((L10 n nc).getD i (0, 0)) := fun i hi => nK_at (U := U) (w := wLaw h.1.length (jkW h)) hi
  have i0 : ∀ j : Nat, (hLaw h v n nc U).2.1 h.1.length j = iI (U 0 j) := fun j => ints 0 j
  have en : n.toNat = (sg 5 (2 * v)).toNat := by rw [s5]
  have jn : ∀ x : Int, 0 ≤ x → ((x.toNat : Nat) : Int) = x := fun x hx => by omega
  have sT : ∀ s k, fo (fT D s k) n.toNat 0 0 = sTold sg v s k := fun s k => by
    unfold sTold
    rw [← en]
    refine fo_cg _ _ _ (fun a j j0 j1 => ?_)
    unfold fT
    rw [sD j 0 (by omega) (by omega) (by omega) (by omega), sD j 1 (by omega) (by omega) (by omega) (by omega), sD j 2 (by omega) (by omega) (by omega) (by omega)]
  have sR : ∀ g p, fo (fR D g p) n.toNat (-1) 0 = sRange sg v g p := fun g p => by
    unfold sRange
    rw [← en]
    refine fo_cg _ _ _ (fun a j j0 j1 => ?_)
    unfold fR
    rw [sD j 0 (by omega) (by omega) (by omega) (by omega), sD j 1 (by omega) (by omega) (by omega) (by omega), sD j 2 (by omega) (by omega) (by omega) (by omega), sD j 3 (by omega) (by omega) (by omega) (by omega), sD j 4 (by omega) (by omega) (by omega) (by omega)]
  have sO : fo (fO D) n.toNat 90 0 = sOld sg v := by
    unfold sOld
    rw [← en]
    refine fo_cg _ _ _ (fun a j j0 j1 => ?_)
    unfold fO
    rw [sD j 0 (by omega) (by omega) (by omega) (by omega), sD j 1 (by omega) (by omega) (by omega) (by omega)]
  have sB : fo (fK D) n.toNat 0 0 = b2 (sBack sg v) := by
    rw [← fo_back sg v, ← en]
    refine fo_cg _ _ _ (fun a j j0 j1 => ?_)
    unfold fK
    rw [sD j 0 (by omega) (by omega) (by omega) (by omega)]
  refine ⟨⟨hl, cells 0 (by omega), ?_, ?_, ?_, ?_, ?_⟩, ⟨refs 5, refs 6, refs 8, refs 13, refs 4, refs 10, refs 11, refs 12, refs 9⟩, ⟨cells 1 (by omega), cells 2 (by omega), cells 3 (by omega), cells 4 (by omega)⟩, fun i h0 h1 => ?_, fun g o g0 g1 o0 o1 => ?_, nc.toNat, by omega, fun i hi => ?_, cells 8 (by omega), rho 31, rho 32, rho 33, fun l l0 l1 => ⟨?_, ?_, ?_, ?_, fun q4 q6 => ?_⟩, fun j j0 j1 => ?_⟩
  · rw [i0]; exact congrArg iI u0
  · rw [i0, s5]; exact congrArg iI u1
  · rw [i0, ← td]; exact congrArg iI u2'
  · rw [i0, ← sB]; exact congrArg iI u3
  · rw [i0, ← sO]; exact congrArg iI u7
  · rw [ints 1, ints 2, jn i h0, (t1 i h0 h1).1, (t1 i h0 h1).2, sT, sT]
    exact ⟨rfl, rfl⟩
  · rw [ints 3, jn _ (by omega), t3 g o g0 g1 o0 o1, sR]
  · rw [← en]
    rcases hi with rfl | rfl | rfl | rfl
    · exact cells 5 (by omega)
    · exact cells 6 (by omega)
    · exact cells 7 (by omega)
    · exact cells 9 (by omega)
  · rw [ints 5, jn l l0, (t5 l l0 (by omega)).1, r30 l l0 (by omega), sD l 0 l0 (by omega) (by omega) (by omega)]
  · rw [ints 6, jn l l0, (t5 l l0 (by omega)).2.1]
  · rw [ints 7, jn l l0, (t5 l l0 (by omega)).2.2.1]
  · rw [ints 9, jn l l0, (t5 l l0 (by omega)).2.2.2]
    unfold lawSt' lawSt
    rw [sD l 0 l0 (by omega) (by omega) (by omega), sD l 1 l0 (by omega) (by omega) (by omega)]
  · rw [sD l 0 l0 (by omega) (by omega) (by omega)] at q4 q6
    obtain ⟨y1, y2, y3, y4, y5⟩ := cond l l0 (by omega) q4 q6
    exact ⟨y1, y2, by omega, y4, y5⟩
  · rw [ints 8, jn j j0, t8 j j0 (by omega)]
end READG

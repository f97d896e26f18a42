/-! ===== what a text's lines give ===== -/
section LAWOF
variable {c : Int → Int} {N : Int} {t : Int → Int} {b rho : Nat → Int → Int} {ks : List Int}
theorem DL_of (H : LFs c t ks 0 0) (K : LFcs c b ks 0 0) (r30 : rho 30 = b 30) (r34 : rho 34 = b 34) : DL rho (fun l w => t (7 * l + w)) ks.length := by
  intro l h0 h1
  obtain ⟨as, k, bs, _, lr, lf, lc⟩ := lines_at ks 0 0 0 H K l h0 (by omega)
  obtain ⟨u1, u2, u3, u4, u5, u6, u7⟩ := lr
  obtain ⟨f0, f5, f6, f1, f2, f3, f4⟩ := lf
  obtain ⟨g0, g5, g6, g1, g2, g3, g4⟩ := lc
  dsimp only
  rw [Int.add_zero, r30, r34, f0, g0]
  refine ⟨⟨by omega, by omega⟩, rfl, fun q => ?_, fun q => ?_, fun q => ?_, fun q => ?_⟩
  · obtain ⟨a1, a2⟩ := f1 (by omega)
    obtain ⟨b1, b2⟩ := g1 (by omega)
    have := u2 (by omega)
    rw [a1, a2, b1, b2]
    exact ⟨rfl, rfl, by omega, by omega⟩
  · have a1 := f2 (by omega)
    have b1 := g2 (by omega)
    have := u3 (by omega)
    rw [a1, b1]
    exact ⟨rfl, by omega⟩
  · obtain ⟨a1, a2, a3, a4⟩ := f3 (by omega)
    obtain ⟨b1, b2, b3, b4⟩ := g3 (by omega)
    have := u4 (by omega)
    rw [a1, a2, a3, a4, b1, b2, b3, b4]
    exact ⟨rfl, rfl, rfl, rfl, by omega, by omega, by omega, by omega⟩
  · have a1 := f4 (by omega)
    have b1 := g4 (by omega)
    have := u5 (by omega)
    rw [a1, b1]
    exact ⟨rfl, by omega⟩
theorem sl_S {sn : Int → Int} {as bs : List Int} {k : Int} (e : ks = as ++ k :: bs) (hs : ∀ j : Int, 0 ≤ j → j < ((lnS c ks).length : Int) → sn j = (lnS c ks).getD j.toNat 0) : rowL sn (((condX c k).2.2.1.length : Nat) : Int).toNat (0 + ((lnS c as).length : Int)) = (condX c k).2.2.1 ∧ ((lnS c as).length : Int) + (condX c k).2.2.1.length ≤ (lnS c ks).length := by
  have el : (lnS c ks).length = (lnS c as).length + ((condX c k).2.2.1.length + (lnS c bs).length) := by
    rw [e, lnS_app, List.length_append, List.length_append]
  refine ⟨?_, by omega⟩
  rw [Int.toNat_natCast]
  refine rowL_of _ _ (fun j hj => ?_)
  rw [hs _ (by omega) (by omega), show (0 + ((lnS c as).length : Int) + (j : Int)).toNat = (lnS c as).length + j by omega, e, lnS_app]
  exact getD_mid _ _ _ hj
theorem sl_C {sn : Int → Int} {as bs : List Int} {k : Int} (e : ks = as ++ k :: bs) (hs : ∀ j : Int, 0 ≤ j → j < ((lnC c ks).length : Int) → sn j = (lnC c ks).getD j.toNat 0) : rowL sn (condX c k).2.2.2.length (0 + ((lnC c as).length : Int)) = (condX c k).2.2.2 ∧ ((lnC c as).length : Int) + (condX c k).2.2.2.length ≤ (lnC c ks).length := by
  have el : (lnC c ks).length = (lnC c as).length + ((condX c k).2.2.2.length + (lnC c bs).length) := by
    rw [e, lnC_app, List.length_append, List.length_append]
  refine ⟨?_, by omega⟩
  refine rowL_of _ _ (fun j hj => ?_)
  rw [hs _ (by omega) (by omega), show (0 + ((lnC c as).length : Int) + (j : Int)).toNat = (lnC c as).length + j by omega, e, lnC_app]
  exact getD_mid _ _ _ hj
theorem WLn_of (hN : CN c N) (hk : ∀ x, x ∈ ks → 0 ≤ x) (H : LFs c t ks 0 0) (K : LFcs c b ks 0 0) {sn : Int → Int} (hs : ∀ j : Int, 0 ≤ j → j < ((lnS c ks).length : Int) → sn j = (lnS c ks).getD j.toNat 0) (hl : ((lnS c ks).length : Int) ≤ 255) {l : Int} (h0 : 0 ≤ l) (h1 : l < ks.length) : WLn (fun w => t (7 * l + w)) sn := by
  obtain ⟨as, k, bs, e, lr, lf, lc⟩ := lines_at ks 0 0 0 H K l h0 (by omega)
  have k0 := hk k (by rw [e]; simp)
  have lr' := lr
  obtain ⟨u1, u2, u3, u4, u5, u6, u7⟩ := lr'
  obtain ⟨f0, f5, f6, f1, f2, f3, f4⟩ := lf
  obtain ⟨s1, s2⟩ := sl_S e hs
  unfold WLn
  dsimp only
  rw [Int.add_zero, f0]
  refine ⟨by omega, by omega, fun q => ?_, fun q => ?_, fun q => ?_, fun q => ?_, fun q r => ?_⟩
  · obtain ⟨a1, a2⟩ := f1 (by omega)
    have := u2 (by omega)
    rw [a1, a2]
    omega
  · have a1 := f2 (by omega)
    have := u3 (by omega)
    rw [a1]
    omega
  · obtain ⟨a1, a2, a3, a4⟩ := f3 (by omega)
    have := u4 (by omega)
    rw [a1, a2, a3, a4]
    omega
  · have a1 := f4 (by omega)
    have := u5 (by omega)
    rw [a1]
    omega
  · rw [f5, f6]
    refine ⟨by omega, by omega, by omega, ?_⟩
    rw [s1]
    obtain ⟨c1, c2, c3⟩ := cond_sem hN k0 lr (by omega) (by omega)
    exact ⟨c1, fun e' he => by
      obtain ⟨v, v1, v2, v3⟩ := c3 e' he
      exact ⟨v, v1, v2⟩⟩
theorem code_of (hN : CN c N) (hk : ∀ x, x ∈ ks → 0 ≤ x) (H : LFs c t ks 0 0) (K : LFcs c b ks 0 0) {sn cc : Int → Int} (hs : ∀ j : Int, 0 ≤ j → j < ((lnS c ks).length : Int) → sn j = (lnS c ks).getD j.toNat 0) (hcc : ∀ j : Int, 0 ≤ j → j < ((lnC c ks).length : Int) → cc j = (lnC c ks).getD j.toNat 0) {l : Int} (h0 : 0 ≤ l) (h1 : l < ks.length) (q4 : 4 ≤ t (7 * l)) (q6 : t (7 * l) ≤ 6) : 0 ≤ b 31 l ∧ b 31 l ≤ b 32 l ∧ b 32 l ≤ (lnC c ks).length ∧ (∀ j, b 31 l ≤ j → j < b 32 l → okCode (cc j)) ∧ ∀ e, EnvOK e → xMs e ((rowL cc (b 32 l - b 31 l).toNat (b 31 l)).map ct) [] = xMs e (rowL sn (t (7 * l + 6)).toNat (t (7 * l + 5))) [] := by
  obtain ⟨as, k, bs, e, lr, lf, lc⟩ := lines_at ks 0 0 0 H K l h0 (by omega)
  have k0 := hk k (by rw [e]; simp)
  obtain ⟨f0, f5, f6, f1, f2, f3, f4⟩ := lf
  obtain ⟨g0, g5, g6, g1, g2, g3, g4⟩ := lc
  obtain ⟨s1, s2⟩ := sl_S e hs
  obtain ⟨s3', s4⟩ := sl_C e hcc
  obtain ⟨c1, c2, c3⟩ := cond_sem hN k0 lr (by omega) (by omega)
  rw [f5, f6, g5, g6, s1]
  have er : (0 + ((lnC c as).length : Int) + ((condX c k).2.2.2.length : Int) - (0 + ((lnC c as).length : Int))).toNat = (condX c k).2.2.2.length := by omega
  rw [er, s3']
  refine ⟨by omega, by omega, by omega, fun j j0 j1 => ?_, fun e' he => ?_⟩
  · refine c2 _ ?_
    have := rowL_in cc (condX c k).2.2.2.length (0 + ((lnC c as).length : Int)) j j0 (by omega)
    rw [s3'] at this
    exact this
  · obtain ⟨v, v1, v2, v3⟩ := c3 e' he
    rw [v2, v3]
end LAWOF

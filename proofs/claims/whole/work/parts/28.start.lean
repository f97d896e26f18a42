/-! ===== the law from its entry, out of what the Statement gives ===== -/
theorem lw_in {w : Cond} {i : Nat} (h : tables_1[i]? = some w) : w ∈ lw_tbl := List.mem_append_right _ (List.mem_of_getElem? h)
def gStr : Term := .string "PenaltyGrid$LawReader" 78
abbrev gGv : Cond := Jvm.Cond.and given_1 narrow_1
theorem gGv_bytes : ∀ j, j < 107 → Cond.eq (.elem (.field gStr "java/lang/String" "value" "[B") (.int (Int32.ofNat j))) (.int (gWb.getD j 0)) ∈ flatC gGv := by decide +kernel
theorem gGv_noc : ∀ q ∈ gNoc, Cond.not (.castable q.1 q.2) ∈ flatC gGv := by decide +kernel
theorem gGv_exact : Cond.exactly gStr "java/lang/String" ∈ flatC gGv := by decide +kernel
theorem gGv_coder : Cond.eq (.field gStr "java/lang/String" "coder" "B") (.int 0) ∈ flatC gGv := by decide +kernel
theorem gGv_arr : Cond.arrayOf (.field gStr "java/lang/String" "value" "[B") .byte ∈ flatC gGv := by decide +kernel
theorem gGv_len : Cond.eq (.length (.field gStr "java/lang/String" "value" "[B")) (.int 107) ∈ flatC gGv := by decide +kernel
theorem gGv_comp : Cond.eq (.static "java/lang/String" "COMPACT_STRINGS" "Z") (.int 1) ∈ flatC gGv := by decide +kernel
theorem gGv_form : Cond.isRef (.static "jdk/internal/util/Preconditions" "SIOOBE_FORMATTER" "Ljava/util/function/BiFunction;") ∈ flatC gGv := by decide +kernel
theorem gStart_D {s : State} {args : Array Value} (hts : ∀ w ∈ gT, w.before args s = true) : ∃ D : va_G, ∀ (k : Nat) (q : vw_C), vwCl[k]? = some q → u_Kn s q.1 q.2.1 q.2.2 (D.1 k) (D.2 k) := by
  have h0 : ∀ k : Nat, ∃ z : ClassId × (Nat → Nat), ∀ q, vwCl[k]? = some q → u_Kn s q.1 q.2.1 q.2.2 z.1 z.2 := by
    have one : ∀ {t N : Nat} {C : String} {T : u_T}, gCls t C T N → Cond.instantiable C N ∈ gT → ∃ z : ClassId × (Nat → Nat), ∀ q, vwCl[t]? = some q → u_Kn s q.1 q.2.1 q.2.2 z.1 z.2 := by
      intro t N C T hC hi
      obtain ⟨cC, iS, h⟩ := u_known (C := C) (T := T) (N := N) hts hC.2.1 (hts _ hi)
      refine ⟨(cC, iS), fun q hq => ?_⟩
      cases hC.1.symm.trans hq
      exact h
    intro k
    match k with
    | 0 => exact one cls_0 wis_X0
    | 1 => exact one cls_1 wis_X1
    | 2 => exact one cls_2 wis_X2
    | 3 => exact one cls_3 wis_X3
    | 4 => exact one cls_4 wis_X4
    | 5 => exact one cls_5 wis_X5
    | 6 => exact one cls_6 wis_X7
    | 7 => exact one cls_7 wis_X8
    | 8 => exact one cls_8 wis_X9
    | 9 => exact one cls_9 wis_X10
    | 10 => exact one cls_10 wis_X11
    | 11 => exact one cls_11 wis_X12
    | k + 12 => exact ⟨(0, fun _ => 0), fun q hq => by simp [vwCl] at hq⟩
  obtain ⟨F, hF⟩ := Classical.axiomOfChoice h0
  exact ⟨(fun k => (F k).1, fun k => (F k).2), fun k q hq => hF k q hq⟩
theorem gStart_A {s : State} {args : Array Value} (hts : ∀ w ∈ lw_tbl, w.before args s = true) : ∃ dA : Nat → ClassId, ∀ (k : Nat) (q : ClassId × FieldType), (gTys dA)[k]? = some q → ArrOfT s q.1 q.2 ∧ va_RA s q.1 q.2 := by
  have pr : ∀ {ty : FieldType}, (Cond.arrayClass ty).before args s = true → ∃ cA, ArrOfT s cA ty ∧ s.vm.findClass ("[" ++ ty.toString) = some cA := by
    intro ty h
    obtain ⟨c, k, comp, h1, h2, h3⟩ := Cond.arrayClass_spec h
    exact ⟨c, fun n z => ⟨fun k h => (by cases h), k, h2, comp, h3⟩, h1⟩
  have ob : ∀ {C : String}, (Cond.arrayOver (.object C)).before args s = true → ∃ cA, ArrOfT s cA (.object C) ∧ va_RA s cA (.object C) := by
    intro C h
    obtain ⟨comp, c, k, h1, -, h3, h4, h5⟩ := Cond.arrayOver_spec h
    exact ⟨c, fun n z => ⟨fun k h => (by cases h), k, h3, comp, h4⟩, k, comp, h3, h4, h1, h5⟩
  have ar : ∀ {t : FieldType}, (Cond.arrayOver (.array t)).before args s = true → ∃ cA, ArrOfT s cA (.array t) ∧ va_RA s cA (.array t) := by
    intro t h
    obtain ⟨comp, c, k, h1, -, h3, h4, h5⟩ := arrayOverA_spec h
    exact ⟨c, fun n z => ⟨fun k h => (by cases h), k, h3, comp, h4⟩, h5⟩
  obtain ⟨a0, p0, q0⟩ := pr (hts (.arrayClass .int) (lw_in (i := 59) (by decide +kernel)))
  obtain ⟨a1, p1, q1⟩ := pr (hts (.arrayClass .byte) (lw_in (i := 184) (by decide +kernel)))
  obtain ⟨a2, p2, q2⟩ := ob (hts (.arrayOver (.object "PenaltyGrid$Deed")) (lw_in (i := 37) (by decide +kernel)))
  obtain ⟨a3, p3, q3⟩ := ob (hts (.arrayOver (.object "PenaltyGrid$Finding")) (lw_in (i := 39) (by decide +kernel)))
  obtain ⟨a4, p4, q4⟩ := ob (hts (.arrayOver (.object "PenaltyGrid$Law")) (lw_in (i := 41) (by decide +kernel)))
  obtain ⟨a5, p5, q5⟩ := ob (hts (.arrayOver (.object "PenaltyGrid$Term")) (lw_in (i := 43) (by decide +kernel)))
  obtain ⟨a6, p6, q6⟩ := ar (hts (.arrayOver (.array .int)) (lw_in (i := 208) (by decide +kernel)))
  refine ⟨fun k => match k with | 100 => a0 | 101 => a1 | 102 => a2 | 103 => a3 | 104 => a4 | 105 => a5 | _ => a6, fun k q hq => ?_⟩
  match k, hq with
  | 0, hq => cases hq; exact ⟨p0, q0⟩
  | 1, hq => cases hq; exact ⟨p1, q1⟩
  | 2, hq => cases hq; exact ⟨p2, q2⟩
  | 3, hq => cases hq; exact ⟨p3, q3⟩
  | 4, hq => cases hq; exact ⟨p4, q4⟩
  | 5, hq => cases hq; exact ⟨p5, q5⟩
  | 6, hq => cases hq; exact ⟨p6, q6⟩
  | k + 7, hq => simp [gTys] at hq
theorem gStart_S {s : State} {b L : Nat} {xs : Nat → Int32} (hts : ∀ w ∈ lw_tbl, w.before #[Value.ref b] s = true) (hgv : gGv.before #[Value.ref b] s = true) (hX : va_X b L xs s s.heap) : ∃ ad : Nat → Nat, ad 0 = b ∧ gSpK s.heap.size (ad, L, xs) s.heap s := by
  have hg := flat_of_before _ hgv
  have hA : ∀ a : Nat, a < s.heap.size → ¬ (fun q => s.heap.size ≤ q) a := fun a h q => absurd h (Nat.not_lt.mpr q)
  obtain ⟨adK, adV, hS, hE⟩ := vk_Sof (args := #[Value.ref b]) (s := s) (N := 1) (tm := fun _ => gStr) (len := [107]) (byt := [gWb]) (A := fun q => s.heap.size ≤ q)
    (fun i hi => by rw [show i = 0 by omega]; decide) (fun i hi => hg _ gGv_exact) (fun i hi => hg _ gGv_coder) (fun i hi => hg _ gGv_arr)
    (fun i hi => by rw [show i = 0 by omega]; exact hg _ gGv_len) (fun i hi j hj => by
      rw [show i = 0 by omega] at hj ⊢
      exact hg _ (gGv_bytes j hj)) (fun i j hi hj hne => absurd (by omega) hne) hA
  have hZq := va_Zqof (args := #[Value.ref b]) (A := fun q => s.heap.size ≤ q) (hts _ (lw_in (i := 467) (by decide +kernel))) (hts _ (lw_in (i := 14) (by decide +kernel))) (hg _ gGv_form) hA
  have hZ : ∃ t : Nat, va_Z "jdk/internal/util/Preconditions" "SIOOBE_FORMATTER" "Ljava/util/function/BiFunction;" .null (fun q => s.heap.size ≤ q) s s.heap ∨ va_Z "jdk/internal/util/Preconditions" "SIOOBE_FORMATTER" "Ljava/util/function/BiFunction;" (.ref t) (fun q => s.heap.size ≤ q) s s.heap := by
    rcases hZq with h | ⟨t, h⟩
    · exact ⟨0, Or.inl h⟩
    · exact ⟨t, Or.inr h⟩
  obtain ⟨t3, hZ⟩ := hZ
  refine ⟨fun k => match k with | 0 => b | 1 => adK 0 | 2 => adV 0 | _ => t3, rfl, ?_⟩
  refine ⟨?_, ?_, ?_, ?_, ?_, ?_, ?_, ?_, ?_, ?_, hX, ?_⟩
  · intro w hw
    simp only [gNest, List.mem_cons, List.not_mem_nil, or_false] at hw
    rcases hw with rfl | rfl | rfl | rfl | rfl
    · exact va_Nw.of rfl (hts _ (lw_in (i := 32) (by decide +kernel)))
    · exact va_Nw.of rfl (hts _ (lw_in (i := 46) (by decide +kernel)))
    · exact va_Nw.of rfl (hts _ (lw_in (i := 133) (by decide +kernel)))
    · exact va_Nw.of rfl (hts _ (lw_in (i := 186) (by decide +kernel)))
    · exact va_Nw.of rfl (hts _ (lw_in (i := 189) (by decide +kernel)))
  · intro C hC
    simp only [List.mem_cons, List.not_mem_nil, or_false] at hC
    rcases hC with rfl | rfl | rfl | rfl
    · exact va_AO.of (hts _ (lw_in (i := 37) (by decide +kernel)))
    · exact va_AO.of (hts _ (lw_in (i := 39) (by decide +kernel)))
    · exact va_AO.of (hts _ (lw_in (i := 41) (by decide +kernel)))
    · exact va_AO.of (hts _ (lw_in (i := 43) (by decide +kernel)))
  · exact hts (.arrayOver (.array .int)) (lw_in (i := 208) (by decide +kernel))
  · exact va_Nw.of rfl (hts _ (lw_in (i := 1733) (by decide +kernel)))
  · exact va_Nw.of rfl (hts _ (lw_in (i := 1734) (by decide +kernel)))
  · exact va_Nw.of rfl (hts _ (lw_in (i := 557) (by decide +kernel)))
  · exact vk_R.of (A := #[Value.ref b]) (hts _ (lw_in (i := 441) (by decide +kernel))) (hE 0 (by omega))
  · exact ⟨fun i hi => by rw [show i = 0 by omega]; exact hS.1 0 (by omega), fun i j hi hj _ => by omega⟩
  · exact va_Zof (args := #[Value.ref b]) (hts _ (lw_in (i := 451) (by decide +kernel))) (hts _ (lw_in (i := 12) (by decide +kernel))) (va_eqi (hg _ gGv_comp)) hA
  · exact hZ
  · intro q hq
    exact va_Nc.of (args := #[Value.ref b]) (hg _ (gGv_noc q hq))
/-- the heap of the law's start -/
def gH0 : gH := ([], fun _ _ => 0, fun _ _ => none)

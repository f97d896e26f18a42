theorem wim_obj : Cond.instanceMethod objectInit ∈ gT := gT_c1 (i := 28) (by decide +kernel) rfl
theorem wco_obj : Cond.code objectInit ⟨#[0xb1]⟩ 1 none ∈ gT := gT_c1 (i := 29) (by decide +kernel) rfl
theorem wly_X12_0 : u_lay RX12 TX12 0 ∈ gT := gT_c5 (i := 191) (by decide +kernel) rfl
theorem wly_X12_1 : u_lay RX12 TX12 1 ∈ gT := gT_c5 (i := 193) (by decide +kernel) rfl
theorem wly_X12_2 : u_lay RX12 TX12 2 ∈ gT := gT_c5 (i := 195) (by decide +kernel) rfl
theorem wly_X12_3 : u_lay RX12 TX12 3 ∈ gT := gT_c5 (i := 197) (by decide +kernel) rfl
theorem wly_X12_4 : u_lay RX12 TX12 4 ∈ gT := gT_c5 (i := 199) (by decide +kernel) rfl
theorem wly_X12_5 : u_lay RX12 TX12 5 ∈ gT := gT_c5 (i := 201) (by decide +kernel) rfl
theorem wly_X12_6 : u_lay RX12 TX12 6 ∈ gT := gT_c5 (i := 203) (by decide +kernel) rfl
theorem wly_X12_7 : u_lay RX12 TX12 7 ∈ gT := gT_c5 (i := 205) (by decide +kernel) rfl
theorem wly_X12_8 : u_lay RX12 TX12 8 ∈ gT := gT_c5 (i := 207) (by decide +kernel) rfl
theorem wly_X12_9 : u_lay RX12 TX12 9 ∈ gT := gT_c5 (i := 209) (by decide +kernel) rfl
theorem wly_X12_10 : u_lay RX12 TX12 10 ∈ gT := gT_c5 (i := 211) (by decide +kernel) rfl
theorem wly_X12_11 : u_lay RX12 TX12 11 ∈ gT := gT_c5 (i := 213) (by decide +kernel) rfl
theorem wly_X12_12 : u_lay RX12 TX12 12 ∈ gT := gT_c5 (i := 215) (by decide +kernel) rfl
theorem wly_X12_13 : u_lay RX12 TX12 13 ∈ gT := gT_c5 (i := 217) (by decide +kernel) rfl
theorem wly_X12_14 : u_lay RX12 TX12 14 ∈ gT := gT_c5 (i := 219) (by decide +kernel) rfl
theorem wly_X12_15 : u_lay RX12 TX12 15 ∈ gT := gT_c5 (i := 221) (by decide +kernel) rfl
theorem wly_X12_16 : u_lay RX12 TX12 16 ∈ gT := gT_c5 (i := 223) (by decide +kernel) rfl
theorem wly_X12_17 : u_lay RX12 TX12 17 ∈ gT := gT_c5 (i := 225) (by decide +kernel) rfl
theorem wly_X12_18 : u_lay RX12 TX12 18 ∈ gT := gT_c5 (i := 227) (by decide +kernel) rfl
theorem wly_X12_19 : u_lay RX12 TX12 19 ∈ gT := gT_c5 (i := 229) (by decide +kernel) rfl
theorem wly_X12_20 : u_lay RX12 TX12 20 ∈ gT := gT_c5 (i := 231) (by decide +kernel) rfl
theorem wly_X12_21 : u_lay RX12 TX12 21 ∈ gT := gT_c5 (i := 233) (by decide +kernel) rfl
theorem wly_X12_22 : u_lay RX12 TX12 22 ∈ gT := gT_c5 (i := 235) (by decide +kernel) rfl
theorem wly_X12_23 : u_lay RX12 TX12 23 ∈ gT := gT_c5 (i := 237) (by decide +kernel) rfl
theorem wly_X12_24 : u_lay RX12 TX12 24 ∈ gT := gT_c5 (i := 239) (by decide +kernel) rfl
theorem wly_X12_25 : u_lay RX12 TX12 25 ∈ gT := gT_c6 (i := 1) (by decide +kernel) rfl
theorem wly_X12_26 : u_lay RX12 TX12 26 ∈ gT := gT_c6 (i := 3) (by decide +kernel) rfl
theorem wly_X12_27 : u_lay RX12 TX12 27 ∈ gT := gT_c6 (i := 5) (by decide +kernel) rfl
theorem wly_X12_28 : u_lay RX12 TX12 28 ∈ gT := gT_c6 (i := 7) (by decide +kernel) rfl
theorem wly_X12_29 : u_lay RX12 TX12 29 ∈ gT := gT_c6 (i := 9) (by decide +kernel) rfl
theorem wly_X12_30 : u_lay RX12 TX12 30 ∈ gT := gT_c6 (i := 11) (by decide +kernel) rfl
theorem wly_X12_31 : u_lay RX12 TX12 31 ∈ gT := gT_c6 (i := 13) (by decide +kernel) rfl
theorem wly_X12_32 : u_lay RX12 TX12 32 ∈ gT := gT_c6 (i := 15) (by decide +kernel) rfl
theorem wly_X12_33 : u_lay RX12 TX12 33 ∈ gT := gT_c6 (i := 17) (by decide +kernel) rfl
theorem wly_X12_34 : u_lay RX12 TX12 34 ∈ gT := gT_c6 (i := 19) (by decide +kernel) rfl
theorem wly_X12_35 : u_lay RX12 TX12 35 ∈ gT := gT_c6 (i := 21) (by decide +kernel) rfl
theorem wly_X12_36 : u_lay RX12 TX12 36 ∈ gT := gT_c6 (i := 23) (by decide +kernel) rfl
theorem wly_X12_37 : u_lay RX12 TX12 37 ∈ gT := gT_c6 (i := 25) (by decide +kernel) rfl
theorem wly_X12_38 : u_lay RX12 TX12 38 ∈ gT := gT_c6 (i := 27) (by decide +kernel) rfl
theorem wly_X12_39 : u_lay RX12 TX12 39 ∈ gT := gT_c6 (i := 29) (by decide +kernel) rfl
theorem wly_X12_40 : u_lay RX12 TX12 40 ∈ gT := gT_c6 (i := 31) (by decide +kernel) rfl
theorem wly_X12_41 : u_lay RX12 TX12 41 ∈ gT := gT_c6 (i := 33) (by decide +kernel) rfl
theorem wly_X12_42 : u_lay RX12 TX12 42 ∈ gT := gT_c6 (i := 35) (by decide +kernel) rfl
theorem wly_X12_43 : u_lay RX12 TX12 43 ∈ gT := gT_c6 (i := 37) (by decide +kernel) rfl
theorem wly_X12_44 : u_lay RX12 TX12 44 ∈ gT := gT_c6 (i := 39) (by decide +kernel) rfl
theorem wly_X12 : ∀ k, k < 45 → u_lay RX12 TX12 k ∈ gT := fun k hk => match k, hk with
  | 0, _ => wly_X12_0
  | 1, _ => wly_X12_1
  | 2, _ => wly_X12_2
  | 3, _ => wly_X12_3
  | 4, _ => wly_X12_4
  | 5, _ => wly_X12_5
  | 6, _ => wly_X12_6
  | 7, _ => wly_X12_7
  | 8, _ => wly_X12_8
  | 9, _ => wly_X12_9
  | 10, _ => wly_X12_10
  | 11, _ => wly_X12_11
  | 12, _ => wly_X12_12
  | 13, _ => wly_X12_13
  | 14, _ => wly_X12_14
  | 15, _ => wly_X12_15
  | 16, _ => wly_X12_16
  | 17, _ => wly_X12_17
  | 18, _ => wly_X12_18
  | 19, _ => wly_X12_19
  | 20, _ => wly_X12_20
  | 21, _ => wly_X12_21
  | 22, _ => wly_X12_22
  | 23, _ => wly_X12_23
  | 24, _ => wly_X12_24
  | 25, _ => wly_X12_25
  | 26, _ => wly_X12_26
  | 27, _ => wly_X12_27
  | 28, _ => wly_X12_28
  | 29, _ => wly_X12_29
  | 30, _ => wly_X12_30
  | 31, _ => wly_X12_31
  | 32, _ => wly_X12_32
  | 33, _ => wly_X12_33
  | 34, _ => wly_X12_34
  | 35, _ => wly_X12_35
  | 36, _ => wly_X12_36
  | 37, _ => wly_X12_37
  | 38, _ => wly_X12_38
  | 39, _ => wly_X12_39
  | 40, _ => wly_X12_40
  | 41, _ => wly_X12_41
  | 42, _ => wly_X12_42
  | 43, _ => wly_X12_43
  | 44, _ => wly_X12_44
  | k + 45, hk => absurd hk (by omega)
theorem cls_11 : gCls 11 RX12 TX12 45 := ⟨rfl, fun w hw => by
  obtain ⟨k, hk, rfl⟩ := List.mem_map.mp hw
  exact wly_X12 k (List.mem_range.mp hk), tyX12_ok, nmX12, by decide⟩
theorem wfl_X12_7 : Cond.fieldLink RX12 7 "PenaltyGridModel" "numbers" "[I" ∈ gT := gT_c5 (i := 146) (by decide +kernel) rfl
theorem gf_X12_7_11 : gFld RX12 7 11 0 := ⟨RX12, TX12, 45, "PenaltyGridModel", cls_11, by decide, wfl_X12_7, Or.inl rfl, Or.inr ⟨rfl, rfl⟩⟩
theorem gp_X12_7 : ∀ t ∈ [11], gFld RX12 7 t 0 ∧ gIsR (gFt t 0) = true ∧ ("<init>" = "<init>" ∨ ∀ (C : String) (T : u_T) (N : Nat), vwCl[t]? = some (C, T, N) → (T 0).2.2.2 = false) := List.forall_mem_cons.mpr ⟨⟨gf_X12_7_11, rfl, Or.inl rfl⟩, fun _ h => absurd h List.not_mem_nil⟩
theorem wfl_X12_13 : Cond.fieldLink RX12 13 "PenaltyGridModel" "persons" "[I" ∈ gT := gT_c5 (i := 147) (by decide +kernel) rfl
theorem gf_X12_13_11 : gFld RX12 13 11 1 := ⟨RX12, TX12, 45, "PenaltyGridModel", cls_11, by decide, wfl_X12_13, Or.inl rfl, Or.inr ⟨rfl, rfl⟩⟩
theorem gp_X12_13 : ∀ t ∈ [11], gFld RX12 13 t 1 ∧ gIsR (gFt t 1) = true ∧ ("<init>" = "<init>" ∨ ∀ (C : String) (T : u_T) (N : Nat), vwCl[t]? = some (C, T, N) → (T 1).2.2.2 = false) := List.forall_mem_cons.mpr ⟨⟨gf_X12_13_11, rfl, Or.inl rfl⟩, fun _ h => absurd h List.not_mem_nil⟩
theorem wfl_X12_16 : Cond.fieldLink RX12 16 "PenaltyGridModel" "deeds" "[I" ∈ gT := gT_c5 (i := 148) (by decide +kernel) rfl
theorem gf_X12_16_11 : gFld RX12 16 11 2 := ⟨RX12, TX12, 45, "PenaltyGridModel", cls_11, by decide, wfl_X12_16, Or.inl rfl, Or.inr ⟨rfl, rfl⟩⟩
theorem gp_X12_16 : ∀ t ∈ [11], gFld RX12 16 t 2 ∧ gIsR (gFt t 2) = true ∧ ("<init>" = "<init>" ∨ ∀ (C : String) (T : u_T) (N : Nat), vwCl[t]? = some (C, T, N) → (T 2).2.2.2 = false) := List.forall_mem_cons.mpr ⟨⟨gf_X12_16_11, rfl, Or.inl rfl⟩, fun _ h => absurd h List.not_mem_nil⟩
theorem wfl_X12_19 : Cond.fieldLink RX12 19 "PenaltyGridModel" "findings" "[I" ∈ gT := gT_c5 (i := 149) (by decide +kernel) rfl
theorem gf_X12_19_11 : gFld RX12 19 11 3 := ⟨RX12, TX12, 45, "PenaltyGridModel", cls_11, by decide, wfl_X12_19, Or.inl rfl, Or.inr ⟨rfl, rfl⟩⟩
theorem gp_X12_19 : ∀ t ∈ [11], gFld RX12 19 t 3 ∧ gIsR (gFt t 3) = true ∧ ("<init>" = "<init>" ∨ ∀ (C : String) (T : u_T) (N : Nat), vwCl[t]? = some (C, T, N) → (T 3).2.2.2 = false) := List.forall_mem_cons.mpr ⟨⟨gf_X12_19_11, rfl, Or.inl rfl⟩, fun _ h => absurd h List.not_mem_nil⟩
theorem wfl_X12_22 : Cond.fieldLink RX12 22 "PenaltyGridModel" "versions" "[I" ∈ gT := gT_c5 (i := 150) (by decide +kernel) rfl
theorem gf_X12_22_11 : gFld RX12 22 11 4 := ⟨RX12, TX12, 45, "PenaltyGridModel", cls_11, by decide, wfl_X12_22, Or.inl rfl, Or.inr ⟨rfl, rfl⟩⟩
theorem gp_X12_22 : ∀ t ∈ [11], gFld RX12 22 t 4 ∧ gIsR (gFt t 4) = true ∧ ("<init>" = "<init>" ∨ ∀ (C : String) (T : u_T) (N : Nat), vwCl[t]? = some (C, T, N) → (T 4).2.2.2 = false) := List.forall_mem_cons.mpr ⟨⟨gf_X12_22_11, rfl, Or.inl rfl⟩, fun _ h => absurd h List.not_mem_nil⟩
theorem wfl_X12_25 : Cond.fieldLink RX12 25 "PenaltyGridModel" "lines" "[I" ∈ gT := gT_c5 (i := 151) (by decide +kernel) rfl
theorem gf_X12_25_11 : gFld RX12 25 11 5 := ⟨RX12, TX12, 45, "PenaltyGridModel", cls_11, by decide, wfl_X12_25, Or.inl rfl, Or.inr ⟨rfl, rfl⟩⟩
theorem gp_X12_25 : ∀ t ∈ [11], gFld RX12 25 t 5 ∧ gIsR (gFt t 5) = true ∧ ("<init>" = "<init>" ∨ ∀ (C : String) (T : u_T) (N : Nat), vwCl[t]? = some (C, T, N) → (T 5).2.2.2 = false) := List.forall_mem_cons.mpr ⟨⟨gf_X12_25_11, rfl, Or.inl rfl⟩, fun _ h => absurd h List.not_mem_nil⟩
theorem wfl_X12_28 : Cond.fieldLink RX12 28 "PenaltyGridModel" "signs" "[I" ∈ gT := gT_c5 (i := 152) (by decide +kernel) rfl
theorem gf_X12_28_11 : gFld RX12 28 11 6 := ⟨RX12, TX12, 45, "PenaltyGridModel", cls_11, by decide, wfl_X12_28, Or.inl rfl, Or.inr ⟨rfl, rfl⟩⟩
theorem gp_X12_28 : ∀ t ∈ [11], gFld RX12 28 t 6 ∧ gIsR (gFt t 6) = true ∧ ("<init>" = "<init>" ∨ ∀ (C : String) (T : u_T) (N : Nat), vwCl[t]? = some (C, T, N) → (T 6).2.2.2 = false) := List.forall_mem_cons.mpr ⟨⟨gf_X12_28_11, rfl, Or.inl rfl⟩, fun _ h => absurd h List.not_mem_nil⟩
theorem wfl_X12_31 : Cond.fieldLink RX12 31 "PenaltyGridModel" "terms" "[I" ∈ gT := gT_c5 (i := 153) (by decide +kernel) rfl
theorem gf_X12_31_11 : gFld RX12 31 11 7 := ⟨RX12, TX12, 45, "PenaltyGridModel", cls_11, by decide, wfl_X12_31, Or.inl rfl, Or.inr ⟨rfl, rfl⟩⟩
theorem gp_X12_31 : ∀ t ∈ [11], gFld RX12 31 t 7 ∧ gIsR (gFt t 7) = true ∧ ("<init>" = "<init>" ∨ ∀ (C : String) (T : u_T) (N : Nat), vwCl[t]? = some (C, T, N) → (T 7).2.2.2 = false) := List.forall_mem_cons.mpr ⟨⟨gf_X12_31_11, rfl, Or.inl rfl⟩, fun _ h => absurd h List.not_mem_nil⟩
theorem wfl_X12_34 : Cond.fieldLink RX12 34 "PenaltyGridModel" "times" "[I" ∈ gT := gT_c5 (i := 154) (by decide +kernel) rfl
theorem gf_X12_34_11 : gFld RX12 34 11 8 := ⟨RX12, TX12, 45, "PenaltyGridModel", cls_11, by decide, wfl_X12_34, Or.inl rfl, Or.inr ⟨rfl, rfl⟩⟩
theorem gp_X12_34 : ∀ t ∈ [11], gFld RX12 34 t 8 ∧ gIsR (gFt t 8) = true ∧ ("<init>" = "<init>" ∨ ∀ (C : String) (T : u_T) (N : Nat), vwCl[t]? = some (C, T, N) → (T 8).2.2.2 = false) := List.forall_mem_cons.mpr ⟨⟨gf_X12_34_11, rfl, Or.inl rfl⟩, fun _ h => absurd h List.not_mem_nil⟩
theorem wfl_X12_37 : Cond.fieldLink RX12 37 "PenaltyGridModel" "tape" "[I" ∈ gT := gT_c5 (i := 155) (by decide +kernel) rfl
theorem gf_X12_37_11 : gFld RX12 37 11 9 := ⟨RX12, TX12, 45, "PenaltyGridModel", cls_11, by decide, wfl_X12_37, Or.inl rfl, Or.inr ⟨rfl, rfl⟩⟩
theorem gp_X12_37 : ∀ t ∈ [11], gFld RX12 37 t 9 ∧ gIsR (gFt t 9) = true ∧ ("<init>" = "<init>" ∨ ∀ (C : String) (T : u_T) (N : Nat), vwCl[t]? = some (C, T, N) → (T 9).2.2.2 = false) := List.forall_mem_cons.mpr ⟨⟨gf_X12_37_11, rfl, Or.inl rfl⟩, fun _ h => absurd h List.not_mem_nil⟩
theorem wfl_X12_40 : Cond.fieldLink RX12 40 "PenaltyGridModel" "freshLines" "[I" ∈ gT := gT_c5 (i := 162) (by decide +kernel) rfl
theorem gf_X12_40_11 : gFld RX12 40 11 16 := ⟨RX12, TX12, 45, "PenaltyGridModel", cls_11, by decide, wfl_X12_40, Or.inl rfl, Or.inr ⟨rfl, rfl⟩⟩
theorem gp_X12_40 : ∀ t ∈ [11], gFld RX12 40 t 16 ∧ gIsR (gFt t 16) = true ∧ ("<init>" = "<init>" ∨ ∀ (C : String) (T : u_T) (N : Nat), vwCl[t]? = some (C, T, N) → (T 16).2.2.2 = false) := List.forall_mem_cons.mpr ⟨⟨gf_X12_40_11, rfl, Or.inl rfl⟩, fun _ h => absurd h List.not_mem_nil⟩
theorem wfl_X12_43 : Cond.fieldLink RX12 43 "PenaltyGridModel" "freshSigns" "[I" ∈ gT := gT_c5 (i := 163) (by decide +kernel) rfl
theorem gf_X12_43_11 : gFld RX12 43 11 17 := ⟨RX12, TX12, 45, "PenaltyGridModel", cls_11, by decide, wfl_X12_43, Or.inl rfl, Or.inr ⟨rfl, rfl⟩⟩
theorem gp_X12_43 : ∀ t ∈ [11], gFld RX12 43 t 17 ∧ gIsR (gFt t 17) = true ∧ ("<init>" = "<init>" ∨ ∀ (C : String) (T : u_T) (N : Nat), vwCl[t]? = some (C, T, N) → (T 17).2.2.2 = false) := List.forall_mem_cons.mpr ⟨⟨gf_X12_43_11, rfl, Or.inl rfl⟩, fun _ h => absurd h List.not_mem_nil⟩
theorem wfl_X12_46 : Cond.fieldLink RX12 46 "PenaltyGridModel" "waiting" "[I" ∈ gT := gT_c5 (i := 164) (by decide +kernel) rfl
theorem gf_X12_46_11 : gFld RX12 46 11 18 := ⟨RX12, TX12, 45, "PenaltyGridModel", cls_11, by decide, wfl_X12_46, Or.inl rfl, Or.inr ⟨rfl, rfl⟩⟩
theorem gp_X12_46 : ∀ t ∈ [11], gFld RX12 46 t 18 ∧ gIsR (gFt t 18) = true ∧ ("<init>" = "<init>" ∨ ∀ (C : String) (T : u_T) (N : Nat), vwCl[t]? = some (C, T, N) → (T 18).2.2.2 = false) := List.forall_mem_cons.mpr ⟨⟨gf_X12_46_11, rfl, Or.inl rfl⟩, fun _ h => absurd h List.not_mem_nil⟩
theorem wfl_X12_49 : Cond.fieldLink RX12 49 "PenaltyGridModel" "pleaded" "[I" ∈ gT := gT_c5 (i := 167) (by decide +kernel) rfl
theorem gf_X12_49_11 : gFld RX12 49 11 21 := ⟨RX12, TX12, 45, "PenaltyGridModel", cls_11, by decide, wfl_X12_49, Or.inl rfl, Or.inr ⟨rfl, rfl⟩⟩
theorem gp_X12_49 : ∀ t ∈ [11], gFld RX12 49 t 21 ∧ gIsR (gFt t 21) = true ∧ ("<init>" = "<init>" ∨ ∀ (C : String) (T : u_T) (N : Nat), vwCl[t]? = some (C, T, N) → (T 21).2.2.2 = false) := List.forall_mem_cons.mpr ⟨⟨gf_X12_49_11, rfl, Or.inl rfl⟩, fun _ h => absurd h List.not_mem_nil⟩
theorem wfl_X12_52 : Cond.fieldLink RX12 52 "PenaltyGridModel" "stack" "[I" ∈ gT := gT_c5 (i := 168) (by decide +kernel) rfl
theorem gf_X12_52_11 : gFld RX12 52 11 22 := ⟨RX12, TX12, 45, "PenaltyGridModel", cls_11, by decide, wfl_X12_52, Or.inl rfl, Or.inr ⟨rfl, rfl⟩⟩
theorem gp_X12_52 : ∀ t ∈ [11], gFld RX12 52 t 22 ∧ gIsR (gFt t 22) = true ∧ ("<init>" = "<init>" ∨ ∀ (C : String) (T : u_T) (N : Nat), vwCl[t]? = some (C, T, N) → (T 22).2.2.2 = false) := List.forall_mem_cons.mpr ⟨⟨gf_X12_52_11, rfl, Or.inl rfl⟩, fun _ h => absurd h List.not_mem_nil⟩
theorem wfl_X12_55 : Cond.fieldLink RX12 55 "PenaltyGridModel" "timeTerm" "[I" ∈ gT := gT_c5 (i := 170) (by decide +kernel) rfl
theorem gf_X12_55_11 : gFld RX12 55 11 24 := ⟨RX12, TX12, 45, "PenaltyGridModel", cls_11, by decide, wfl_X12_55, Or.inl rfl, Or.inr ⟨rfl, rfl⟩⟩
theorem gp_X12_55 : ∀ t ∈ [11], gFld RX12 55 t 24 ∧ gIsR (gFt t 24) = true ∧ ("<init>" = "<init>" ∨ ∀ (C : String) (T : u_T) (N : Nat), vwCl[t]? = some (C, T, N) → (T 24).2.2.2 = false) := List.forall_mem_cons.mpr ⟨⟨gf_X12_55_11, rfl, Or.inl rfl⟩, fun _ h => absurd h List.not_mem_nil⟩
theorem wfl_X12_58 : Cond.fieldLink RX12 58 "PenaltyGridModel" "begins" "[I" ∈ gT := gT_c5 (i := 171) (by decide +kernel) rfl
theorem gf_X12_58_11 : gFld RX12 58 11 25 := ⟨RX12, TX12, 45, "PenaltyGridModel", cls_11, by decide, wfl_X12_58, Or.inl rfl, Or.inr ⟨rfl, rfl⟩⟩
theorem gp_X12_58 : ∀ t ∈ [11], gFld RX12 58 t 25 ∧ gIsR (gFt t 25) = true ∧ ("<init>" = "<init>" ∨ ∀ (C : String) (T : u_T) (N : Nat), vwCl[t]? = some (C, T, N) → (T 25).2.2.2 = false) := List.forall_mem_cons.mpr ⟨⟨gf_X12_58_11, rfl, Or.inl rfl⟩, fun _ h => absurd h List.not_mem_nil⟩
theorem wfl_X12_61 : Cond.fieldLink RX12 61 "PenaltyGridModel" "ends" "[I" ∈ gT := gT_c5 (i := 172) (by decide +kernel) rfl
theorem gf_X12_61_11 : gFld RX12 61 11 26 := ⟨RX12, TX12, 45, "PenaltyGridModel", cls_11, by decide, wfl_X12_61, Or.inl rfl, Or.inr ⟨rfl, rfl⟩⟩
theorem gp_X12_61 : ∀ t ∈ [11], gFld RX12 61 t 26 ∧ gIsR (gFt t 26) = true ∧ ("<init>" = "<init>" ∨ ∀ (C : String) (T : u_T) (N : Nat), vwCl[t]? = some (C, T, N) → (T 26).2.2.2 = false) := List.forall_mem_cons.mpr ⟨⟨gf_X12_61_11, rfl, Or.inl rfl⟩, fun _ h => absurd h List.not_mem_nil⟩
theorem wfl_X12_64 : Cond.fieldLink RX12 64 "PenaltyGridModel" "rows" "[I" ∈ gT := gT_c5 (i := 174) (by decide +kernel) rfl
theorem gf_X12_64_11 : gFld RX12 64 11 28 := ⟨RX12, TX12, 45, "PenaltyGridModel", cls_11, by decide, wfl_X12_64, Or.inl rfl, Or.inr ⟨rfl, rfl⟩⟩
theorem gp_X12_64 : ∀ t ∈ [11], gFld RX12 64 t 28 ∧ gIsR (gFt t 28) = true ∧ ("<init>" = "<init>" ∨ ∀ (C : String) (T : u_T) (N : Nat), vwCl[t]? = some (C, T, N) → (T 28).2.2.2 = false) := List.forall_mem_cons.mpr ⟨⟨gf_X12_64_11, rfl, Or.inl rfl⟩, fun _ h => absurd h List.not_mem_nil⟩
theorem wfl_X12_68 : Cond.fieldLink RX12 68 "PenaltyGridModel" "ways" "[I" ∈ gT := gT_c5 (i := 175) (by decide +kernel) rfl
theorem gf_X12_68_11 : gFld RX12 68 11 29 := ⟨RX12, TX12, 45, "PenaltyGridModel", cls_11, by decide, wfl_X12_68, Or.inl rfl, Or.inr ⟨rfl, rfl⟩⟩
theorem gp_X12_68 : ∀ t ∈ [11], gFld RX12 68 t 29 ∧ gIsR (gFt t 29) = true ∧ ("<init>" = "<init>" ∨ ∀ (C : String) (T : u_T) (N : Nat), vwCl[t]? = some (C, T, N) → (T 29).2.2.2 = false) := List.forall_mem_cons.mpr ⟨⟨gf_X12_68_11, rfl, Or.inl rfl⟩, fun _ h => absurd h List.not_mem_nil⟩
theorem wfl_X12_71 : Cond.fieldLink RX12 71 "PenaltyGridModel" "sorts" "[I" ∈ gT := gT_c5 (i := 176) (by decide +kernel) rfl
theorem gf_X12_71_11 : gFld RX12 71 11 30 := ⟨RX12, TX12, 45, "PenaltyGridModel", cls_11, by decide, wfl_X12_71, Or.inl rfl, Or.inr ⟨rfl, rfl⟩⟩
theorem gp_X12_71 : ∀ t ∈ [11], gFld RX12 71 t 30 ∧ gIsR (gFt t 30) = true ∧ ("<init>" = "<init>" ∨ ∀ (C : String) (T : u_T) (N : Nat), vwCl[t]? = some (C, T, N) → (T 30).2.2.2 = false) := List.forall_mem_cons.mpr ⟨⟨gf_X12_71_11, rfl, Or.inl rfl⟩, fun _ h => absurd h List.not_mem_nil⟩
theorem wfl_X12_74 : Cond.fieldLink RX12 74 "PenaltyGridModel" "sizes" "[I" ∈ gT := gT_c5 (i := 177) (by decide +kernel) rfl
theorem gf_X12_74_11 : gFld RX12 74 11 31 := ⟨RX12, TX12, 45, "PenaltyGridModel", cls_11, by decide, wfl_X12_74, Or.inl rfl, Or.inr ⟨rfl, rfl⟩⟩
theorem gp_X12_74 : ∀ t ∈ [11], gFld RX12 74 t 31 ∧ gIsR (gFt t 31) = true ∧ ("<init>" = "<init>" ∨ ∀ (C : String) (T : u_T) (N : Nat), vwCl[t]? = some (C, T, N) → (T 31).2.2.2 = false) := List.forall_mem_cons.mpr ⟨⟨gf_X12_74_11, rfl, Or.inl rfl⟩, fun _ h => absurd h List.not_mem_nil⟩
theorem wfl_X12_77 : Cond.fieldLink RX12 77 "PenaltyGridModel" "sheets" "[I" ∈ gT := gT_c5 (i := 178) (by decide +kernel) rfl
theorem gf_X12_77_11 : gFld RX12 77 11 32 := ⟨RX12, TX12, 45, "PenaltyGridModel", cls_11, by decide, wfl_X12_77, Or.inl rfl, Or.inr ⟨rfl, rfl⟩⟩
theorem gp_X12_77 : ∀ t ∈ [11], gFld RX12 77 t 32 ∧ gIsR (gFt t 32) = true ∧ ("<init>" = "<init>" ∨ ∀ (C : String) (T : u_T) (N : Nat), vwCl[t]? = some (C, T, N) → (T 32).2.2.2 = false) := List.forall_mem_cons.mpr ⟨⟨gf_X12_77_11, rfl, Or.inl rfl⟩, fun _ h => absurd h List.not_mem_nil⟩
theorem wfl_X12_80 : Cond.fieldLink RX12 80 "PenaltyGridModel" "onShelf" "[I" ∈ gT := gT_c5 (i := 179) (by decide +kernel) rfl
theorem gf_X12_80_11 : gFld RX12 80 11 33 := ⟨RX12, TX12, 45, "PenaltyGridModel", cls_11, by decide, wfl_X12_80, Or.inl rfl, Or.inr ⟨rfl, rfl⟩⟩
theorem gp_X12_80 : ∀ t ∈ [11], gFld RX12 80 t 33 ∧ gIsR (gFt t 33) = true ∧ ("<init>" = "<init>" ∨ ∀ (C : String) (T : u_T) (N : Nat), vwCl[t]? = some (C, T, N) → (T 33).2.2.2 = false) := List.forall_mem_cons.mpr ⟨⟨gf_X12_80_11, rfl, Or.inl rfl⟩, fun _ h => absurd h List.not_mem_nil⟩
theorem wfl_X12_83 : Cond.fieldLink RX12 83 "PenaltyGridModel" "itsNumber" "[I" ∈ gT := gT_c5 (i := 180) (by decide +kernel) rfl
theorem gf_X12_83_11 : gFld RX12 83 11 34 := ⟨RX12, TX12, 45, "PenaltyGridModel", cls_11, by decide, wfl_X12_83, Or.inl rfl, Or.inr ⟨rfl, rfl⟩⟩
theorem gp_X12_83 : ∀ t ∈ [11], gFld RX12 83 t 34 ∧ gIsR (gFt t 34) = true ∧ ("<init>" = "<init>" ∨ ∀ (C : String) (T : u_T) (N : Nat), vwCl[t]? = some (C, T, N) → (T 34).2.2.2 = false) := List.forall_mem_cons.mpr ⟨⟨gf_X12_83_11, rfl, Or.inl rfl⟩, fun _ h => absurd h List.not_mem_nil⟩
theorem wfl_X12_86 : Cond.fieldLink RX12 86 "PenaltyGridModel" "itsSize" "[I" ∈ gT := gT_c5 (i := 181) (by decide +kernel) rfl
theorem gf_X12_86_11 : gFld RX12 86 11 35 := ⟨RX12, TX12, 45, "PenaltyGridModel", cls_11, by decide, wfl_X12_86, Or.inl rfl, Or.inr ⟨rfl, rfl⟩⟩
theorem gp_X12_86 : ∀ t ∈ [11], gFld RX12 86 t 35 ∧ gIsR (gFt t 35) = true ∧ ("<init>" = "<init>" ∨ ∀ (C : String) (T : u_T) (N : Nat), vwCl[t]? = some (C, T, N) → (T 35).2.2.2 = false) := List.forall_mem_cons.mpr ⟨⟨gf_X12_86_11, rfl, Or.inl rfl⟩, fun _ h => absurd h List.not_mem_nil⟩
theorem wfl_X12_89 : Cond.fieldLink RX12 89 "PenaltyGridModel" "traced" "[I" ∈ gT := gT_c5 (i := 185) (by decide +kernel) rfl
theorem gf_X12_89_11 : gFld RX12 89 11 39 := ⟨RX12, TX12, 45, "PenaltyGridModel", cls_11, by decide, wfl_X12_89, Or.inl rfl, Or.inr ⟨rfl, rfl⟩⟩
theorem gp_X12_89 : ∀ t ∈ [11], gFld RX12 89 t 39 ∧ gIsR (gFt t 39) = true ∧ ("<init>" = "<init>" ∨ ∀ (C : String) (T : u_T) (N : Nat), vwCl[t]? = some (C, T, N) → (T 39).2.2.2 = false) := List.forall_mem_cons.mpr ⟨⟨gf_X12_89_11, rfl, Or.inl rfl⟩, fun _ h => absurd h List.not_mem_nil⟩
theorem wfl_X12_92 : Cond.fieldLink RX12 92 "PenaltyGridModel" "kept" "[I" ∈ gT := gT_c5 (i := 189) (by decide +kernel) rfl
theorem gf_X12_92_11 : gFld RX12 92 11 43 := ⟨RX12, TX12, 45, "PenaltyGridModel", cls_11, by decide, wfl_X12_92, Or.inl rfl, Or.inr ⟨rfl, rfl⟩⟩
theorem gp_X12_92 : ∀ t ∈ [11], gFld RX12 92 t 43 ∧ gIsR (gFt t 43) = true ∧ ("<init>" = "<init>" ∨ ∀ (C : String) (T : u_T) (N : Nat), vwCl[t]? = some (C, T, N) → (T 43).2.2.2 = false) := List.forall_mem_cons.mpr ⟨⟨gf_X12_92_11, rfl, Or.inl rfl⟩, fun _ h => absurd h List.not_mem_nil⟩
theorem wac_int : Cond.arrayClass .int ∈ gT := gT_c1 (i := 59) (by decide +kernel) rfl
theorem wct_X12_67 : Cond.constant RX12 67 (65280) ∈ gT := gT_c5 (i := 145) (by decide +kernel) rfl
theorem wml_X12_1 : Cond.methodLink RX12 1 ⟨"java/lang/Object", "<init>", "()V"⟩ ∈ gT := gT_c5 (i := 144) (by decide +kernel) rfl
theorem wco_X12_in : Cond.code yX12_in cX12_in 3 (some .boolean) ∈ gT := gT_c6 (i := 48) (by decide +kernel) rfl
theorem win_X12 : Cond.initialized RX12 ∈ gT := gT_c1 (i := 7) (by decide +kernel) rfl
theorem mf_X12_in : gMf yX12_in cX12_in 3 (some .boolean) 3 := ⟨wco_X12_in, win_X12, ⟨by decide +kernel, by decide +kernel⟩, by decide +kernel⟩
theorem wml_X12_95 : Cond.methodLink RX12 95 yX12_in ∈ gT := gT_c6 (i := 46) (by decide +kernel) rfl
theorem wst_X12_in : Cond.static yX12_in ∈ gT := gT_c6 (i := 47) (by decide +kernel) rfl
theorem gg_X12_7 : ∀ t ∈ [11], gFldG RX12 7 t 0 ∧ gIsR (gFt t 0) = true := List.forall_mem_cons.mpr ⟨⟨gf_X12_7_11.g, rfl⟩, fun _ h => absurd h List.not_mem_nil⟩
theorem gg_X12_31 : ∀ t ∈ [11], gFldG RX12 31 t 7 ∧ gIsR (gFt t 7) = true := List.forall_mem_cons.mpr ⟨⟨gf_X12_31_11.g, rfl⟩, fun _ h => absurd h List.not_mem_nil⟩
theorem gg_X12_16 : ∀ t ∈ [11], gFldG RX12 16 t 2 ∧ gIsR (gFt t 2) = true := List.forall_mem_cons.mpr ⟨⟨gf_X12_16_11.g, rfl⟩, fun _ h => absurd h List.not_mem_nil⟩
theorem wco_X12_of : Cond.code yX12_of cX12_of 3 (some .int) ∈ gT := gT_c6 (i := 103) (by decide +kernel) rfl
theorem mf_X12_of : gMf yX12_of cX12_of 3 (some .int) 2 := ⟨wco_X12_of, win_X12, ⟨by decide +kernel, by decide +kernel⟩, by decide +kernel⟩
theorem wml_X12_99 : Cond.methodLink RX12 99 yX12_of ∈ gT := gT_c6 (i := 100) (by decide +kernel) rfl
theorem wim_X12_of : Cond.instanceMethod yX12_of ∈ gT := gT_c6 (i := 102) (by decide +kernel) rfl
theorem wse_X12_X12_of_X12_of : Cond.selects RX12 yX12_of yX12_of ∈ gT := gT_pr (i := 33) (by decide +kernel) rfl
theorem gg_X12_13 : ∀ t ∈ [11], gFldG RX12 13 t 1 ∧ gIsR (gFt t 1) = true := List.forall_mem_cons.mpr ⟨⟨gf_X12_13_11.g, rfl⟩, fun _ h => absurd h List.not_mem_nil⟩
theorem wco_X12_isPerson : Cond.code yX12_isPerson cX12_isPerson 2 (some .boolean) ∈ gT := gT_c6 (i := 60) (by decide +kernel) rfl
theorem mf_X12_isPerson : gMf yX12_isPerson cX12_isPerson 2 (some .boolean) 1 := ⟨wco_X12_isPerson, win_X12, ⟨by decide +kernel, by decide +kernel⟩, by decide +kernel⟩
theorem wml_X12_103 : Cond.methodLink RX12 103 yX12_isPerson ∈ gT := gT_c6 (i := 57) (by decide +kernel) rfl
theorem wim_X12_isPerson : Cond.instanceMethod yX12_isPerson ∈ gT := gT_c6 (i := 59) (by decide +kernel) rfl
theorem wse_X12_X12_isPerson_X12_isPerson : Cond.selects RX12 yX12_isPerson yX12_isPerson ∈ gT := gT_pr (i := 26) (by decide +kernel) rfl
theorem wco_X12_isDay : Cond.code yX12_isDay cX12_isDay 1 (some .boolean) ∈ gT := gT_c6 (i := 63) (by decide +kernel) rfl
theorem mf_X12_isDay : gMf yX12_isDay cX12_isDay 1 (some .boolean) 1 := ⟨wco_X12_isDay, win_X12, ⟨by decide +kernel, by decide +kernel⟩, by decide +kernel⟩
theorem wml_X12_107 : Cond.methodLink RX12 107 yX12_isDay ∈ gT := gT_c6 (i := 61) (by decide +kernel) rfl
theorem wst_X12_isDay : Cond.static yX12_isDay ∈ gT := gT_c6 (i := 62) (by decide +kernel) rfl
theorem wco_X12_ageOn : Cond.code yX12_ageOn cX12_ageOn 3 (some .int) ∈ gT := gT_c6 (i := 67) (by decide +kernel) rfl
theorem mf_X12_ageOn : gMf yX12_ageOn cX12_ageOn 3 (some .int) 2 := ⟨wco_X12_ageOn, win_X12, ⟨by decide +kernel, by decide +kernel⟩, by decide +kernel⟩
theorem wml_X12_110 : Cond.methodLink RX12 110 yX12_ageOn ∈ gT := gT_c6 (i := 64) (by decide +kernel) rfl
theorem wim_X12_ageOn : Cond.instanceMethod yX12_ageOn ∈ gT := gT_c6 (i := 66) (by decide +kernel) rfl
theorem wse_X12_X12_ageOn_X12_ageOn : Cond.selects RX12 yX12_ageOn yX12_ageOn ∈ gT := gT_pr (i := 27) (by decide +kernel) rfl
theorem wco_X12_dayOf : Cond.code yX12_dayOf cX12_dayOf 2 (some .int) ∈ gT := gT_c6 (i := 233) (by decide +kernel) rfl
theorem mf_X12_dayOf : gMf yX12_dayOf cX12_dayOf 2 (some .int) 1 := ⟨wco_X12_dayOf, win_X12, ⟨by decide +kernel, by decide +kernel⟩, by decide +kernel⟩
theorem wml_X12_113 : Cond.methodLink RX12 113 yX12_dayOf ∈ gT := gT_c6 (i := 230) (by decide +kernel) rfl
theorem wim_X12_dayOf : Cond.instanceMethod yX12_dayOf ∈ gT := gT_c6 (i := 232) (by decide +kernel) rfl
theorem wse_X12_X12_dayOf_X12_dayOf : Cond.selects RX12 yX12_dayOf yX12_dayOf ∈ gT := gT_pr (i := 56) (by decide +kernel) rfl
theorem wco_X12_ageAt : Cond.code yX12_ageAt cX12_ageAt 2 (some .int) ∈ gT := gT_c7 (i := 47) (by decide +kernel) rfl
theorem mf_X12_ageAt : gMf yX12_ageAt cX12_ageAt 2 (some .int) 1 := ⟨wco_X12_ageAt, win_X12, ⟨by decide +kernel, by decide +kernel⟩, by decide +kernel⟩
theorem wml_X12_117 : Cond.methodLink RX12 117 yX12_ageAt ∈ gT := gT_c7 (i := 44) (by decide +kernel) rfl
theorem wim_X12_ageAt : Cond.instanceMethod yX12_ageAt ∈ gT := gT_c7 (i := 46) (by decide +kernel) rfl
theorem wse_X12_X12_ageAt_X12_ageAt : Cond.selects RX12 yX12_ageAt yX12_ageAt ∈ gT := gT_pr (i := 66) (by decide +kernel) rfl
theorem gg_X12_19 : ∀ t ∈ [11], gFldG RX12 19 t 3 ∧ gIsR (gFt t 3) = true := List.forall_mem_cons.mpr ⟨⟨gf_X12_19_11.g, rfl⟩, fun _ h => absurd h List.not_mem_nil⟩
theorem wco_X12_isDeed : Cond.code yX12_isDeed cX12_isDeed 2 (some .boolean) ∈ gT := gT_c6 (i := 79) (by decide +kernel) rfl
theorem mf_X12_isDeed : gMf yX12_isDeed cX12_isDeed 2 (some .boolean) 1 := ⟨wco_X12_isDeed, win_X12, ⟨by decide +kernel, by decide +kernel⟩, by decide +kernel⟩
theorem wml_X12_120 : Cond.methodLink RX12 120 yX12_isDeed ∈ gT := gT_c6 (i := 76) (by decide +kernel) rfl
theorem wim_X12_isDeed : Cond.instanceMethod yX12_isDeed ∈ gT := gT_c6 (i := 78) (by decide +kernel) rfl
theorem wse_X12_X12_isDeed_X12_isDeed : Cond.selects RX12 yX12_isDeed yX12_isDeed ∈ gT := gT_pr (i := 28) (by decide +kernel) rfl
theorem wco_X12_foundOf : Cond.code yX12_foundOf cX12_foundOf 5 (some .int) ∈ gT := gT_c6 (i := 91) (by decide +kernel) rfl
theorem mf_X12_foundOf : gMf yX12_foundOf cX12_foundOf 5 (some .int) 2 := ⟨wco_X12_foundOf, win_X12, ⟨by decide +kernel, by decide +kernel⟩, by decide +kernel⟩
theorem wml_X12_123 : Cond.methodLink RX12 123 yX12_foundOf ∈ gT := gT_c6 (i := 88) (by decide +kernel) rfl
theorem wim_X12_foundOf : Cond.instanceMethod yX12_foundOf ∈ gT := gT_c6 (i := 90) (by decide +kernel) rfl
theorem wse_X12_X12_foundOf_X12_foundOf : Cond.selects RX12 yX12_foundOf yX12_foundOf ∈ gT := gT_pr (i := 30) (by decide +kernel) rfl
theorem wco_X12_stands : Cond.code yX12_stands cX12_stands 3 (some .boolean) ∈ gT := gT_c6 (i := 107) (by decide +kernel) rfl
theorem mf_X12_stands : gMf yX12_stands cX12_stands 3 (some .boolean) 2 := ⟨wco_X12_stands, win_X12, ⟨by decide +kernel, by decide +kernel⟩, by decide +kernel⟩
theorem wml_X12_126 : Cond.methodLink RX12 126 yX12_stands ∈ gT := gT_c6 (i := 104) (by decide +kernel) rfl
theorem wim_X12_stands : Cond.instanceMethod yX12_stands ∈ gT := gT_c6 (i := 106) (by decide +kernel) rfl
theorem wse_X12_X12_stands_X12_stands : Cond.selects RX12 yX12_stands yX12_stands ∈ gT := gT_pr (i := 34) (by decide +kernel) rfl
theorem wco_X12_termOf : Cond.code yX12_termOf cX12_termOf 5 (some .int) ∈ gT := gT_c6 (i := 99) (by decide +kernel) rfl
theorem mf_X12_termOf : gMf yX12_termOf cX12_termOf 5 (some .int) 2 := ⟨wco_X12_termOf, win_X12, ⟨by decide +kernel, by decide +kernel⟩, by decide +kernel⟩
theorem wml_X12_136 : Cond.methodLink RX12 136 yX12_termOf ∈ gT := gT_c6 (i := 96) (by decide +kernel) rfl
theorem wim_X12_termOf : Cond.instanceMethod yX12_termOf ∈ gT := gT_c6 (i := 98) (by decide +kernel) rfl
theorem wse_X12_X12_termOf_X12_termOf : Cond.selects RX12 yX12_termOf yX12_termOf ∈ gT := gT_pr (i := 32) (by decide +kernel) rfl
theorem wco_X12_orNone : Cond.code yX12_orNone cX12_orNone 1 (some .int) ∈ gT := gT_c6 (i := 110) (by decide +kernel) rfl
theorem mf_X12_orNone : gMf yX12_orNone cX12_orNone 1 (some .int) 1 := ⟨wco_X12_orNone, win_X12, ⟨by decide +kernel, by decide +kernel⟩, by decide +kernel⟩
theorem wml_X12_139 : Cond.methodLink RX12 139 yX12_orNone ∈ gT := gT_c6 (i := 108) (by decide +kernel) rfl
theorem wst_X12_orNone : Cond.static yX12_orNone ∈ gT := gT_c6 (i := 109) (by decide +kernel) rfl
theorem wco_X12_isPleaded : Cond.code yX12_isPleaded cX12_isPleaded 4 (some .boolean) ∈ gT := gT_c6 (i := 95) (by decide +kernel) rfl
theorem mf_X12_isPleaded : gMf yX12_isPleaded cX12_isPleaded 4 (some .boolean) 2 := ⟨wco_X12_isPleaded, win_X12, ⟨by decide +kernel, by decide +kernel⟩, by decide +kernel⟩
theorem wml_X12_133 : Cond.methodLink RX12 133 yX12_isPleaded ∈ gT := gT_c6 (i := 92) (by decide +kernel) rfl
theorem wim_X12_isPleaded : Cond.instanceMethod yX12_isPleaded ∈ gT := gT_c6 (i := 94) (by decide +kernel) rfl
theorem wse_X12_X12_isPleaded_X12_isPleaded : Cond.selects RX12 yX12_isPleaded yX12_isPleaded ∈ gT := gT_pr (i := 31) (by decide +kernel) rfl
theorem wco_X12_factsOf : Cond.code yX12_factsOf cX12_factsOf 4 (some .int) ∈ gT := gT_c6 (i := 87) (by decide +kernel) rfl
theorem mf_X12_factsOf : gMf yX12_factsOf cX12_factsOf 4 (some .int) 2 := ⟨wco_X12_factsOf, win_X12, ⟨by decide +kernel, by decide +kernel⟩, by decide +kernel⟩
theorem wml_X12_130 : Cond.methodLink RX12 130 yX12_factsOf ∈ gT := gT_c6 (i := 84) (by decide +kernel) rfl
theorem wim_X12_factsOf : Cond.instanceMethod yX12_factsOf ∈ gT := gT_c6 (i := 86) (by decide +kernel) rfl
theorem wse_X12_X12_factsOf_X12_factsOf : Cond.selects RX12 yX12_factsOf yX12_factsOf ∈ gT := gT_pr (i := 29) (by decide +kernel) rfl
theorem wfl_X12_142 : Cond.fieldLink RX12 142 "PenaltyGridModel" "tapeMany" "I" ∈ gT := gT_c5 (i := 156) (by decide +kernel) rfl
theorem gf_X12_142_11 : gFld RX12 142 11 10 := ⟨RX12, TX12, 45, "PenaltyGridModel", cls_11, by decide, wfl_X12_142, Or.inl rfl, Or.inl rfl⟩
theorem gg_X12_142 : ∀ t ∈ [11], gFldG RX12 142 t 10 ∧ gIsR (gFt t 10) = false := List.forall_mem_cons.mpr ⟨⟨gf_X12_142_11.g, rfl⟩, fun _ h => absurd h List.not_mem_nil⟩
theorem gg_X12_37 : ∀ t ∈ [11], gFldG RX12 37 t 9 ∧ gIsR (gFt t 9) = true := List.forall_mem_cons.mpr ⟨⟨gf_X12_37_11.g, rfl⟩, fun _ h => absurd h List.not_mem_nil⟩
theorem gp_X12_142 {nm : String} : ∀ t ∈ [11], gFld RX12 142 t 10 ∧ gFt t 10 = .int ∧ (nm = "<init>" ∨ ∀ (C : String) (T : u_T) (N : Nat), vwCl[t]? = some (C, T, N) → (T 10).2.2.2 = false) := List.forall_mem_cons.mpr ⟨⟨gf_X12_142_11, rfl, Or.inr (fun _ _ _ h => by cases h; rfl)⟩, fun _ h => absurd h List.not_mem_nil⟩
theorem wcl_X12_146 : Cond.constantLong RX12 146 (255) ∈ gT := gT_c6 (i := 115) (by decide +kernel) rfl
theorem wfl_X12_151 : Cond.fieldLink RX12 151 "PenaltyGridModel" "tokenAt" "I" ∈ gT := gT_c5 (i := 158) (by decide +kernel) rfl
theorem gf_X12_151_11 : gFld RX12 151 11 12 := ⟨RX12, TX12, 45, "PenaltyGridModel", cls_11, by decide, wfl_X12_151, Or.inl rfl, Or.inl rfl⟩
theorem gg_X12_151 : ∀ t ∈ [11], gFldG RX12 151 t 12 ∧ gIsR (gFt t 12) = false := List.forall_mem_cons.mpr ⟨⟨gf_X12_151_11.g, rfl⟩, fun _ h => absurd h List.not_mem_nil⟩
theorem gg_X12_49 : ∀ t ∈ [11], gFldG RX12 49 t 21 ∧ gIsR (gFt t 21) = true := List.forall_mem_cons.mpr ⟨⟨gf_X12_49_11.g, rfl⟩, fun _ h => absurd h List.not_mem_nil⟩
theorem wfl_X12_148 : Cond.fieldLink RX12 148 "PenaltyGridModel" "tokenEnd" "I" ∈ gT := gT_c5 (i := 159) (by decide +kernel) rfl
theorem gf_X12_148_11 : gFld RX12 148 11 13 := ⟨RX12, TX12, 45, "PenaltyGridModel", cls_11, by decide, wfl_X12_148, Or.inl rfl, Or.inl rfl⟩
theorem gg_X12_148 : ∀ t ∈ [11], gFldG RX12 148 t 13 ∧ gIsR (gFt t 13) = false := List.forall_mem_cons.mpr ⟨⟨gf_X12_148_11.g, rfl⟩, fun _ h => absurd h List.not_mem_nil⟩
theorem wfl_X12_154 : Cond.fieldLink RX12 154 "PenaltyGridModel" "tokenValue" "I" ∈ gT := gT_c5 (i := 160) (by decide +kernel) rfl
theorem gf_X12_154_11 : gFld RX12 154 11 14 := ⟨RX12, TX12, 45, "PenaltyGridModel", cls_11, by decide, wfl_X12_154, Or.inl rfl, Or.inl rfl⟩
theorem gp_X12_154 {nm : String} : ∀ t ∈ [11], gFld RX12 154 t 14 ∧ gFt t 14 = .int ∧ (nm = "<init>" ∨ ∀ (C : String) (T : u_T) (N : Nat), vwCl[t]? = some (C, T, N) → (T 14).2.2.2 = false) := List.forall_mem_cons.mpr ⟨⟨gf_X12_154_11, rfl, Or.inr (fun _ _ _ h => by cases h; rfl)⟩, fun _ h => absurd h List.not_mem_nil⟩
theorem gp_X12_148 {nm : String} : ∀ t ∈ [11], gFld RX12 148 t 13 ∧ gFt t 13 = .int ∧ (nm = "<init>" ∨ ∀ (C : String) (T : u_T) (N : Nat), vwCl[t]? = some (C, T, N) → (T 13).2.2.2 = false) := List.forall_mem_cons.mpr ⟨⟨gf_X12_148_11, rfl, Or.inr (fun _ _ _ h => by cases h; rfl)⟩, fun _ h => absurd h List.not_mem_nil⟩
theorem wfl_X12_157 : Cond.fieldLink RX12 157 "PenaltyGridModel" "tokenKind" "I" ∈ gT := gT_c5 (i := 157) (by decide +kernel) rfl
theorem gf_X12_157_11 : gFld RX12 157 11 11 := ⟨RX12, TX12, 45, "PenaltyGridModel", cls_11, by decide, wfl_X12_157, Or.inl rfl, Or.inl rfl⟩
theorem gg_X12_157 : ∀ t ∈ [11], gFldG RX12 157 t 11 ∧ gIsR (gFt t 11) = false := List.forall_mem_cons.mpr ⟨⟨gf_X12_157_11.g, rfl⟩, fun _ h => absurd h List.not_mem_nil⟩
theorem wco_X12_isSeven : Cond.code yX12_isSeven cX12_isSeven 3 (some .boolean) ∈ gT := gT_c6 (i := 133) (by decide +kernel) rfl
theorem mf_X12_isSeven : gMf yX12_isSeven cX12_isSeven 3 (some .boolean) 0 := ⟨wco_X12_isSeven, win_X12, ⟨by decide +kernel, by decide +kernel⟩, by decide +kernel⟩
theorem wml_X12_166 : Cond.methodLink RX12 166 yX12_isSeven ∈ gT := gT_c6 (i := 130) (by decide +kernel) rfl
theorem wim_X12_isSeven : Cond.instanceMethod yX12_isSeven ∈ gT := gT_c6 (i := 132) (by decide +kernel) rfl
theorem wse_X12_X12_isSeven_X12_isSeven : Cond.selects RX12 yX12_isSeven yX12_isSeven ∈ gT := gT_pr (i := 36) (by decide +kernel) rfl
theorem wco_X12_isLetter : Cond.code yX12_isLetter cX12_isLetter 1 (some .boolean) ∈ gT := gT_c6 (i := 126) (by decide +kernel) rfl
theorem mf_X12_isLetter : gMf yX12_isLetter cX12_isLetter 1 (some .boolean) 1 := ⟨wco_X12_isLetter, win_X12, ⟨by decide +kernel, by decide +kernel⟩, by decide +kernel⟩
theorem wml_X12_160 : Cond.methodLink RX12 160 yX12_isLetter ∈ gT := gT_c6 (i := 124) (by decide +kernel) rfl
theorem wst_X12_isLetter : Cond.static yX12_isLetter ∈ gT := gT_c6 (i := 125) (by decide +kernel) rfl
theorem gg_X12_154 : ∀ t ∈ [11], gFldG RX12 154 t 14 ∧ gIsR (gFt t 14) = false := List.forall_mem_cons.mpr ⟨⟨gf_X12_154_11.g, rfl⟩, fun _ h => absurd h List.not_mem_nil⟩
theorem wco_X12_isDigit : Cond.code yX12_isDigit cX12_isDigit 1 (some .boolean) ∈ gT := gT_c6 (i := 129) (by decide +kernel) rfl
theorem mf_X12_isDigit : gMf yX12_isDigit cX12_isDigit 1 (some .boolean) 1 := ⟨wco_X12_isDigit, win_X12, ⟨by decide +kernel, by decide +kernel⟩, by decide +kernel⟩
theorem wml_X12_163 : Cond.methodLink RX12 163 yX12_isDigit ∈ gT := gT_c6 (i := 127) (by decide +kernel) rfl
theorem wst_X12_isDigit : Cond.static yX12_isDigit ∈ gT := gT_c6 (i := 128) (by decide +kernel) rfl
theorem gp_X12_151 {nm : String} : ∀ t ∈ [11], gFld RX12 151 t 12 ∧ gFt t 12 = .int ∧ (nm = "<init>" ∨ ∀ (C : String) (T : u_T) (N : Nat), vwCl[t]? = some (C, T, N) → (T 12).2.2.2 = false) := List.forall_mem_cons.mpr ⟨⟨gf_X12_151_11, rfl, Or.inr (fun _ _ _ h => by cases h; rfl)⟩, fun _ h => absurd h List.not_mem_nil⟩
theorem gp_X12_157 {nm : String} : ∀ t ∈ [11], gFld RX12 157 t 11 ∧ gFt t 11 = .int ∧ (nm = "<init>" ∨ ∀ (C : String) (T : u_T) (N : Nat), vwCl[t]? = some (C, T, N) → (T 11).2.2.2 = false) := List.forall_mem_cons.mpr ⟨⟨gf_X12_157_11, rfl, Or.inr (fun _ _ _ h => by cases h; rfl)⟩, fun _ h => absurd h List.not_mem_nil⟩
theorem wfl_X12_170 : Cond.fieldLink RX12 170 "PenaltyGridModel" "fault" "I" ∈ gT := gT_c5 (i := 161) (by decide +kernel) rfl
theorem gf_X12_170_11 : gFld RX12 170 11 15 := ⟨RX12, TX12, 45, "PenaltyGridModel", cls_11, by decide, wfl_X12_170, Or.inl rfl, Or.inl rfl⟩
theorem gg_X12_170 : ∀ t ∈ [11], gFldG RX12 170 t 15 ∧ gIsR (gFt t 15) = false := List.forall_mem_cons.mpr ⟨⟨gf_X12_170_11.g, rfl⟩, fun _ h => absurd h List.not_mem_nil⟩
theorem gp_X12_170 {nm : String} : ∀ t ∈ [11], gFld RX12 170 t 15 ∧ gFt t 15 = .int ∧ (nm = "<init>" ∨ ∀ (C : String) (T : u_T) (N : Nat), vwCl[t]? = some (C, T, N) → (T 15).2.2.2 = false) := List.forall_mem_cons.mpr ⟨⟨gf_X12_170_11, rfl, Or.inr (fun _ _ _ h => by cases h; rfl)⟩, fun _ h => absurd h List.not_mem_nil⟩
theorem wco_X12_wrong : Cond.code yX12_wrong cX12_wrong 1 none ∈ gT := gT_c6 (i := 159) (by decide +kernel) rfl
theorem mf_X12_wrong : gMf yX12_wrong cX12_wrong 1 none 0 := ⟨wco_X12_wrong, win_X12, ⟨by decide +kernel, by decide +kernel⟩, by decide +kernel⟩
theorem wml_X12_179 : Cond.methodLink RX12 179 yX12_wrong ∈ gT := gT_c6 (i := 156) (by decide +kernel) rfl
theorem wim_X12_wrong : Cond.instanceMethod yX12_wrong ∈ gT := gT_c6 (i := 158) (by decide +kernel) rfl
theorem wse_X12_X12_wrong_X12_wrong : Cond.selects RX12 yX12_wrong yX12_wrong ∈ gT := gT_pr (i := 41) (by decide +kernel) rfl
theorem wco_X12_isGood : Cond.code yX12_isGood cX12_isGood 1 (some .boolean) ∈ gT := gT_c6 (i := 137) (by decide +kernel) rfl
theorem mf_X12_isGood : gMf yX12_isGood cX12_isGood 1 (some .boolean) 0 := ⟨wco_X12_isGood, win_X12, ⟨by decide +kernel, by decide +kernel⟩, by decide +kernel⟩
theorem wml_X12_173 : Cond.methodLink RX12 173 yX12_isGood ∈ gT := gT_c6 (i := 134) (by decide +kernel) rfl
theorem wim_X12_isGood : Cond.instanceMethod yX12_isGood ∈ gT := gT_c6 (i := 136) (by decide +kernel) rfl
theorem wse_X12_X12_isGood_X12_isGood : Cond.selects RX12 yX12_isGood yX12_isGood ∈ gT := gT_pr (i := 37) (by decide +kernel) rfl
theorem wco_X12_advance : Cond.code yX12_advance cX12_advance 2 none ∈ gT := gT_c6 (i := 123) (by decide +kernel) rfl
theorem mf_X12_advance : gMf yX12_advance cX12_advance 2 none 0 := ⟨wco_X12_advance, win_X12, ⟨by decide +kernel, by decide +kernel⟩, by decide +kernel⟩
theorem wml_X12_176 : Cond.methodLink RX12 176 yX12_advance ∈ gT := gT_c6 (i := 120) (by decide +kernel) rfl
theorem wim_X12_advance : Cond.instanceMethod yX12_advance ∈ gT := gT_c6 (i := 122) (by decide +kernel) rfl
theorem wse_X12_X12_advance_X12_advance : Cond.selects RX12 yX12_advance yX12_advance ∈ gT := gT_pr (i := 35) (by decide +kernel) rfl
theorem gg_X12_43 : ∀ t ∈ [11], gFldG RX12 43 t 17 ∧ gIsR (gFt t 17) = true := List.forall_mem_cons.mpr ⟨⟨gf_X12_43_11.g, rfl⟩, fun _ h => absurd h List.not_mem_nil⟩
theorem wfl_X12_182 : Cond.fieldLink RX12 182 "PenaltyGridModel" "freshMany" "I" ∈ gT := gT_c5 (i := 165) (by decide +kernel) rfl
theorem gf_X12_182_11 : gFld RX12 182 11 19 := ⟨RX12, TX12, 45, "PenaltyGridModel", cls_11, by decide, wfl_X12_182, Or.inl rfl, Or.inl rfl⟩
theorem gg_X12_182 : ∀ t ∈ [11], gFldG RX12 182 t 19 ∧ gIsR (gFt t 19) = false := List.forall_mem_cons.mpr ⟨⟨gf_X12_182_11.g, rfl⟩, fun _ h => absurd h List.not_mem_nil⟩
theorem gp_X12_182 {nm : String} : ∀ t ∈ [11], gFld RX12 182 t 19 ∧ gFt t 19 = .int ∧ (nm = "<init>" ∨ ∀ (C : String) (T : u_T) (N : Nat), vwCl[t]? = some (C, T, N) → (T 19).2.2.2 = false) := List.forall_mem_cons.mpr ⟨⟨gf_X12_182_11, rfl, Or.inr (fun _ _ _ h => by cases h; rfl)⟩, fun _ h => absurd h List.not_mem_nil⟩
theorem wfl_X12_185 : Cond.fieldLink RX12 185 "PenaltyGridModel" "waits" "I" ∈ gT := gT_c5 (i := 166) (by decide +kernel) rfl
theorem gf_X12_185_11 : gFld RX12 185 11 20 := ⟨RX12, TX12, 45, "PenaltyGridModel", cls_11, by decide, wfl_X12_185, Or.inl rfl, Or.inl rfl⟩
theorem gg_X12_185 : ∀ t ∈ [11], gFldG RX12 185 t 20 ∧ gIsR (gFt t 20) = false := List.forall_mem_cons.mpr ⟨⟨gf_X12_185_11.g, rfl⟩, fun _ h => absurd h List.not_mem_nil⟩
theorem gg_X12_46 : ∀ t ∈ [11], gFldG RX12 46 t 18 ∧ gIsR (gFt t 18) = true := List.forall_mem_cons.mpr ⟨⟨gf_X12_46_11.g, rfl⟩, fun _ h => absurd h List.not_mem_nil⟩
theorem gp_X12_185 {nm : String} : ∀ t ∈ [11], gFld RX12 185 t 20 ∧ gFt t 20 = .int ∧ (nm = "<init>" ∨ ∀ (C : String) (T : u_T) (N : Nat), vwCl[t]? = some (C, T, N) → (T 20).2.2.2 = false) := List.forall_mem_cons.mpr ⟨⟨gf_X12_185_11, rfl, Or.inr (fun _ _ _ h => by cases h; rfl)⟩, fun _ h => absurd h List.not_mem_nil⟩
theorem wco_X12_emit : Cond.code yX12_emit cX12_emit 2 none ∈ gT := gT_c6 (i := 196) (by decide +kernel) rfl
theorem mf_X12_emit : gMf yX12_emit cX12_emit 2 none 1 := ⟨wco_X12_emit, win_X12, ⟨by decide +kernel, by decide +kernel⟩, by decide +kernel⟩
theorem wml_X12_188 : Cond.methodLink RX12 188 yX12_emit ∈ gT := gT_c6 (i := 193) (by decide +kernel) rfl
theorem wim_X12_emit : Cond.instanceMethod yX12_emit ∈ gT := gT_c6 (i := 195) (by decide +kernel) rfl
theorem wse_X12_X12_emit_X12_emit : Cond.selects RX12 yX12_emit yX12_emit ∈ gT := gT_pr (i := 49) (by decide +kernel) rfl
theorem wco_X12_isWord : Cond.code yX12_isWord cX12_isWord 2 (some .boolean) ∈ gT := gT_c6 (i := 150) (by decide +kernel) rfl
theorem mf_X12_isWord : gMf yX12_isWord cX12_isWord 2 (some .boolean) 1 := ⟨wco_X12_isWord, win_X12, ⟨by decide +kernel, by decide +kernel⟩, by decide +kernel⟩
theorem wml_X12_193 : Cond.methodLink RX12 193 yX12_isWord ∈ gT := gT_c6 (i := 147) (by decide +kernel) rfl
theorem wim_X12_isWord : Cond.instanceMethod yX12_isWord ∈ gT := gT_c6 (i := 149) (by decide +kernel) rfl
theorem wse_X12_X12_isWord_X12_isWord : Cond.selects RX12 yX12_isWord yX12_isWord ∈ gT := gT_pr (i := 40) (by decide +kernel) rfl
theorem wct_X12_199 : Cond.constant RX12 199 (13596964) ∈ gT := gT_c6 (i := 192) (by decide +kernel) rfl
theorem wct_X12_198 : Cond.constant RX12 198 (139109) ∈ gT := gT_c6 (i := 191) (by decide +kernel) rfl
theorem wct_X12_197 : Cond.constant RX12 197 (117696460) ∈ gT := gT_c6 (i := 190) (by decide +kernel) rfl
theorem wct_X12_196 : Cond.constant RX12 196 (173279) ∈ gT := gT_c6 (i := 189) (by decide +kernel) rfl
theorem wct_X12_192 : Cond.constant RX12 192 (332713832) ∈ gT := gT_c6 (i := 188) (by decide +kernel) rfl
theorem wco_X12_wantNumber : Cond.code yX12_wantNumber cX12_wantNumber 4 (some .int) ∈ gT := gT_c6 (i := 163) (by decide +kernel) rfl
theorem mf_X12_wantNumber : gMf yX12_wantNumber cX12_wantNumber 4 (some .int) 2 := ⟨wco_X12_wantNumber, win_X12, ⟨by decide +kernel, by decide +kernel⟩, by decide +kernel⟩
theorem wml_X12_202 : Cond.methodLink RX12 202 yX12_wantNumber ∈ gT := gT_c6 (i := 160) (by decide +kernel) rfl
theorem wim_X12_wantNumber : Cond.instanceMethod yX12_wantNumber ∈ gT := gT_c6 (i := 162) (by decide +kernel) rfl
theorem wse_X12_X12_wantNumber_X12_wantNumber : Cond.selects RX12 yX12_wantNumber yX12_wantNumber ∈ gT := gT_pr (i := 42) (by decide +kernel) rfl
theorem wct_X12_201 : Cond.constant RX12 201 (223456) ∈ gT := gT_c6 (i := 205) (by decide +kernel) rfl
theorem wct_X12_200 : Cond.constant RX12 200 (237742039) ∈ gT := gT_c6 (i := 151) (by decide +kernel) rfl
theorem wco_X12_isMark : Cond.code yX12_isMark cX12_isMark 2 (some .boolean) ∈ gT := gT_c6 (i := 179) (by decide +kernel) rfl
theorem mf_X12_isMark : gMf yX12_isMark cX12_isMark 2 (some .boolean) 1 := ⟨wco_X12_isMark, win_X12, ⟨by decide +kernel, by decide +kernel⟩, by decide +kernel⟩
theorem wml_X12_208 : Cond.methodLink RX12 208 yX12_isMark ∈ gT := gT_c6 (i := 176) (by decide +kernel) rfl
theorem wim_X12_isMark : Cond.instanceMethod yX12_isMark ∈ gT := gT_c6 (i := 178) (by decide +kernel) rfl
theorem wse_X12_X12_isMark_X12_isMark : Cond.selects RX12 yX12_isMark yX12_isMark ∈ gT := gT_pr (i := 46) (by decide +kernel) rfl
theorem wco_X12_wantValue : Cond.code yX12_wantValue cX12_wantValue 3 none ∈ gT := gT_c6 (i := 204) (by decide +kernel) rfl
theorem mf_X12_wantValue : gMf yX12_wantValue cX12_wantValue 3 none 0 := ⟨wco_X12_wantValue, win_X12, ⟨by decide +kernel, by decide +kernel⟩, by decide +kernel⟩
theorem wml_X12_205 : Cond.methodLink RX12 205 yX12_wantValue ∈ gT := gT_c6 (i := 201) (by decide +kernel) rfl
theorem wim_X12_wantValue : Cond.instanceMethod yX12_wantValue ∈ gT := gT_c6 (i := 203) (by decide +kernel) rfl
theorem wse_X12_X12_wantValue_X12_wantValue : Cond.selects RX12 yX12_wantValue yX12_wantValue ∈ gT := gT_pr (i := 51) (by decide +kernel) rfl
theorem wco_X12_want : Cond.code yX12_want cX12_want 2 none ∈ gT := gT_c6 (i := 167) (by decide +kernel) rfl
theorem mf_X12_want : gMf yX12_want cX12_want 2 none 1 := ⟨wco_X12_want, win_X12, ⟨by decide +kernel, by decide +kernel⟩, by decide +kernel⟩
theorem wml_X12_218 : Cond.methodLink RX12 218 yX12_want ∈ gT := gT_c6 (i := 164) (by decide +kernel) rfl
theorem wim_X12_want : Cond.instanceMethod yX12_want ∈ gT := gT_c6 (i := 166) (by decide +kernel) rfl
theorem wse_X12_X12_want_X12_want : Cond.selects RX12 yX12_want yX12_want ∈ gT := gT_pr (i := 43) (by decide +kernel) rfl
theorem wco_X12_wantSum : Cond.code yX12_wantSum cX12_wantSum 1 none ∈ gT := gT_c6 (i := 200) (by decide +kernel) rfl
theorem mf_X12_wantSum : gMf yX12_wantSum cX12_wantSum 1 none 0 := ⟨wco_X12_wantSum, win_X12, ⟨by decide +kernel, by decide +kernel⟩, by decide +kernel⟩
theorem wml_X12_215 : Cond.methodLink RX12 215 yX12_wantSum ∈ gT := gT_c6 (i := 197) (by decide +kernel) rfl
theorem wim_X12_wantSum : Cond.instanceMethod yX12_wantSum ∈ gT := gT_c6 (i := 199) (by decide +kernel) rfl
theorem wse_X12_X12_wantSum_X12_wantSum : Cond.selects RX12 yX12_wantSum yX12_wantSum ∈ gT := gT_pr (i := 50) (by decide +kernel) rfl
theorem wco_X12_factHere : Cond.code yX12_factHere cX12_factHere 1 (some .int) ∈ gT := gT_c6 (i := 187) (by decide +kernel) rfl
theorem mf_X12_factHere : gMf yX12_factHere cX12_factHere 1 (some .int) 0 := ⟨wco_X12_factHere, win_X12, ⟨by decide +kernel, by decide +kernel⟩, by decide +kernel⟩
theorem wml_X12_211 : Cond.methodLink RX12 211 yX12_factHere ∈ gT := gT_c6 (i := 184) (by decide +kernel) rfl
theorem wim_X12_factHere : Cond.instanceMethod yX12_factHere ∈ gT := gT_c6 (i := 186) (by decide +kernel) rfl
theorem wse_X12_X12_factHere_X12_factHere : Cond.selects RX12 yX12_factHere yX12_factHere ∈ gT := gT_pr (i := 48) (by decide +kernel) rfl
theorem wco_X12_settle : Cond.code yX12_settle cX12_settle 2 none ∈ gT := gT_c6 (i := 209) (by decide +kernel) rfl
theorem mf_X12_settle : gMf yX12_settle cX12_settle 2 none 1 := ⟨wco_X12_settle, win_X12, ⟨by decide +kernel, by decide +kernel⟩, by decide +kernel⟩
theorem wml_X12_228 : Cond.methodLink RX12 228 yX12_settle ∈ gT := gT_c6 (i := 206) (by decide +kernel) rfl
theorem wim_X12_settle : Cond.instanceMethod yX12_settle ∈ gT := gT_c6 (i := 208) (by decide +kernel) rfl
theorem wse_X12_X12_settle_X12_settle : Cond.selects RX12 yX12_settle yX12_settle ∈ gT := gT_pr (i := 52) (by decide +kernel) rfl
theorem wco_X12_hold : Cond.code yX12_hold cX12_hold 2 none ∈ gT := gT_c6 (i := 175) (by decide +kernel) rfl
theorem mf_X12_hold : gMf yX12_hold cX12_hold 2 none 1 := ⟨wco_X12_hold, win_X12, ⟨by decide +kernel, by decide +kernel⟩, by decide +kernel⟩
theorem wml_X12_222 : Cond.methodLink RX12 222 yX12_hold ∈ gT := gT_c6 (i := 172) (by decide +kernel) rfl
theorem wim_X12_hold : Cond.instanceMethod yX12_hold ∈ gT := gT_c6 (i := 174) (by decide +kernel) rfl
theorem wse_X12_X12_hold_X12_hold : Cond.selects RX12 yX12_hold yX12_hold ∈ gT := gT_pr (i := 45) (by decide +kernel) rfl
theorem wco_X12_wantAsk : Cond.code yX12_wantAsk cX12_wantAsk 3 none ∈ gT := gT_c6 (i := 183) (by decide +kernel) rfl
theorem mf_X12_wantAsk : gMf yX12_wantAsk cX12_wantAsk 3 none 0 := ⟨wco_X12_wantAsk, win_X12, ⟨by decide +kernel, by decide +kernel⟩, by decide +kernel⟩
theorem wml_X12_225 : Cond.methodLink RX12 225 yX12_wantAsk ∈ gT := gT_c6 (i := 180) (by decide +kernel) rfl
theorem wim_X12_wantAsk : Cond.instanceMethod yX12_wantAsk ∈ gT := gT_c6 (i := 182) (by decide +kernel) rfl
theorem wse_X12_X12_wantAsk_X12_wantAsk : Cond.selects RX12 yX12_wantAsk yX12_wantAsk ∈ gT := gT_pr (i := 47) (by decide +kernel) rfl
theorem wct_X12_231 : Cond.constant RX12 231 (4075709) ∈ gT := gT_c6 (i := 146) (by decide +kernel) rfl
theorem wct_X12_235 : Cond.constant RX12 235 (40187) ∈ gT := gT_c6 (i := 155) (by decide +kernel) rfl
theorem wct_X12_234 : Cond.constant RX12 234 (31735670) ∈ gT := gT_c6 (i := 154) (by decide +kernel) rfl
theorem wct_X12_233 : Cond.constant RX12 233 (90302) ∈ gT := gT_c6 (i := 153) (by decide +kernel) rfl
theorem wct_X12_232 : Cond.constant RX12 232 (9596021) ∈ gT := gT_c6 (i := 152) (by decide +kernel) rfl
theorem gg_X12_40 : ∀ t ∈ [11], gFldG RX12 40 t 16 ∧ gIsR (gFt t 16) = true := List.forall_mem_cons.mpr ⟨⟨gf_X12_40_11.g, rfl⟩, fun _ h => absurd h List.not_mem_nil⟩
theorem wco_X12_wantCond : Cond.code yX12_wantCond cX12_wantCond 5 none ∈ gT := gT_c6 (i := 171) (by decide +kernel) rfl
theorem mf_X12_wantCond : gMf yX12_wantCond cX12_wantCond 5 none 0 := ⟨wco_X12_wantCond, win_X12, ⟨by decide +kernel, by decide +kernel⟩, by decide +kernel⟩
theorem wml_X12_239 : Cond.methodLink RX12 239 yX12_wantCond ∈ gT := gT_c6 (i := 168) (by decide +kernel) rfl
theorem wim_X12_wantCond : Cond.instanceMethod yX12_wantCond ∈ gT := gT_c6 (i := 170) (by decide +kernel) rfl
theorem wse_X12_X12_wantCond_X12_wantCond : Cond.selects RX12 yX12_wantCond yX12_wantCond ∈ gT := gT_pr (i := 44) (by decide +kernel) rfl
theorem wco_X12_sortHere : Cond.code yX12_sortHere cX12_sortHere 1 (some .int) ∈ gT := gT_c6 (i := 145) (by decide +kernel) rfl
theorem mf_X12_sortHere : gMf yX12_sortHere cX12_sortHere 1 (some .int) 0 := ⟨wco_X12_sortHere, win_X12, ⟨by decide +kernel, by decide +kernel⟩, by decide +kernel⟩
theorem wml_X12_236 : Cond.methodLink RX12 236 yX12_sortHere ∈ gT := gT_c6 (i := 142) (by decide +kernel) rfl
theorem wim_X12_sortHere : Cond.instanceMethod yX12_sortHere ∈ gT := gT_c6 (i := 144) (by decide +kernel) rfl
theorem wse_X12_X12_sortHere_X12_sortHere : Cond.selects RX12 yX12_sortHere yX12_sortHere ∈ gT := gT_pr (i := 39) (by decide +kernel) rfl
theorem gg_X12_28 : ∀ t ∈ [11], gFldG RX12 28 t 6 ∧ gIsR (gFt t 6) = true := List.forall_mem_cons.mpr ⟨⟨gf_X12_28_11.g, rfl⟩, fun _ h => absurd h List.not_mem_nil⟩
theorem gg_X12_25 : ∀ t ∈ [11], gFldG RX12 25 t 5 ∧ gIsR (gFt t 5) = true := List.forall_mem_cons.mpr ⟨⟨gf_X12_25_11.g, rfl⟩, fun _ h => absurd h List.not_mem_nil⟩
theorem gg_X12_22 : ∀ t ∈ [11], gFldG RX12 22 t 4 ∧ gIsR (gFt t 4) = true := List.forall_mem_cons.mpr ⟨⟨gf_X12_22_11.g, rfl⟩, fun _ h => absurd h List.not_mem_nil⟩
theorem wco_X12_wantLine : Cond.code yX12_wantLine cX12_wantLine 4 none ∈ gT := gT_c6 (i := 141) (by decide +kernel) rfl
theorem mf_X12_wantLine : gMf yX12_wantLine cX12_wantLine 4 none 1 := ⟨wco_X12_wantLine, win_X12, ⟨by decide +kernel, by decide +kernel⟩, by decide +kernel⟩
theorem wml_X12_242 : Cond.methodLink RX12 242 yX12_wantLine ∈ gT := gT_c6 (i := 138) (by decide +kernel) rfl
theorem wim_X12_wantLine : Cond.instanceMethod yX12_wantLine ∈ gT := gT_c6 (i := 140) (by decide +kernel) rfl
theorem wse_X12_X12_wantLine_X12_wantLine : Cond.selects RX12 yX12_wantLine yX12_wantLine ∈ gT := gT_pr (i := 38) (by decide +kernel) rfl
theorem wco_X12_ofLine : Cond.code yX12_ofLine cX12_ofLine 4 (some .int) ∈ gT := gT_c6 (i := 225) (by decide +kernel) rfl
theorem mf_X12_ofLine : gMf yX12_ofLine cX12_ofLine 4 (some .int) 3 := ⟨wco_X12_ofLine, win_X12, ⟨by decide +kernel, by decide +kernel⟩, by decide +kernel⟩
theorem wml_X12_245 : Cond.methodLink RX12 245 yX12_ofLine ∈ gT := gT_c6 (i := 222) (by decide +kernel) rfl
theorem wim_X12_ofLine : Cond.instanceMethod yX12_ofLine ∈ gT := gT_c6 (i := 224) (by decide +kernel) rfl
theorem wse_X12_X12_ofLine_X12_ofLine : Cond.selects RX12 yX12_ofLine yX12_ofLine ∈ gT := gT_pr (i := 55) (by decide +kernel) rfl
theorem wco_X12_isVersion : Cond.code yX12_isVersion cX12_isVersion 2 (some .boolean) ∈ gT := gT_c6 (i := 217) (by decide +kernel) rfl
theorem mf_X12_isVersion : gMf yX12_isVersion cX12_isVersion 2 (some .boolean) 1 := ⟨wco_X12_isVersion, win_X12, ⟨by decide +kernel, by decide +kernel⟩, by decide +kernel⟩
theorem wml_X12_249 : Cond.methodLink RX12 249 yX12_isVersion ∈ gT := gT_c6 (i := 214) (by decide +kernel) rfl
theorem wim_X12_isVersion : Cond.instanceMethod yX12_isVersion ∈ gT := gT_c6 (i := 216) (by decide +kernel) rfl
theorem wse_X12_X12_isVersion_X12_isVersion : Cond.selects RX12 yX12_isVersion yX12_isVersion ∈ gT := gT_pr (i := 53) (by decide +kernel) rfl
theorem wco_X12_looksBack : Cond.code yX12_looksBack cX12_looksBack 4 (some .boolean) ∈ gT := gT_c6 (i := 221) (by decide +kernel) rfl
theorem mf_X12_looksBack : gMf yX12_looksBack cX12_looksBack 4 (some .boolean) 1 := ⟨wco_X12_looksBack, win_X12, ⟨by decide +kernel, by decide +kernel⟩, by decide +kernel⟩
theorem wml_X12_252 : Cond.methodLink RX12 252 yX12_looksBack ∈ gT := gT_c6 (i := 218) (by decide +kernel) rfl
theorem wim_X12_looksBack : Cond.instanceMethod yX12_looksBack ∈ gT := gT_c6 (i := 220) (by decide +kernel) rfl
theorem wse_X12_X12_looksBack_X12_looksBack : Cond.selects RX12 yX12_looksBack yX12_looksBack ∈ gT := gT_pr (i := 54) (by decide +kernel) rfl
theorem wco_X12_lawOf : Cond.code yX12_lawOf cX12_lawOf 7 (some .int) ∈ gT := gT_c6 (i := 237) (by decide +kernel) rfl
theorem mf_X12_lawOf : gMf yX12_lawOf cX12_lawOf 7 (some .int) 2 := ⟨wco_X12_lawOf, win_X12, ⟨by decide +kernel, by decide +kernel⟩, by decide +kernel⟩
theorem wml_X12_255 : Cond.methodLink RX12 255 yX12_lawOf ∈ gT := gT_c6 (i := 234) (by decide +kernel) rfl
theorem wim_X12_lawOf : Cond.instanceMethod yX12_lawOf ∈ gT := gT_c6 (i := 236) (by decide +kernel) rfl
theorem wse_X12_X12_lawOf_X12_lawOf : Cond.selects RX12 yX12_lawOf yX12_lawOf ∈ gT := gT_pr (i := 57) (by decide +kernel) rfl
theorem wco_X12_toldOf : Cond.code yX12_toldOf cX12_toldOf 6 (some .int) ∈ gT := gT_c7 (i := 17) (by decide +kernel) rfl
theorem mf_X12_toldOf : gMf yX12_toldOf cX12_toldOf 6 (some .int) 3 := ⟨wco_X12_toldOf, win_X12, ⟨by decide +kernel, by decide +kernel⟩, by decide +kernel⟩
theorem wml_X12_261 : Cond.methodLink RX12 261 yX12_toldOf ∈ gT := gT_c7 (i := 14) (by decide +kernel) rfl
theorem wim_X12_toldOf : Cond.instanceMethod yX12_toldOf ∈ gT := gT_c7 (i := 16) (by decide +kernel) rfl
theorem wse_X12_X12_toldOf_X12_toldOf : Cond.selects RX12 yX12_toldOf yX12_toldOf ∈ gT := gT_pr (i := 61) (by decide +kernel) rfl
theorem wco_X12_oldOf : Cond.code yX12_oldOf cX12_oldOf 4 (some .int) ∈ gT := gT_c7 (i := 13) (by decide +kernel) rfl
theorem mf_X12_oldOf : gMf yX12_oldOf cX12_oldOf 4 (some .int) 1 := ⟨wco_X12_oldOf, win_X12, ⟨by decide +kernel, by decide +kernel⟩, by decide +kernel⟩
theorem wml_X12_258 : Cond.methodLink RX12 258 yX12_oldOf ∈ gT := gT_c7 (i := 10) (by decide +kernel) rfl
theorem wim_X12_oldOf : Cond.instanceMethod yX12_oldOf ∈ gT := gT_c7 (i := 12) (by decide +kernel) rfl
theorem wse_X12_X12_oldOf_X12_oldOf : Cond.selects RX12 yX12_oldOf yX12_oldOf ∈ gT := gT_pr (i := 60) (by decide +kernel) rfl
theorem wco_X12_isYoung : Cond.code yX12_isYoung cX12_isYoung 2 (some .boolean) ∈ gT := gT_c7 (i := 43) (by decide +kernel) rfl
theorem mf_X12_isYoung : gMf yX12_isYoung cX12_isYoung 2 (some .boolean) 1 := ⟨wco_X12_isYoung, win_X12, ⟨by decide +kernel, by decide +kernel⟩, by decide +kernel⟩
theorem wml_X12_264 : Cond.methodLink RX12 264 yX12_isYoung ∈ gT := gT_c7 (i := 40) (by decide +kernel) rfl
theorem wim_X12_isYoung : Cond.instanceMethod yX12_isYoung ∈ gT := gT_c7 (i := 42) (by decide +kernel) rfl
theorem wse_X12_X12_isYoung_X12_isYoung : Cond.selects RX12 yX12_isYoung yX12_isYoung ∈ gT := gT_pr (i := 65) (by decide +kernel) rfl
theorem gg_X12_52 : ∀ t ∈ [11], gFldG RX12 52 t 22 ∧ gIsR (gFt t 22) = true := List.forall_mem_cons.mpr ⟨⟨gf_X12_52_11.g, rfl⟩, fun _ h => absurd h List.not_mem_nil⟩
theorem wco_X12_joins : Cond.code yX12_joins cX12_joins 1 (some .boolean) ∈ gT := gT_c7 (i := 32) (by decide +kernel) rfl
theorem mf_X12_joins : gMf yX12_joins cX12_joins 1 (some .boolean) 1 := ⟨wco_X12_joins, win_X12, ⟨by decide +kernel, by decide +kernel⟩, by decide +kernel⟩
theorem wml_X12_267 : Cond.methodLink RX12 267 yX12_joins ∈ gT := gT_c7 (i := 30) (by decide +kernel) rfl
theorem wst_X12_joins : Cond.static yX12_joins ∈ gT := gT_c7 (i := 31) (by decide +kernel) rfl
theorem wco_X12_valueOf : Cond.code yX12_valueOf cX12_valueOf 5 (some .int) ∈ gT := gT_c7 (i := 39) (by decide +kernel) rfl
theorem mf_X12_valueOf : gMf yX12_valueOf cX12_valueOf 5 (some .int) 4 := ⟨wco_X12_valueOf, win_X12, ⟨by decide +kernel, by decide +kernel⟩, by decide +kernel⟩
theorem wml_X12_273 : Cond.methodLink RX12 273 yX12_valueOf ∈ gT := gT_c7 (i := 36) (by decide +kernel) rfl
theorem wim_X12_valueOf : Cond.instanceMethod yX12_valueOf ∈ gT := gT_c7 (i := 38) (by decide +kernel) rfl
theorem wse_X12_X12_valueOf_X12_valueOf : Cond.selects RX12 yX12_valueOf yX12_valueOf ∈ gT := gT_pr (i := 64) (by decide +kernel) rfl
theorem wco_X12_joined : Cond.code yX12_joined cX12_joined 3 (some .int) ∈ gT := gT_c7 (i := 35) (by decide +kernel) rfl
theorem mf_X12_joined : gMf yX12_joined cX12_joined 3 (some .int) 3 := ⟨wco_X12_joined, win_X12, ⟨by decide +kernel, by decide +kernel⟩, by decide +kernel⟩
theorem wml_X12_270 : Cond.methodLink RX12 270 yX12_joined ∈ gT := gT_c7 (i := 33) (by decide +kernel) rfl
theorem wst_X12_joined : Cond.static yX12_joined ∈ gT := gT_c7 (i := 34) (by decide +kernel) rfl
theorem wco_X12_holds : Cond.code yX12_holds cX12_holds 10 (some .boolean) ∈ gT := gT_c7 (i := 29) (by decide +kernel) rfl
theorem mf_X12_holds : gMf yX12_holds cX12_holds 10 (some .boolean) 5 := ⟨wco_X12_holds, win_X12, ⟨by decide +kernel, by decide +kernel⟩, by decide +kernel⟩
theorem wml_X12_280 : Cond.methodLink RX12 280 yX12_holds ∈ gT := gT_c7 (i := 26) (by decide +kernel) rfl
theorem wim_X12_holds : Cond.instanceMethod yX12_holds ∈ gT := gT_c7 (i := 28) (by decide +kernel) rfl
theorem wse_X12_X12_holds_X12_holds : Cond.selects RX12 yX12_holds yX12_holds ∈ gT := gT_pr (i := 63) (by decide +kernel) rfl
theorem wco_X12_pointsOf : Cond.code yX12_pointsOf cX12_pointsOf 9 (some .int) ∈ gT := gT_c7 (i := 9) (by decide +kernel) rfl
theorem mf_X12_pointsOf : gMf yX12_pointsOf cX12_pointsOf 9 (some .int) 3 := ⟨wco_X12_pointsOf, win_X12, ⟨by decide +kernel, by decide +kernel⟩, by decide +kernel⟩
theorem wml_X12_277 : Cond.methodLink RX12 277 yX12_pointsOf ∈ gT := gT_c7 (i := 6) (by decide +kernel) rfl
theorem wim_X12_pointsOf : Cond.instanceMethod yX12_pointsOf ∈ gT := gT_c7 (i := 8) (by decide +kernel) rfl
theorem wse_X12_X12_pointsOf_X12_pointsOf : Cond.selects RX12 yX12_pointsOf yX12_pointsOf ∈ gT := gT_pr (i := 59) (by decide +kernel) rfl
theorem wco_X12_graveOf : Cond.code yX12_graveOf cX12_graveOf 8 (some .int) ∈ gT := gT_c7 (i := 25) (by decide +kernel) rfl
theorem mf_X12_graveOf : gMf yX12_graveOf cX12_graveOf 8 (some .int) 3 := ⟨wco_X12_graveOf, win_X12, ⟨by decide +kernel, by decide +kernel⟩, by decide +kernel⟩
theorem wml_X12_284 : Cond.methodLink RX12 284 yX12_graveOf ∈ gT := gT_c7 (i := 22) (by decide +kernel) rfl
theorem wim_X12_graveOf : Cond.instanceMethod yX12_graveOf ∈ gT := gT_c7 (i := 24) (by decide +kernel) rfl
theorem wse_X12_X12_graveOf_X12_graveOf : Cond.selects RX12 yX12_graveOf yX12_graveOf ∈ gT := gT_pr (i := 62) (by decide +kernel) rfl
theorem wco_X12_canAsk : Cond.code yX12_canAsk cX12_canAsk 4 (some .boolean) ∈ gT := gT_c7 (i := 5) (by decide +kernel) rfl
theorem mf_X12_canAsk : gMf yX12_canAsk cX12_canAsk 4 (some .boolean) 3 := ⟨wco_X12_canAsk, win_X12, ⟨by decide +kernel, by decide +kernel⟩, by decide +kernel⟩
theorem wml_X12_287 : Cond.methodLink RX12 287 yX12_canAsk ∈ gT := gT_c7 (i := 2) (by decide +kernel) rfl
theorem wim_X12_canAsk : Cond.instanceMethod yX12_canAsk ∈ gT := gT_c7 (i := 4) (by decide +kernel) rfl
theorem wse_X12_X12_canAsk_X12_canAsk : Cond.selects RX12 yX12_canAsk yX12_canAsk ∈ gT := gT_pr (i := 58) (by decide +kernel) rfl
theorem wco_X12_rangeOf : Cond.code yX12_rangeOf cX12_rangeOf 9 (some .int) ∈ gT := gT_c7 (i := 55) (by decide +kernel) rfl
theorem mf_X12_rangeOf : gMf yX12_rangeOf cX12_rangeOf 9 (some .int) 3 := ⟨wco_X12_rangeOf, win_X12, ⟨by decide +kernel, by decide +kernel⟩, by decide +kernel⟩
theorem wml_X12_290 : Cond.methodLink RX12 290 yX12_rangeOf ∈ gT := gT_c7 (i := 52) (by decide +kernel) rfl
theorem wim_X12_rangeOf : Cond.instanceMethod yX12_rangeOf ∈ gT := gT_c7 (i := 54) (by decide +kernel) rfl
theorem wse_X12_X12_rangeOf_X12_rangeOf : Cond.selects RX12 yX12_rangeOf yX12_rangeOf ∈ gT := gT_pr (i := 67) (by decide +kernel) rfl
theorem wct_X12_293 : Cond.constant RX12 293 (100000) ∈ gT := gT_c7 (i := 60) (by decide +kernel) rfl
theorem wco_X12_isTerm : Cond.code yX12_isTerm cX12_isTerm 2 (some .boolean) ∈ gT := gT_c7 (i := 68) (by decide +kernel) rfl
theorem mf_X12_isTerm : gMf yX12_isTerm cX12_isTerm 2 (some .boolean) 1 := ⟨wco_X12_isTerm, win_X12, ⟨by decide +kernel, by decide +kernel⟩, by decide +kernel⟩
theorem wml_X12_294 : Cond.methodLink RX12 294 yX12_isTerm ∈ gT := gT_c7 (i := 65) (by decide +kernel) rfl
theorem wim_X12_isTerm : Cond.instanceMethod yX12_isTerm ∈ gT := gT_c7 (i := 67) (by decide +kernel) rfl
theorem wse_X12_X12_isTerm_X12_isTerm : Cond.selects RX12 yX12_isTerm yX12_isTerm ∈ gT := gT_pr (i := 68) (by decide +kernel) rfl
theorem wco_X12_standing : Cond.code yX12_standing cX12_standing 4 (some .int) ∈ gT := gT_c7 (i := 72) (by decide +kernel) rfl
theorem mf_X12_standing : gMf yX12_standing cX12_standing 4 (some .int) 1 := ⟨wco_X12_standing, win_X12, ⟨by decide +kernel, by decide +kernel⟩, by decide +kernel⟩
theorem wml_X12_297 : Cond.methodLink RX12 297 yX12_standing ∈ gT := gT_c7 (i := 69) (by decide +kernel) rfl
theorem wim_X12_standing : Cond.instanceMethod yX12_standing ∈ gT := gT_c7 (i := 71) (by decide +kernel) rfl
theorem wse_X12_X12_standing_X12_standing : Cond.selects RX12 yX12_standing yX12_standing ∈ gT := gT_pr (i := 69) (by decide +kernel) rfl
theorem wco_X12_isAmiss : Cond.code yX12_isAmiss cX12_isAmiss 4 (some .boolean) ∈ gT := gT_c7 (i := 80) (by decide +kernel) rfl
theorem mf_X12_isAmiss : gMf yX12_isAmiss cX12_isAmiss 4 (some .boolean) 2 := ⟨wco_X12_isAmiss, win_X12, ⟨by decide +kernel, by decide +kernel⟩, by decide +kernel⟩
theorem wml_X12_300 : Cond.methodLink RX12 300 yX12_isAmiss ∈ gT := gT_c7 (i := 77) (by decide +kernel) rfl
theorem wim_X12_isAmiss : Cond.instanceMethod yX12_isAmiss ∈ gT := gT_c7 (i := 79) (by decide +kernel) rfl
theorem wse_X12_X12_isAmiss_X12_isAmiss : Cond.selects RX12 yX12_isAmiss yX12_isAmiss ∈ gT := gT_pr (i := 70) (by decide +kernel) rfl
theorem wco_X12_runsBeside : Cond.code yX12_runsBeside cX12_runsBeside 8 (some .boolean) ∈ gT := gT_c7 (i := 108) (by decide +kernel) rfl
theorem mf_X12_runsBeside : gMf yX12_runsBeside cX12_runsBeside 8 (some .boolean) 2 := ⟨wco_X12_runsBeside, win_X12, ⟨by decide +kernel, by decide +kernel⟩, by decide +kernel⟩
theorem wml_X12_303 : Cond.methodLink RX12 303 yX12_runsBeside ∈ gT := gT_c7 (i := 105) (by decide +kernel) rfl
theorem wim_X12_runsBeside : Cond.instanceMethod yX12_runsBeside ∈ gT := gT_c7 (i := 107) (by decide +kernel) rfl
theorem wse_X12_X12_runsBeside_X12_runsBeside : Cond.selects RX12 yX12_runsBeside yX12_runsBeside ∈ gT := gT_pr (i := 75) (by decide +kernel) rfl
theorem wfl_X12_306 : Cond.fieldLink RX12 306 "PenaltyGridModel" "timeMany" "I" ∈ gT := gT_c5 (i := 169) (by decide +kernel) rfl
theorem gf_X12_306_11 : gFld RX12 306 11 23 := ⟨RX12, TX12, 45, "PenaltyGridModel", cls_11, by decide, wfl_X12_306, Or.inl rfl, Or.inl rfl⟩
theorem gg_X12_306 : ∀ t ∈ [11], gFldG RX12 306 t 23 ∧ gIsR (gFt t 23) = false := List.forall_mem_cons.mpr ⟨⟨gf_X12_306_11.g, rfl⟩, fun _ h => absurd h List.not_mem_nil⟩
theorem gg_X12_61 : ∀ t ∈ [11], gFldG RX12 61 t 26 ∧ gIsR (gFt t 26) = true := List.forall_mem_cons.mpr ⟨⟨gf_X12_61_11.g, rfl⟩, fun _ h => absurd h List.not_mem_nil⟩
theorem wco_X12_whose : Cond.code yX12_whose cX12_whose 2 (some .int) ∈ gT := gT_c7 (i := 96) (by decide +kernel) rfl
theorem mf_X12_whose : gMf yX12_whose cX12_whose 2 (some .int) 1 := ⟨wco_X12_whose, win_X12, ⟨by decide +kernel, by decide +kernel⟩, by decide +kernel⟩
theorem wml_X12_309 : Cond.methodLink RX12 309 yX12_whose ∈ gT := gT_c7 (i := 93) (by decide +kernel) rfl
theorem wim_X12_whose : Cond.instanceMethod yX12_whose ∈ gT := gT_c7 (i := 95) (by decide +kernel) rfl
theorem wse_X12_X12_whose_X12_whose : Cond.selects RX12 yX12_whose yX12_whose ∈ gT := gT_pr (i := 72) (by decide +kernel) rfl
theorem gg_X12_55 : ∀ t ∈ [11], gFldG RX12 55 t 24 ∧ gIsR (gFt t 24) = true := List.forall_mem_cons.mpr ⟨⟨gf_X12_55_11.g, rfl⟩, fun _ h => absurd h List.not_mem_nil⟩
theorem gg_X12_58 : ∀ t ∈ [11], gFldG RX12 58 t 25 ∧ gIsR (gFt t 25) = true := List.forall_mem_cons.mpr ⟨⟨gf_X12_58_11.g, rfl⟩, fun _ h => absurd h List.not_mem_nil⟩
theorem wco_X12_lastEnd : Cond.code yX12_lastEnd cX12_lastEnd 3 (some .int) ∈ gT := gT_c7 (i := 100) (by decide +kernel) rfl
theorem mf_X12_lastEnd : gMf yX12_lastEnd cX12_lastEnd 3 (some .int) 0 := ⟨wco_X12_lastEnd, win_X12, ⟨by decide +kernel, by decide +kernel⟩, by decide +kernel⟩
theorem wml_X12_312 : Cond.methodLink RX12 312 yX12_lastEnd ∈ gT := gT_c7 (i := 97) (by decide +kernel) rfl
theorem wim_X12_lastEnd : Cond.instanceMethod yX12_lastEnd ∈ gT := gT_c7 (i := 99) (by decide +kernel) rfl
theorem wse_X12_X12_lastEnd_X12_lastEnd : Cond.selects RX12 yX12_lastEnd yX12_lastEnd ∈ gT := gT_pr (i := 73) (by decide +kernel) rfl
theorem wco_X12_beginOf : Cond.code yX12_beginOf cX12_beginOf 4 (some .int) ∈ gT := gT_c7 (i := 104) (by decide +kernel) rfl
theorem mf_X12_beginOf : gMf yX12_beginOf cX12_beginOf 4 (some .int) 3 := ⟨wco_X12_beginOf, win_X12, ⟨by decide +kernel, by decide +kernel⟩, by decide +kernel⟩
theorem wml_X12_315 : Cond.methodLink RX12 315 yX12_beginOf ∈ gT := gT_c7 (i := 101) (by decide +kernel) rfl
theorem wim_X12_beginOf : Cond.instanceMethod yX12_beginOf ∈ gT := gT_c7 (i := 103) (by decide +kernel) rfl
theorem wse_X12_X12_beginOf_X12_beginOf : Cond.selects RX12 yX12_beginOf yX12_beginOf ∈ gT := gT_pr (i := 74) (by decide +kernel) rfl
theorem gp_X12_306 {nm : String} : ∀ t ∈ [11], gFld RX12 306 t 23 ∧ gFt t 23 = .int ∧ (nm = "<init>" ∨ ∀ (C : String) (T : u_T) (N : Nat), vwCl[t]? = some (C, T, N) → (T 23).2.2.2 = false) := List.forall_mem_cons.mpr ⟨⟨gf_X12_306_11, rfl, Or.inr (fun _ _ _ h => by cases h; rfl)⟩, fun _ h => absurd h List.not_mem_nil⟩
theorem gg_X12_34 : ∀ t ∈ [11], gFldG RX12 34 t 8 ∧ gIsR (gFt t 8) = true := List.forall_mem_cons.mpr ⟨⟨gf_X12_34_11.g, rfl⟩, fun _ h => absurd h List.not_mem_nil⟩
theorem wco_X12_heldAhead : Cond.code yX12_heldAhead cX12_heldAhead 7 (some .int) ∈ gT := gT_c7 (i := 116) (by decide +kernel) rfl
theorem mf_X12_heldAhead : gMf yX12_heldAhead cX12_heldAhead 7 (some .int) 2 := ⟨wco_X12_heldAhead, win_X12, ⟨by decide +kernel, by decide +kernel⟩, by decide +kernel⟩
theorem wml_X12_318 : Cond.methodLink RX12 318 yX12_heldAhead ∈ gT := gT_c7 (i := 113) (by decide +kernel) rfl
theorem wim_X12_heldAhead : Cond.instanceMethod yX12_heldAhead ∈ gT := gT_c7 (i := 115) (by decide +kernel) rfl
theorem wse_X12_X12_heldAhead_X12_heldAhead : Cond.selects RX12 yX12_heldAhead yX12_heldAhead ∈ gT := gT_pr (i := 77) (by decide +kernel) rfl
theorem wco_X12_findTime : Cond.code yX12_findTime cX12_findTime 4 none ∈ gT := gT_c7 (i := 92) (by decide +kernel) rfl
theorem mf_X12_findTime : gMf yX12_findTime cX12_findTime 4 none 2 := ⟨wco_X12_findTime, win_X12, ⟨by decide +kernel, by decide +kernel⟩, by decide +kernel⟩
theorem wml_X12_321 : Cond.methodLink RX12 321 yX12_findTime ∈ gT := gT_c7 (i := 89) (by decide +kernel) rfl
theorem wim_X12_findTime : Cond.instanceMethod yX12_findTime ∈ gT := gT_c7 (i := 91) (by decide +kernel) rfl
theorem wse_X12_X12_findTime_X12_findTime : Cond.selects RX12 yX12_findTime yX12_findTime ∈ gT := gT_pr (i := 71) (by decide +kernel) rfl
theorem wco_X12_creditOf : Cond.code yX12_creditOf cX12_creditOf 2 (some .int) ∈ gT := gT_c7 (i := 112) (by decide +kernel) rfl
theorem mf_X12_creditOf : gMf yX12_creditOf cX12_creditOf 2 (some .int) 1 := ⟨wco_X12_creditOf, win_X12, ⟨by decide +kernel, by decide +kernel⟩, by decide +kernel⟩
theorem wml_X12_325 : Cond.methodLink RX12 325 yX12_creditOf ∈ gT := gT_c7 (i := 109) (by decide +kernel) rfl
theorem wim_X12_creditOf : Cond.instanceMethod yX12_creditOf ∈ gT := gT_c7 (i := 111) (by decide +kernel) rfl
theorem wse_X12_X12_creditOf_X12_creditOf : Cond.selects RX12 yX12_creditOf yX12_creditOf ∈ gT := gT_pr (i := 76) (by decide +kernel) rfl
theorem wco_X12_releaseOf : Cond.code yX12_releaseOf cX12_releaseOf 5 (some .int) ∈ gT := gT_c7 (i := 128) (by decide +kernel) rfl
theorem mf_X12_releaseOf : gMf yX12_releaseOf cX12_releaseOf 5 (some .int) 2 := ⟨wco_X12_releaseOf, win_X12, ⟨by decide +kernel, by decide +kernel⟩, by decide +kernel⟩
theorem wml_X12_328 : Cond.methodLink RX12 328 yX12_releaseOf ∈ gT := gT_c7 (i := 125) (by decide +kernel) rfl
theorem wim_X12_releaseOf : Cond.instanceMethod yX12_releaseOf ∈ gT := gT_c7 (i := 127) (by decide +kernel) rfl
theorem wse_X12_X12_releaseOf_X12_releaseOf : Cond.selects RX12 yX12_releaseOf yX12_releaseOf ∈ gT := gT_pr (i := 78) (by decide +kernel) rfl
theorem wfl_X12_331 : Cond.fieldLink RX12 331 "PenaltyGridModel" "rowMany" "I" ∈ gT := gT_c5 (i := 173) (by decide +kernel) rfl
theorem gf_X12_331_11 : gFld RX12 331 11 27 := ⟨RX12, TX12, 45, "PenaltyGridModel", cls_11, by decide, wfl_X12_331, Or.inl rfl, Or.inl rfl⟩
theorem gg_X12_331 : ∀ t ∈ [11], gFldG RX12 331 t 27 ∧ gIsR (gFt t 27) = false := List.forall_mem_cons.mpr ⟨⟨gf_X12_331_11.g, rfl⟩, fun _ h => absurd h List.not_mem_nil⟩
theorem gg_X12_64 : ∀ t ∈ [11], gFldG RX12 64 t 28 ∧ gIsR (gFt t 28) = true := List.forall_mem_cons.mpr ⟨⟨gf_X12_64_11.g, rfl⟩, fun _ h => absurd h List.not_mem_nil⟩
theorem gp_X12_331 {nm : String} : ∀ t ∈ [11], gFld RX12 331 t 27 ∧ gFt t 27 = .int ∧ (nm = "<init>" ∨ ∀ (C : String) (T : u_T) (N : Nat), vwCl[t]? = some (C, T, N) → (T 27).2.2.2 = false) := List.forall_mem_cons.mpr ⟨⟨gf_X12_331_11, rfl, Or.inr (fun _ _ _ h => by cases h; rfl)⟩, fun _ h => absurd h List.not_mem_nil⟩
theorem wco_X12_isRow : Cond.code yX12_isRow cX12_isRow 3 (some .boolean) ∈ gT := gT_c7 (i := 144) (by decide +kernel) rfl
theorem mf_X12_isRow : gMf yX12_isRow cX12_isRow 3 (some .boolean) 2 := ⟨wco_X12_isRow, win_X12, ⟨by decide +kernel, by decide +kernel⟩, by decide +kernel⟩
theorem wml_X12_334 : Cond.methodLink RX12 334 yX12_isRow ∈ gT := gT_c7 (i := 141) (by decide +kernel) rfl
theorem wim_X12_isRow : Cond.instanceMethod yX12_isRow ∈ gT := gT_c7 (i := 143) (by decide +kernel) rfl
theorem wse_X12_X12_isRow_X12_isRow : Cond.selects RX12 yX12_isRow yX12_isRow ∈ gT := gT_pr (i := 79) (by decide +kernel) rfl
theorem gg_X12_68 : ∀ t ∈ [11], gFldG RX12 68 t 29 ∧ gIsR (gFt t 29) = true := List.forall_mem_cons.mpr ⟨⟨gf_X12_68_11.g, rfl⟩, fun _ h => absurd h List.not_mem_nil⟩
theorem wco_X12_isDrawn : Cond.code yX12_isDrawn cX12_isDrawn 3 (some .boolean) ∈ gT := gT_c7 (i := 160) (by decide +kernel) rfl
theorem mf_X12_isDrawn : gMf yX12_isDrawn cX12_isDrawn 3 (some .boolean) 2 := ⟨wco_X12_isDrawn, win_X12, ⟨by decide +kernel, by decide +kernel⟩, by decide +kernel⟩
theorem wml_X12_337 : Cond.methodLink RX12 337 yX12_isDrawn ∈ gT := gT_c7 (i := 157) (by decide +kernel) rfl
theorem wim_X12_isDrawn : Cond.instanceMethod yX12_isDrawn ∈ gT := gT_c7 (i := 159) (by decide +kernel) rfl
theorem wse_X12_X12_isDrawn_X12_isDrawn : Cond.selects RX12 yX12_isDrawn yX12_isDrawn ∈ gT := gT_pr (i := 80) (by decide +kernel) rfl
theorem wco_X12_waysOf : Cond.code yX12_waysOf cX12_waysOf 8 (some .int) ∈ gT := gT_c7 (i := 165) (by decide +kernel) rfl
theorem mf_X12_waysOf : gMf yX12_waysOf cX12_waysOf 8 (some .int) 3 := ⟨wco_X12_waysOf, win_X12, ⟨by decide +kernel, by decide +kernel⟩, by decide +kernel⟩
theorem wml_X12_341 : Cond.methodLink RX12 341 yX12_waysOf ∈ gT := gT_c7 (i := 162) (by decide +kernel) rfl
theorem wim_X12_waysOf : Cond.instanceMethod yX12_waysOf ∈ gT := gT_c7 (i := 164) (by decide +kernel) rfl
theorem wse_X12_X12_waysOf_X12_waysOf : Cond.selects RX12 yX12_waysOf yX12_waysOf ∈ gT := gT_pr (i := 81) (by decide +kernel) rfl
theorem wct_X12_340 : Cond.constant RX12 340 (1000000) ∈ gT := gT_c7 (i := 161) (by decide +kernel) rfl
theorem wco_X12_pointsBy : Cond.code yX12_pointsBy cX12_pointsBy 4 (some .int) ∈ gT := gT_c7 (i := 181) (by decide +kernel) rfl
theorem mf_X12_pointsBy : gMf yX12_pointsBy cX12_pointsBy 4 (some .int) 2 := ⟨wco_X12_pointsBy, win_X12, ⟨by decide +kernel, by decide +kernel⟩, by decide +kernel⟩
theorem wml_X12_344 : Cond.methodLink RX12 344 yX12_pointsBy ∈ gT := gT_c7 (i := 178) (by decide +kernel) rfl
theorem wim_X12_pointsBy : Cond.instanceMethod yX12_pointsBy ∈ gT := gT_c7 (i := 180) (by decide +kernel) rfl
theorem wse_X12_X12_pointsBy_X12_pointsBy : Cond.selects RX12 yX12_pointsBy yX12_pointsBy ∈ gT := gT_pr (i := 83) (by decide +kernel) rfl
theorem wco_X12_unlike : Cond.code yX12_unlike cX12_unlike 7 (some .int) ∈ gT := gT_c7 (i := 177) (by decide +kernel) rfl
theorem mf_X12_unlike : gMf yX12_unlike cX12_unlike 7 (some .int) 3 := ⟨wco_X12_unlike, win_X12, ⟨by decide +kernel, by decide +kernel⟩, by decide +kernel⟩
theorem wml_X12_347 : Cond.methodLink RX12 347 yX12_unlike ∈ gT := gT_c7 (i := 174) (by decide +kernel) rfl
theorem wim_X12_unlike : Cond.instanceMethod yX12_unlike ∈ gT := gT_c7 (i := 176) (by decide +kernel) rfl
theorem wse_X12_X12_unlike_X12_unlike : Cond.selects RX12 yX12_unlike yX12_unlike ∈ gT := gT_pr (i := 82) (by decide +kernel) rfl
theorem gg_X12_77 : ∀ t ∈ [11], gFldG RX12 77 t 32 ∧ gIsR (gFt t 32) = true := List.forall_mem_cons.mpr ⟨⟨gf_X12_77_11.g, rfl⟩, fun _ h => absurd h List.not_mem_nil⟩
theorem gg_X12_71 : ∀ t ∈ [11], gFldG RX12 71 t 30 ∧ gIsR (gFt t 30) = true := List.forall_mem_cons.mpr ⟨⟨gf_X12_71_11.g, rfl⟩, fun _ h => absurd h List.not_mem_nil⟩
theorem gg_X12_74 : ∀ t ∈ [11], gFldG RX12 74 t 31 ∧ gIsR (gFt t 31) = true := List.forall_mem_cons.mpr ⟨⟨gf_X12_74_11.g, rfl⟩, fun _ h => absurd h List.not_mem_nil⟩
theorem wco_X12_isShelf : Cond.code yX12_isShelf cX12_isShelf 1 (some .boolean) ∈ gT := gT_c7 (i := 188) (by decide +kernel) rfl
theorem mf_X12_isShelf : gMf yX12_isShelf cX12_isShelf 1 (some .boolean) 1 := ⟨wco_X12_isShelf, win_X12, ⟨by decide +kernel, by decide +kernel⟩, by decide +kernel⟩
theorem wml_X12_350 : Cond.methodLink RX12 350 yX12_isShelf ∈ gT := gT_c7 (i := 186) (by decide +kernel) rfl
theorem wst_X12_isShelf : Cond.static yX12_isShelf ∈ gT := gT_c7 (i := 187) (by decide +kernel) rfl
theorem wco_X12_narrowed : Cond.code yX12_narrowed cX12_narrowed 2 (some .int) ∈ gT := gT_c7 (i := 195) (by decide +kernel) rfl
theorem mf_X12_narrowed : gMf yX12_narrowed cX12_narrowed 2 (some .int) 2 := ⟨wco_X12_narrowed, win_X12, ⟨by decide +kernel, by decide +kernel⟩, by decide +kernel⟩
theorem wml_X12_353 : Cond.methodLink RX12 353 yX12_narrowed ∈ gT := gT_c7 (i := 193) (by decide +kernel) rfl
theorem wst_X12_narrowed : Cond.static yX12_narrowed ∈ gT := gT_c7 (i := 194) (by decide +kernel) rfl
theorem wco_X12_lacksSort : Cond.code yX12_lacksSort cX12_lacksSort 3 (some .int) ∈ gT := gT_c7 (i := 203) (by decide +kernel) rfl
theorem mf_X12_lacksSort : gMf yX12_lacksSort cX12_lacksSort 3 (some .int) 2 := ⟨wco_X12_lacksSort, win_X12, ⟨by decide +kernel, by decide +kernel⟩, by decide +kernel⟩
theorem wml_X12_356 : Cond.methodLink RX12 356 yX12_lacksSort ∈ gT := gT_c7 (i := 200) (by decide +kernel) rfl
theorem wim_X12_lacksSort : Cond.instanceMethod yX12_lacksSort ∈ gT := gT_c7 (i := 202) (by decide +kernel) rfl
theorem wse_X12_X12_lacksSort_X12_lacksSort : Cond.selects RX12 yX12_lacksSort yX12_lacksSort ∈ gT := gT_pr (i := 84) (by decide +kernel) rfl
theorem wco_X12_finding : Cond.code yX12_finding cX12_finding 5 (some .int) ∈ gT := gT_c6 (i := 75) (by decide +kernel) rfl
theorem mf_X12_finding : gMf yX12_finding cX12_finding 5 (some .int) 3 := ⟨wco_X12_finding, win_X12, ⟨by decide +kernel, by decide +kernel⟩, by decide +kernel⟩
theorem wml_X12_359 : Cond.methodLink RX12 359 yX12_finding ∈ gT := gT_c7 (i := 208) (by decide +kernel) rfl
theorem wim_X12_finding : Cond.instanceMethod yX12_finding ∈ gT := gT_c6 (i := 73) (by decide +kernel) rfl
theorem wse_X12_X12_finding_X12_finding : Cond.selects RX12 yX12_finding yX12_finding ∈ gT := gT_c6 (i := 74) (by decide +kernel) rfl
theorem gg_X12_86 : ∀ t ∈ [11], gFldG RX12 86 t 35 ∧ gIsR (gFt t 35) = true := List.forall_mem_cons.mpr ⟨⟨gf_X12_86_11.g, rfl⟩, fun _ h => absurd h List.not_mem_nil⟩
theorem gg_X12_83 : ∀ t ∈ [11], gFldG RX12 83 t 34 ∧ gIsR (gFt t 34) = true := List.forall_mem_cons.mpr ⟨⟨gf_X12_83_11.g, rfl⟩, fun _ h => absurd h List.not_mem_nil⟩
theorem wco_X12_isThing : Cond.code yX12_isThing cX12_isThing 3 (some .boolean) ∈ gT := gT_c7 (i := 216) (by decide +kernel) rfl
theorem mf_X12_isThing : gMf yX12_isThing cX12_isThing 3 (some .boolean) 2 := ⟨wco_X12_isThing, win_X12, ⟨by decide +kernel, by decide +kernel⟩, by decide +kernel⟩
theorem wml_X12_363 : Cond.methodLink RX12 363 yX12_isThing ∈ gT := gT_c7 (i := 213) (by decide +kernel) rfl
theorem wim_X12_isThing : Cond.instanceMethod yX12_isThing ∈ gT := gT_c7 (i := 215) (by decide +kernel) rfl
theorem wse_X12_X12_isThing_X12_isThing : Cond.selects RX12 yX12_isThing yX12_isThing ∈ gT := gT_pr (i := 85) (by decide +kernel) rfl
theorem gg_X12_80 : ∀ t ∈ [11], gFldG RX12 80 t 33 ∧ gIsR (gFt t 33) = true := List.forall_mem_cons.mpr ⟨⟨gf_X12_80_11.g, rfl⟩, fun _ h => absurd h List.not_mem_nil⟩
theorem wco_X12_kindOn : Cond.code yX12_kindOn cX12_kindOn 4 (some .int) ∈ gT := gT_c7 (i := 224) (by decide +kernel) rfl
theorem mf_X12_kindOn : gMf yX12_kindOn cX12_kindOn 4 (some .int) 1 := ⟨wco_X12_kindOn, win_X12, ⟨by decide +kernel, by decide +kernel⟩, by decide +kernel⟩
theorem wml_X12_366 : Cond.methodLink RX12 366 yX12_kindOn ∈ gT := gT_c7 (i := 221) (by decide +kernel) rfl
theorem wim_X12_kindOn : Cond.instanceMethod yX12_kindOn ∈ gT := gT_c7 (i := 223) (by decide +kernel) rfl
theorem wse_X12_X12_kindOn_X12_kindOn : Cond.selects RX12 yX12_kindOn yX12_kindOn ∈ gT := gT_pr (i := 86) (by decide +kernel) rfl
theorem wco_X12_isUnder : Cond.code yX12_isUnder cX12_isUnder 2 (some .boolean) ∈ gT := gT_c7 (i := 227) (by decide +kernel) rfl
theorem mf_X12_isUnder : gMf yX12_isUnder cX12_isUnder 2 (some .boolean) 2 := ⟨wco_X12_isUnder, win_X12, ⟨by decide +kernel, by decide +kernel⟩, by decide +kernel⟩
theorem wml_X12_369 : Cond.methodLink RX12 369 yX12_isUnder ∈ gT := gT_c7 (i := 225) (by decide +kernel) rfl
theorem wst_X12_isUnder : Cond.static yX12_isUnder ∈ gT := gT_c7 (i := 226) (by decide +kernel) rfl
theorem wfl_X12_372 : Cond.fieldLink RX12 372 "PenaltyGridModel" "bodies" "I" ∈ gT := gT_c5 (i := 186) (by decide +kernel) rfl
theorem gf_X12_372_11 : gFld RX12 372 11 40 := ⟨RX12, TX12, 45, "PenaltyGridModel", cls_11, by decide, wfl_X12_372, Or.inl rfl, Or.inl rfl⟩
theorem gg_X12_372 : ∀ t ∈ [11], gFldG RX12 372 t 40 ∧ gIsR (gFt t 40) = false := List.forall_mem_cons.mpr ⟨⟨gf_X12_372_11.g, rfl⟩, fun _ h => absurd h List.not_mem_nil⟩
theorem gg_X12_89 : ∀ t ∈ [11], gFldG RX12 89 t 39 ∧ gIsR (gFt t 39) = true := List.forall_mem_cons.mpr ⟨⟨gf_X12_89_11.g, rfl⟩, fun _ h => absurd h List.not_mem_nil⟩
theorem gp_X12_372 {nm : String} : ∀ t ∈ [11], gFld RX12 372 t 40 ∧ gFt t 40 = .int ∧ (nm = "<init>" ∨ ∀ (C : String) (T : u_T) (N : Nat), vwCl[t]? = some (C, T, N) → (T 40).2.2.2 = false) := List.forall_mem_cons.mpr ⟨⟨gf_X12_372_11, rfl, Or.inr (fun _ _ _ h => by cases h; rfl)⟩, fun _ h => absurd h List.not_mem_nil⟩
theorem wfl_X12_384 : Cond.fieldLink RX12 384 "PenaltyGridModel" "its" "I" ∈ gT := gT_c5 (i := 184) (by decide +kernel) rfl
theorem gf_X12_384_11 : gFld RX12 384 11 38 := ⟨RX12, TX12, 45, "PenaltyGridModel", cls_11, by decide, wfl_X12_384, Or.inl rfl, Or.inl rfl⟩
theorem gg_X12_384 : ∀ t ∈ [11], gFldG RX12 384 t 38 ∧ gIsR (gFt t 38) = false := List.forall_mem_cons.mpr ⟨⟨gf_X12_384_11.g, rfl⟩, fun _ h => absurd h List.not_mem_nil⟩
theorem wco_X12_ran : Cond.code yX12_ran cX12_ran 2 none ∈ gT := gT_c8 (i := 3) (by decide +kernel) rfl
theorem mf_X12_ran : gMf yX12_ran cX12_ran 2 none 1 := ⟨wco_X12_ran, win_X12, ⟨by decide +kernel, by decide +kernel⟩, by decide +kernel⟩
theorem wml_X12_378 : Cond.methodLink RX12 378 yX12_ran ∈ gT := gT_c8 (i := 0) (by decide +kernel) rfl
theorem wim_X12_ran : Cond.instanceMethod yX12_ran ∈ gT := gT_c8 (i := 2) (by decide +kernel) rfl
theorem wse_X12_X12_ran_X12_ran : Cond.selects RX12 yX12_ran yX12_ran ∈ gT := gT_pr (i := 89) (by decide +kernel) rfl
theorem wfl_X12_381 : Cond.fieldLink RX12 381 "PenaltyGridModel" "number" "I" ∈ gT := gT_c5 (i := 183) (by decide +kernel) rfl
theorem gf_X12_381_11 : gFld RX12 381 11 37 := ⟨RX12, TX12, 45, "PenaltyGridModel", cls_11, by decide, wfl_X12_381, Or.inl rfl, Or.inl rfl⟩
theorem gg_X12_381 : ∀ t ∈ [11], gFldG RX12 381 t 37 ∧ gIsR (gFt t 37) = false := List.forall_mem_cons.mpr ⟨⟨gf_X12_381_11.g, rfl⟩, fun _ h => absurd h List.not_mem_nil⟩
theorem wfl_X12_375 : Cond.fieldLink RX12 375 "PenaltyGridModel" "kind" "I" ∈ gT := gT_c5 (i := 182) (by decide +kernel) rfl
theorem gf_X12_375_11 : gFld RX12 375 11 36 := ⟨RX12, TX12, 45, "PenaltyGridModel", cls_11, by decide, wfl_X12_375, Or.inl rfl, Or.inl rfl⟩
theorem gg_X12_375 : ∀ t ∈ [11], gFldG RX12 375 t 36 ∧ gIsR (gFt t 36) = false := List.forall_mem_cons.mpr ⟨⟨gf_X12_375_11.g, rfl⟩, fun _ h => absurd h List.not_mem_nil⟩
theorem wco_X12_weighs : Cond.code yX12_weighs cX12_weighs 3 (some .int) ∈ gT := gT_c7 (i := 239) (by decide +kernel) rfl
theorem mf_X12_weighs : gMf yX12_weighs cX12_weighs 3 (some .int) 1 := ⟨wco_X12_weighs, win_X12, ⟨by decide +kernel, by decide +kernel⟩, by decide +kernel⟩
theorem wml_X12_387 : Cond.methodLink RX12 387 yX12_weighs ∈ gT := gT_c7 (i := 236) (by decide +kernel) rfl
theorem wim_X12_weighs : Cond.instanceMethod yX12_weighs ∈ gT := gT_c7 (i := 238) (by decide +kernel) rfl
theorem wse_X12_X12_weighs_X12_weighs : Cond.selects RX12 yX12_weighs yX12_weighs ∈ gT := gT_pr (i := 88) (by decide +kernel) rfl
theorem wco_X12_paperBars : Cond.code yX12_paperBars cX12_paperBars 2 (some .int) ∈ gT := gT_c8 (i := 11) (by decide +kernel) rfl
theorem mf_X12_paperBars : gMf yX12_paperBars cX12_paperBars 2 (some .int) 1 := ⟨wco_X12_paperBars, win_X12, ⟨by decide +kernel, by decide +kernel⟩, by decide +kernel⟩
theorem wml_X12_390 : Cond.methodLink RX12 390 yX12_paperBars ∈ gT := gT_c8 (i := 8) (by decide +kernel) rfl
theorem wim_X12_paperBars : Cond.instanceMethod yX12_paperBars ∈ gT := gT_c8 (i := 10) (by decide +kernel) rfl
theorem wse_X12_X12_paperBars_X12_paperBars : Cond.selects RX12 yX12_paperBars yX12_paperBars ∈ gT := gT_pr (i := 91) (by decide +kernel) rfl
theorem wfl_X12_393 : Cond.fieldLink RX12 393 "PenaltyGridModel" "isParted" "Z" ∈ gT := gT_c5 (i := 187) (by decide +kernel) rfl
theorem gf_X12_393_11 : gFld RX12 393 11 41 := ⟨RX12, TX12, 45, "PenaltyGridModel", cls_11, by decide, wfl_X12_393, Or.inl rfl, Or.inl rfl⟩
theorem gp_X12_393 {nm : String} : ∀ t ∈ [11], gFld RX12 393 t 41 ∧ gFt t 41 = .boolean ∧ (nm = "<init>" ∨ ∀ (C : String) (T : u_T) (N : Nat), vwCl[t]? = some (C, T, N) → (T 41).2.2.2 = false) := List.forall_mem_cons.mpr ⟨⟨gf_X12_393_11, rfl, Or.inr (fun _ _ _ h => by cases h; rfl)⟩, fun _ h => absurd h List.not_mem_nil⟩
theorem wco_X12_paperParts : Cond.code yX12_paperParts cX12_paperParts 2 (some .int) ∈ gT := gT_c8 (i := 19) (by decide +kernel) rfl
theorem mf_X12_paperParts : gMf yX12_paperParts cX12_paperParts 2 (some .int) 1 := ⟨wco_X12_paperParts, win_X12, ⟨by decide +kernel, by decide +kernel⟩, by decide +kernel⟩
theorem wml_X12_397 : Cond.methodLink RX12 397 yX12_paperParts ∈ gT := gT_c8 (i := 16) (by decide +kernel) rfl
theorem wim_X12_paperParts : Cond.instanceMethod yX12_paperParts ∈ gT := gT_c8 (i := 18) (by decide +kernel) rfl
theorem wse_X12_X12_paperParts_X12_paperParts : Cond.selects RX12 yX12_paperParts yX12_paperParts ∈ gT := gT_pr (i := 93) (by decide +kernel) rfl
theorem wco_X12_bars : Cond.code yX12_bars cX12_bars 3 (some .int) ∈ gT := gT_c8 (i := 7) (by decide +kernel) rfl
theorem mf_X12_bars : gMf yX12_bars cX12_bars 3 (some .int) 1 := ⟨wco_X12_bars, win_X12, ⟨by decide +kernel, by decide +kernel⟩, by decide +kernel⟩
theorem wml_X12_400 : Cond.methodLink RX12 400 yX12_bars ∈ gT := gT_c8 (i := 4) (by decide +kernel) rfl
theorem wim_X12_bars : Cond.instanceMethod yX12_bars ∈ gT := gT_c8 (i := 6) (by decide +kernel) rfl
theorem wse_X12_X12_bars_X12_bars : Cond.selects RX12 yX12_bars yX12_bars ∈ gT := gT_pr (i := 90) (by decide +kernel) rfl
theorem wco_X12_paperTells : Cond.code yX12_paperTells cX12_paperTells 2 (some .int) ∈ gT := gT_c8 (i := 27) (by decide +kernel) rfl
theorem mf_X12_paperTells : gMf yX12_paperTells cX12_paperTells 2 (some .int) 1 := ⟨wco_X12_paperTells, win_X12, ⟨by decide +kernel, by decide +kernel⟩, by decide +kernel⟩
theorem wml_X12_403 : Cond.methodLink RX12 403 yX12_paperTells ∈ gT := gT_c8 (i := 24) (by decide +kernel) rfl
theorem wim_X12_paperTells : Cond.instanceMethod yX12_paperTells ∈ gT := gT_c8 (i := 26) (by decide +kernel) rfl
theorem wse_X12_X12_paperTells_X12_paperTells : Cond.selects RX12 yX12_paperTells yX12_paperTells ∈ gT := gT_pr (i := 95) (by decide +kernel) rfl
theorem gg_X12_393 : ∀ t ∈ [11], gFldG RX12 393 t 41 ∧ gIsR (gFt t 41) = false := List.forall_mem_cons.mpr ⟨⟨gf_X12_393_11.g, rfl⟩, fun _ h => absurd h List.not_mem_nil⟩
theorem gp_X12_375 {nm : String} : ∀ t ∈ [11], gFld RX12 375 t 36 ∧ gFt t 36 = .int ∧ (nm = "<init>" ∨ ∀ (C : String) (T : u_T) (N : Nat), vwCl[t]? = some (C, T, N) → (T 36).2.2.2 = false) := List.forall_mem_cons.mpr ⟨⟨gf_X12_375_11, rfl, Or.inr (fun _ _ _ h => by cases h; rfl)⟩, fun _ h => absurd h List.not_mem_nil⟩
theorem gp_X12_381 {nm : String} : ∀ t ∈ [11], gFld RX12 381 t 37 ∧ gFt t 37 = .int ∧ (nm = "<init>" ∨ ∀ (C : String) (T : u_T) (N : Nat), vwCl[t]? = some (C, T, N) → (T 37).2.2.2 = false) := List.forall_mem_cons.mpr ⟨⟨gf_X12_381_11, rfl, Or.inr (fun _ _ _ h => by cases h; rfl)⟩, fun _ h => absurd h List.not_mem_nil⟩
theorem wco_X12_theirs : Cond.code yX12_theirs cX12_theirs 3 (some .int) ∈ gT := gT_c7 (i := 235) (by decide +kernel) rfl
theorem mf_X12_theirs : gMf yX12_theirs cX12_theirs 3 (some .int) 2 := ⟨wco_X12_theirs, win_X12, ⟨by decide +kernel, by decide +kernel⟩, by decide +kernel⟩
theorem wml_X12_406 : Cond.methodLink RX12 406 yX12_theirs ∈ gT := gT_c7 (i := 232) (by decide +kernel) rfl
theorem wim_X12_theirs : Cond.instanceMethod yX12_theirs ∈ gT := gT_c7 (i := 234) (by decide +kernel) rfl
theorem wse_X12_X12_theirs_X12_theirs : Cond.selects RX12 yX12_theirs yX12_theirs ∈ gT := gT_pr (i := 87) (by decide +kernel) rfl
theorem gp_X12_384 {nm : String} : ∀ t ∈ [11], gFld RX12 384 t 38 ∧ gFt t 38 = .int ∧ (nm = "<init>" ∨ ∀ (C : String) (T : u_T) (N : Nat), vwCl[t]? = some (C, T, N) → (T 38).2.2.2 = false) := List.forall_mem_cons.mpr ⟨⟨gf_X12_384_11, rfl, Or.inr (fun _ _ _ h => by cases h; rfl)⟩, fun _ h => absurd h List.not_mem_nil⟩
theorem wco_X12_tells : Cond.code yX12_tells cX12_tells 3 (some .int) ∈ gT := gT_c8 (i := 23) (by decide +kernel) rfl
theorem mf_X12_tells : gMf yX12_tells cX12_tells 3 (some .int) 1 := ⟨wco_X12_tells, win_X12, ⟨by decide +kernel, by decide +kernel⟩, by decide +kernel⟩
theorem wml_X12_412 : Cond.methodLink RX12 412 yX12_tells ∈ gT := gT_c8 (i := 20) (by decide +kernel) rfl
theorem wim_X12_tells : Cond.instanceMethod yX12_tells ∈ gT := gT_c8 (i := 22) (by decide +kernel) rfl
theorem wse_X12_X12_tells_X12_tells : Cond.selects RX12 yX12_tells yX12_tells ∈ gT := gT_pr (i := 94) (by decide +kernel) rfl
theorem wco_X12_partsOf : Cond.code yX12_partsOf cX12_partsOf 2 (some .int) ∈ gT := gT_c8 (i := 15) (by decide +kernel) rfl
theorem mf_X12_partsOf : gMf yX12_partsOf cX12_partsOf 2 (some .int) 1 := ⟨wco_X12_partsOf, win_X12, ⟨by decide +kernel, by decide +kernel⟩, by decide +kernel⟩
theorem wml_X12_409 : Cond.methodLink RX12 409 yX12_partsOf ∈ gT := gT_c8 (i := 12) (by decide +kernel) rfl
theorem wim_X12_partsOf : Cond.instanceMethod yX12_partsOf ∈ gT := gT_c8 (i := 14) (by decide +kernel) rfl
theorem wse_X12_X12_partsOf_X12_partsOf : Cond.selects RX12 yX12_partsOf yX12_partsOf ∈ gT := gT_pr (i := 92) (by decide +kernel) rfl
theorem wfl_X12_415 : Cond.fieldLink RX12 415 "PenaltyGridModel" "place" "I" ∈ gT := gT_c5 (i := 190) (by decide +kernel) rfl
theorem gf_X12_415_11 : gFld RX12 415 11 44 := ⟨RX12, TX12, 45, "PenaltyGridModel", cls_11, by decide, wfl_X12_415, Or.inl rfl, Or.inl rfl⟩
theorem gg_X12_415 : ∀ t ∈ [11], gFldG RX12 415 t 44 ∧ gIsR (gFt t 44) = false := List.forall_mem_cons.mpr ⟨⟨gf_X12_415_11.g, rfl⟩, fun _ h => absurd h List.not_mem_nil⟩
theorem gp_X12_415 {nm : String} : ∀ t ∈ [11], gFld RX12 415 t 44 ∧ gFt t 44 = .int ∧ (nm = "<init>" ∨ ∀ (C : String) (T : u_T) (N : Nat), vwCl[t]? = some (C, T, N) → (T 44).2.2.2 = false) := List.forall_mem_cons.mpr ⟨⟨gf_X12_415_11, rfl, Or.inr (fun _ _ _ h => by cases h; rfl)⟩, fun _ h => absurd h List.not_mem_nil⟩
theorem gg_X12_92 : ∀ t ∈ [11], gFldG RX12 92 t 43 ∧ gIsR (gFt t 43) = true := List.forall_mem_cons.mpr ⟨⟨gf_X12_92_11.g, rfl⟩, fun _ h => absurd h List.not_mem_nil⟩
theorem wco_X12_move : Cond.code yX12_move cX12_move 5 none ∈ gT := gT_c8 (i := 47) (by decide +kernel) rfl
theorem mf_X12_move : gMf yX12_move cX12_move 5 none 3 := ⟨wco_X12_move, win_X12, ⟨by decide +kernel, by decide +kernel⟩, by decide +kernel⟩
theorem wml_X12_418 : Cond.methodLink RX12 418 yX12_move ∈ gT := gT_c8 (i := 44) (by decide +kernel) rfl
theorem wim_X12_move : Cond.instanceMethod yX12_move ∈ gT := gT_c8 (i := 46) (by decide +kernel) rfl
theorem wse_X12_X12_move_X12_move : Cond.selects RX12 yX12_move yX12_move ∈ gT := gT_pr (i := 97) (by decide +kernel) rfl
theorem wco_X12_moveAll : Cond.code yX12_moveAll cX12_moveAll 2 none ∈ gT := gT_c8 (i := 43) (by decide +kernel) rfl
theorem mf_X12_moveAll : gMf yX12_moveAll cX12_moveAll 2 none 1 := ⟨wco_X12_moveAll, win_X12, ⟨by decide +kernel, by decide +kernel⟩, by decide +kernel⟩
theorem wml_X12_422 : Cond.methodLink RX12 422 yX12_moveAll ∈ gT := gT_c8 (i := 40) (by decide +kernel) rfl
theorem wim_X12_moveAll : Cond.instanceMethod yX12_moveAll ∈ gT := gT_c8 (i := 42) (by decide +kernel) rfl
theorem wse_X12_X12_moveAll_X12_moveAll : Cond.selects RX12 yX12_moveAll yX12_moveAll ∈ gT := gT_pr (i := 96) (by decide +kernel) rfl
theorem wfl_X12_425 : Cond.fieldLink RX12 425 "PenaltyGridModel" "isKept" "Z" ∈ gT := gT_c5 (i := 188) (by decide +kernel) rfl
theorem gf_X12_425_11 : gFld RX12 425 11 42 := ⟨RX12, TX12, 45, "PenaltyGridModel", cls_11, by decide, wfl_X12_425, Or.inl rfl, Or.inl rfl⟩
theorem gp_X12_425 {nm : String} : ∀ t ∈ [11], gFld RX12 425 t 42 ∧ gFt t 42 = .boolean ∧ (nm = "<init>" ∨ ∀ (C : String) (T : u_T) (N : Nat), vwCl[t]? = some (C, T, N) → (T 42).2.2.2 = false) := List.forall_mem_cons.mpr ⟨⟨gf_X12_425_11, rfl, Or.inr (fun _ _ _ h => by cases h; rfl)⟩, fun _ h => absurd h List.not_mem_nil⟩
theorem gg_X12_425 : ∀ t ∈ [11], gFldG RX12 425 t 42 ∧ gIsR (gFt t 42) = false := List.forall_mem_cons.mpr ⟨⟨gf_X12_425_11.g, rfl⟩, fun _ h => absurd h List.not_mem_nil⟩
theorem wly_X5_0 : u_lay RX5 TX5 0 ∈ gT := gT_c1 (i := 157) (by decide +kernel) rfl
theorem wly_X5_1 : u_lay RX5 TX5 1 ∈ gT := gT_c1 (i := 159) (by decide +kernel) rfl
theorem wly_X5_2 : u_lay RX5 TX5 2 ∈ gT := gT_c1 (i := 161) (by decide +kernel) rfl
theorem wly_X5_3 : u_lay RX5 TX5 3 ∈ gT := gT_c1 (i := 163) (by decide +kernel) rfl
theorem wly_X5_4 : u_lay RX5 TX5 4 ∈ gT := gT_c1 (i := 165) (by decide +kernel) rfl
theorem wly_X5_5 : u_lay RX5 TX5 5 ∈ gT := gT_c1 (i := 167) (by decide +kernel) rfl
theorem wly_X5_6 : u_lay RX5 TX5 6 ∈ gT := gT_c1 (i := 169) (by decide +kernel) rfl
theorem wly_X5_7 : u_lay RX5 TX5 7 ∈ gT := gT_c1 (i := 171) (by decide +kernel) rfl
theorem wly_X5_8 : u_lay RX5 TX5 8 ∈ gT := gT_c1 (i := 173) (by decide +kernel) rfl
theorem wly_X5_9 : u_lay RX5 TX5 9 ∈ gT := gT_c1 (i := 175) (by decide +kernel) rfl
theorem wly_X5_10 : u_lay RX5 TX5 10 ∈ gT := gT_c1 (i := 177) (by decide +kernel) rfl
theorem wly_X5_11 : u_lay RX5 TX5 11 ∈ gT := gT_c1 (i := 179) (by decide +kernel) rfl
theorem wly_X5_12 : u_lay RX5 TX5 12 ∈ gT := gT_c1 (i := 181) (by decide +kernel) rfl
theorem wly_X5 : ∀ k, k < 13 → u_lay RX5 TX5 k ∈ gT := fun k hk => match k, hk with
  | 0, _ => wly_X5_0
  | 1, _ => wly_X5_1
  | 2, _ => wly_X5_2
  | 3, _ => wly_X5_3
  | 4, _ => wly_X5_4
  | 5, _ => wly_X5_5
  | 6, _ => wly_X5_6
  | 7, _ => wly_X5_7
  | 8, _ => wly_X5_8
  | 9, _ => wly_X5_9
  | 10, _ => wly_X5_10
  | 11, _ => wly_X5_11
  | 12, _ => wly_X5_12
  | k + 13, hk => absurd hk (by omega)
theorem cls_5 : gCls 5 RX5 TX5 13 := ⟨rfl, fun w hw => by
  obtain ⟨k, hk, rfl⟩ := List.mem_map.mp hw
  exact wly_X5 k (List.mem_range.mp hk), tyX5_ok, nmX5, by decide⟩
theorem wfl_X5_50 : Cond.fieldLink RX5 50 "PenaltyGrid$LawReader" "next" "I" ∈ gT := gT_c1 (i := 156) (by decide +kernel) rfl
theorem gf_X5_50_5 : gFld RX5 50 5 12 := ⟨RX5, TX5, 13, "PenaltyGrid$LawReader", cls_5, by decide, wfl_X5_50, Or.inl rfl, Or.inl rfl⟩
theorem gg_X5_50 : ∀ t ∈ [5], gFldG RX5 50 t 12 ∧ gIsR (gFt t 12) = false := List.forall_mem_cons.mpr ⟨⟨gf_X5_50_5.g, rfl⟩, fun _ h => absurd h List.not_mem_nil⟩
theorem wfl_X5_47 : Cond.fieldLink RX5 47 "PenaltyGrid$LawReader" "tokenCount" "I" ∈ gT := gT_c1 (i := 155) (by decide +kernel) rfl
theorem gf_X5_47_5 : gFld RX5 47 5 11 := ⟨RX5, TX5, 13, "PenaltyGrid$LawReader", cls_5, by decide, wfl_X5_47, Or.inl rfl, Or.inl rfl⟩
theorem gg_X5_47 : ∀ t ∈ [5], gFldG RX5 47 t 11 ∧ gIsR (gFt t 11) = false := List.forall_mem_cons.mpr ⟨⟨gf_X5_47_5.g, rfl⟩, fun _ h => absurd h List.not_mem_nil⟩
theorem wfl_X5_41 : Cond.fieldLink RX5 41 "PenaltyGrid$LawReader" "tokens" "[I" ∈ gT := gT_c1 (i := 153) (by decide +kernel) rfl
theorem gf_X5_41_5 : gFld RX5 41 5 9 := ⟨RX5, TX5, 13, "PenaltyGrid$LawReader", cls_5, by decide, wfl_X5_41, Or.inl rfl, Or.inr ⟨rfl, rfl⟩⟩
theorem gg_X5_41 : ∀ t ∈ [5], gFldG RX5 41 t 9 ∧ gIsR (gFt t 9) = true := List.forall_mem_cons.mpr ⟨⟨gf_X5_41_5.g, rfl⟩, fun _ h => absurd h List.not_mem_nil⟩
theorem wco_X5_token : Cond.code yX5_token cX5_token 1 (some .int) ∈ gT := gT_c3 (i := 17) (by decide +kernel) rfl
theorem win_X5 : Cond.initialized RX5 ∈ gT := gT_c1 (i := 4) (by decide +kernel) rfl
theorem mf_X5_token : gMf yX5_token cX5_token 1 (some .int) 0 := ⟨wco_X5_token, win_X5, ⟨by decide +kernel, by decide +kernel⟩, by decide +kernel⟩
theorem wml_X5_56 : Cond.methodLink RX5 56 yX5_token ∈ gT := gT_c3 (i := 14) (by decide +kernel) rfl
theorem wim_X5_token : Cond.instanceMethod yX5_token ∈ gT := gT_c3 (i := 16) (by decide +kernel) rfl
theorem wse_X5_X5_token_X5_token : Cond.selects RX5 yX5_token yX5_token ∈ gT := gT_pr (i := 6) (by decide +kernel) rfl
theorem gp_X5_50 {nm : String} : ∀ t ∈ [5], gFld RX5 50 t 12 ∧ gFt t 12 = .int ∧ (nm = "<init>" ∨ ∀ (C : String) (T : u_T) (N : Nat), vwCl[t]? = some (C, T, N) → (T 12).2.2.2 = false) := List.forall_mem_cons.mpr ⟨⟨gf_X5_50_5, rfl, Or.inr (fun _ _ _ h => by cases h; rfl)⟩, fun _ h => absurd h List.not_mem_nil⟩
theorem wfl_X5_18 : Cond.fieldLink RX5 18 "PenaltyGrid$LawReader" "codes" "I" ∈ gT := gT_c1 (i := 141) (by decide +kernel) rfl
theorem gf_X5_18_5 : gFld RX5 18 5 2 := ⟨RX5, TX5, 13, "PenaltyGrid$LawReader", cls_5, by decide, wfl_X5_18, Or.inl rfl, Or.inl rfl⟩
theorem gg_X5_18 : ∀ t ∈ [5], gFldG RX5 18 t 2 ∧ gIsR (gFt t 2) = false := List.forall_mem_cons.mpr ⟨⟨gf_X5_18_5.g, rfl⟩, fun _ h => absurd h List.not_mem_nil⟩
theorem wfl_X5_31 : Cond.fieldLink RX5 31 "PenaltyGrid$LawReader" "code" "[I" ∈ gT := gT_c1 (i := 149) (by decide +kernel) rfl
theorem gf_X5_31_5 : gFld RX5 31 5 6 := ⟨RX5, TX5, 13, "PenaltyGrid$LawReader", cls_5, by decide, wfl_X5_31, Or.inl rfl, Or.inr ⟨rfl, rfl⟩⟩
theorem gg_X5_31 : ∀ t ∈ [5], gFldG RX5 31 t 6 ∧ gIsR (gFt t 6) = true := List.forall_mem_cons.mpr ⟨⟨gf_X5_31_5.g, rfl⟩, fun _ h => absurd h List.not_mem_nil⟩
theorem gp_X5_18 {nm : String} : ∀ t ∈ [5], gFld RX5 18 t 2 ∧ gFt t 2 = .int ∧ (nm = "<init>" ∨ ∀ (C : String) (T : u_T) (N : Nat), vwCl[t]? = some (C, T, N) → (T 2).2.2.2 = false) := List.forall_mem_cons.mpr ⟨⟨gf_X5_18_5, rfl, Or.inr (fun _ _ _ h => by cases h; rfl)⟩, fun _ h => absurd h List.not_mem_nil⟩
theorem wco_X5_take : Cond.code yX5_take cX5_take 2 (some .boolean) ∈ gT := gT_c3 (i := 29) (by decide +kernel) rfl
theorem mf_X5_take : gMf yX5_take cX5_take 2 (some .boolean) 1 := ⟨wco_X5_take, win_X5, ⟨by decide +kernel, by decide +kernel⟩, by decide +kernel⟩
theorem wml_X5_93 : Cond.methodLink RX5 93 yX5_take ∈ gT := gT_c3 (i := 26) (by decide +kernel) rfl
theorem wim_X5_take : Cond.instanceMethod yX5_take ∈ gT := gT_c3 (i := 28) (by decide +kernel) rfl
theorem wse_X5_X5_take_X5_take : Cond.selects RX5 yX5_take yX5_take ∈ gT := gT_pr (i := 9) (by decide +kernel) rfl
theorem wco_X5_valueOf : Cond.code yX5_valueOf cX5_valueOf 1 (some .int) ∈ gT := gT_c3 (i := 52) (by decide +kernel) rfl
theorem mf_X5_valueOf : gMf yX5_valueOf cX5_valueOf 1 (some .int) 1 := ⟨wco_X5_valueOf, win_X5, ⟨by decide +kernel, by decide +kernel⟩, by decide +kernel⟩
theorem wml_X5_117 : Cond.methodLink RX5 117 yX5_valueOf ∈ gT := gT_c3 (i := 50) (by decide +kernel) rfl
theorem wst_X5_valueOf : Cond.static yX5_valueOf ∈ gT := gT_c3 (i := 51) (by decide +kernel) rfl
theorem wco_X5_emit : Cond.code yX5_emit cX5_emit 2 none ∈ gT := gT_c3 (i := 45) (by decide +kernel) rfl
theorem mf_X5_emit : gMf yX5_emit cX5_emit 2 none 1 := ⟨wco_X5_emit, win_X5, ⟨by decide +kernel, by decide +kernel⟩, by decide +kernel⟩
theorem wml_X5_107 : Cond.methodLink RX5 107 yX5_emit ∈ gT := gT_c3 (i := 42) (by decide +kernel) rfl
theorem wim_X5_emit : Cond.instanceMethod yX5_emit ∈ gT := gT_c3 (i := 44) (by decide +kernel) rfl
theorem wse_X5_X5_emit_X5_emit : Cond.selects RX5 yX5_emit yX5_emit ∈ gT := gT_pr (i := 12) (by decide +kernel) rfl
theorem wco_X5_readSum : Cond.code yX5_readSum cX5_readSum 3 (some .boolean) ∈ gT := gT_c3 (i := 49) (by decide +kernel) rfl
theorem mf_X5_readSum : gMf yX5_readSum cX5_readSum 3 (some .boolean) 0 := ⟨wco_X5_readSum, win_X5, ⟨by decide +kernel, by decide +kernel⟩, by decide +kernel⟩
theorem wml_X5_111 : Cond.methodLink RX5 111 yX5_readSum ∈ gT := gT_c3 (i := 46) (by decide +kernel) rfl
theorem wim_X5_readSum : Cond.instanceMethod yX5_readSum ∈ gT := gT_c3 (i := 48) (by decide +kernel) rfl
theorem wse_X5_X5_readSum_X5_readSum : Cond.selects RX5 yX5_readSum yX5_readSum ∈ gT := gT_pr (i := 13) (by decide +kernel) rfl
theorem wco_X5_comparisonOf : Cond.code yX5_comparisonOf cX5_comparisonOf 1 (some .int) ∈ gT := gT_c3 (i := 55) (by decide +kernel) rfl
theorem mf_X5_comparisonOf : gMf yX5_comparisonOf cX5_comparisonOf 1 (some .int) 1 := ⟨wco_X5_comparisonOf, win_X5, ⟨by decide +kernel, by decide +kernel⟩, by decide +kernel⟩
theorem wml_X5_114 : Cond.methodLink RX5 114 yX5_comparisonOf ∈ gT := gT_c3 (i := 53) (by decide +kernel) rfl
theorem wst_X5_comparisonOf : Cond.static yX5_comparisonOf ∈ gT := gT_c3 (i := 54) (by decide +kernel) rfl
theorem wco_X5_readCond : Cond.code yX5_readCond cX5_readCond 5 (some .boolean) ∈ gT := gT_c3 (i := 37) (by decide +kernel) rfl
theorem mf_X5_readCond : gMf yX5_readCond cX5_readCond 5 (some .boolean) 1 := ⟨wco_X5_readCond, win_X5, ⟨by decide +kernel, by decide +kernel⟩, by decide +kernel⟩
theorem wml_X5_101 : Cond.methodLink RX5 101 yX5_readCond ∈ gT := gT_c3 (i := 34) (by decide +kernel) rfl
theorem wim_X5_readCond : Cond.instanceMethod yX5_readCond ∈ gT := gT_c3 (i := 36) (by decide +kernel) rfl
theorem wse_X5_X5_readCond_X5_readCond : Cond.selects RX5 yX5_readCond yX5_readCond ∈ gT := gT_pr (i := 10) (by decide +kernel) rfl
theorem wco_X5_readOne : Cond.code yX5_readOne cX5_readOne 5 (some .boolean) ∈ gT := gT_c3 (i := 41) (by decide +kernel) rfl
theorem mf_X5_readOne : gMf yX5_readOne cX5_readOne 5 (some .boolean) 1 := ⟨wco_X5_readOne, win_X5, ⟨by decide +kernel, by decide +kernel⟩, by decide +kernel⟩
theorem wml_X5_104 : Cond.methodLink RX5 104 yX5_readOne ∈ gT := gT_c3 (i := 38) (by decide +kernel) rfl
theorem wim_X5_readOne : Cond.instanceMethod yX5_readOne ∈ gT := gT_c3 (i := 40) (by decide +kernel) rfl
theorem wse_X5_X5_readOne_X5_readOne : Cond.selects RX5 yX5_readOne yX5_readOne ∈ gT := gT_pr (i := 11) (by decide +kernel) rfl
theorem wly_X0_0 : u_lay RX0 TX0 0 ∈ gT := gT_c2 (i := 107) (by decide +kernel) rfl
theorem wly_X0_1 : u_lay RX0 TX0 1 ∈ gT := gT_c2 (i := 108) (by decide +kernel) rfl
theorem wly_X0_2 : u_lay RX0 TX0 2 ∈ gT := gT_c2 (i := 104) (by decide +kernel) rfl
theorem wly_X0_3 : u_lay RX0 TX0 3 ∈ gT := gT_c2 (i := 105) (by decide +kernel) rfl
theorem wly_X0_4 : u_lay RX0 TX0 4 ∈ gT := gT_c2 (i := 106) (by decide +kernel) rfl
theorem wly_X0 : ∀ k, k < 5 → u_lay RX0 TX0 k ∈ gT := fun k hk => match k, hk with
  | 0, _ => wly_X0_0
  | 1, _ => wly_X0_1
  | 2, _ => wly_X0_2
  | 3, _ => wly_X0_3
  | 4, _ => wly_X0_4
  | k + 5, hk => absurd hk (by omega)
theorem cls_0 : gCls 0 RX0 TX0 5 := ⟨rfl, fun w hw => by
  obtain ⟨k, hk, rfl⟩ := List.mem_map.mp hw
  exact wly_X0 k (List.mem_range.mp hk), tyX0_ok, nmX0, by decide⟩
theorem wfl_X6_7 : Cond.fieldLink RX6 7 "PenaltyGrid$Paper" "n" "I" ∈ gT := gT_c2 (i := 74) (by decide +kernel) rfl
theorem gf_X6_7_0 : gFld RX6 7 0 0 := ⟨RX0, TX0, 5, "PenaltyGrid$Paper", cls_0, by decide, wfl_X6_7, Or.inl rfl, Or.inr ⟨rfl, rfl⟩⟩
theorem wly_X2_0 : u_lay RX2 TX2 0 ∈ gT := gT_c4 (i := 1) (by decide +kernel) rfl
theorem wly_X2_1 : u_lay RX2 TX2 1 ∈ gT := gT_c4 (i := 2) (by decide +kernel) rfl
theorem wly_X2_2 : u_lay RX2 TX2 2 ∈ gT := gT_c3 (i := 233) (by decide +kernel) rfl
theorem wly_X2_3 : u_lay RX2 TX2 3 ∈ gT := gT_c3 (i := 235) (by decide +kernel) rfl
theorem wly_X2_4 : u_lay RX2 TX2 4 ∈ gT := gT_c3 (i := 237) (by decide +kernel) rfl
theorem wly_X2_5 : u_lay RX2 TX2 5 ∈ gT := gT_c3 (i := 239) (by decide +kernel) rfl
theorem wly_X2 : ∀ k, k < 6 → u_lay RX2 TX2 k ∈ gT := fun k hk => match k, hk with
  | 0, _ => wly_X2_0
  | 1, _ => wly_X2_1
  | 2, _ => wly_X2_2
  | 3, _ => wly_X2_3
  | 4, _ => wly_X2_4
  | 5, _ => wly_X2_5
  | k + 6, hk => absurd hk (by omega)
theorem cls_2 : gCls 2 RX2 TX2 6 := ⟨rfl, fun w hw => by
  obtain ⟨k, hk, rfl⟩ := List.mem_map.mp hw
  exact wly_X2 k (List.mem_range.mp hk), tyX2_ok, nmX2, by decide⟩
theorem gf_X6_7_2 : gFld RX6 7 2 0 := ⟨RX2, TX2, 6, "PenaltyGrid$Paper", cls_2, by decide, wfl_X6_7, Or.inl rfl, Or.inr ⟨rfl, rfl⟩⟩
theorem wly_X3_0 : u_lay RX3 TX3 0 ∈ gT := gT_c2 (i := 142) (by decide +kernel) rfl
theorem wly_X3_1 : u_lay RX3 TX3 1 ∈ gT := gT_c2 (i := 143) (by decide +kernel) rfl
theorem wly_X3_2 : u_lay RX3 TX3 2 ∈ gT := gT_c2 (i := 136) (by decide +kernel) rfl
theorem wly_X3_3 : u_lay RX3 TX3 3 ∈ gT := gT_c2 (i := 138) (by decide +kernel) rfl
theorem wly_X3_4 : u_lay RX3 TX3 4 ∈ gT := gT_c2 (i := 140) (by decide +kernel) rfl
theorem wly_X3 : ∀ k, k < 5 → u_lay RX3 TX3 k ∈ gT := fun k hk => match k, hk with
  | 0, _ => wly_X3_0
  | 1, _ => wly_X3_1
  | 2, _ => wly_X3_2
  | 3, _ => wly_X3_3
  | 4, _ => wly_X3_4
  | k + 5, hk => absurd hk (by omega)
theorem cls_3 : gCls 3 RX3 TX3 5 := ⟨rfl, fun w hw => by
  obtain ⟨k, hk, rfl⟩ := List.mem_map.mp hw
  exact wly_X3 k (List.mem_range.mp hk), tyX3_ok, nmX3, by decide⟩
theorem gf_X6_7_3 : gFld RX6 7 3 0 := ⟨RX3, TX3, 5, "PenaltyGrid$Paper", cls_3, by decide, wfl_X6_7, Or.inl rfl, Or.inr ⟨rfl, rfl⟩⟩
theorem wly_X4_0 : u_lay RX4 TX4 0 ∈ gT := gT_c3 (i := 130) (by decide +kernel) rfl
theorem wly_X4_1 : u_lay RX4 TX4 1 ∈ gT := gT_c3 (i := 131) (by decide +kernel) rfl
theorem wly_X4_2 : u_lay RX4 TX4 2 ∈ gT := gT_c3 (i := 106) (by decide +kernel) rfl
theorem wly_X4_3 : u_lay RX4 TX4 3 ∈ gT := gT_c3 (i := 108) (by decide +kernel) rfl
theorem wly_X4_4 : u_lay RX4 TX4 4 ∈ gT := gT_c3 (i := 110) (by decide +kernel) rfl
theorem wly_X4_5 : u_lay RX4 TX4 5 ∈ gT := gT_c3 (i := 112) (by decide +kernel) rfl
theorem wly_X4_6 : u_lay RX4 TX4 6 ∈ gT := gT_c3 (i := 114) (by decide +kernel) rfl
theorem wly_X4_7 : u_lay RX4 TX4 7 ∈ gT := gT_c3 (i := 116) (by decide +kernel) rfl
theorem wly_X4_8 : u_lay RX4 TX4 8 ∈ gT := gT_c3 (i := 118) (by decide +kernel) rfl
theorem wly_X4_9 : u_lay RX4 TX4 9 ∈ gT := gT_c3 (i := 120) (by decide +kernel) rfl
theorem wly_X4_10 : u_lay RX4 TX4 10 ∈ gT := gT_c3 (i := 122) (by decide +kernel) rfl
theorem wly_X4_11 : u_lay RX4 TX4 11 ∈ gT := gT_c3 (i := 124) (by decide +kernel) rfl
theorem wly_X4_12 : u_lay RX4 TX4 12 ∈ gT := gT_c3 (i := 126) (by decide +kernel) rfl
theorem wly_X4_13 : u_lay RX4 TX4 13 ∈ gT := gT_c3 (i := 128) (by decide +kernel) rfl
theorem wly_X4 : ∀ k, k < 14 → u_lay RX4 TX4 k ∈ gT := fun k hk => match k, hk with
  | 0, _ => wly_X4_0
  | 1, _ => wly_X4_1
  | 2, _ => wly_X4_2
  | 3, _ => wly_X4_3
  | 4, _ => wly_X4_4
  | 5, _ => wly_X4_5
  | 6, _ => wly_X4_6
  | 7, _ => wly_X4_7
  | 8, _ => wly_X4_8
  | 9, _ => wly_X4_9
  | 10, _ => wly_X4_10
  | 11, _ => wly_X4_11
  | 12, _ => wly_X4_12
  | 13, _ => wly_X4_13
  | k + 14, hk => absurd hk (by omega)
theorem cls_4 : gCls 4 RX4 TX4 14 := ⟨rfl, fun w hw => by
  obtain ⟨k, hk, rfl⟩ := List.mem_map.mp hw
  exact wly_X4 k (List.mem_range.mp hk), tyX4_ok, nmX4, by decide⟩
theorem gf_X6_7_4 : gFld RX6 7 4 0 := ⟨RX4, TX4, 14, "PenaltyGrid$Paper", cls_4, by decide, wfl_X6_7, Or.inl rfl, Or.inr ⟨rfl, rfl⟩⟩
theorem wly_X8_0 : u_lay RX8 TX8 0 ∈ gT := gT_c4 (i := 10) (by decide +kernel) rfl
theorem wly_X8_1 : u_lay RX8 TX8 1 ∈ gT := gT_c4 (i := 11) (by decide +kernel) rfl
theorem wly_X8_2 : u_lay RX8 TX8 2 ∈ gT := gT_c4 (i := 6) (by decide +kernel) rfl
theorem wly_X8_3 : u_lay RX8 TX8 3 ∈ gT := gT_c4 (i := 7) (by decide +kernel) rfl
theorem wly_X8_4 : u_lay RX8 TX8 4 ∈ gT := gT_c4 (i := 8) (by decide +kernel) rfl
theorem wly_X8_5 : u_lay RX8 TX8 5 ∈ gT := gT_c4 (i := 9) (by decide +kernel) rfl
theorem wly_X8 : ∀ k, k < 6 → u_lay RX8 TX8 k ∈ gT := fun k hk => match k, hk with
  | 0, _ => wly_X8_0
  | 1, _ => wly_X8_1
  | 2, _ => wly_X8_2
  | 3, _ => wly_X8_3
  | 4, _ => wly_X8_4
  | 5, _ => wly_X8_5
  | k + 6, hk => absurd hk (by omega)
theorem cls_7 : gCls 7 RX8 TX8 6 := ⟨rfl, fun w hw => by
  obtain ⟨k, hk, rfl⟩ := List.mem_map.mp hw
  exact wly_X8 k (List.mem_range.mp hk), tyX8_ok, nmX8, by decide⟩
theorem gf_X6_7_7 : gFld RX6 7 7 0 := ⟨RX8, TX8, 6, "PenaltyGrid$Paper", cls_7, by decide, wfl_X6_7, Or.inl rfl, Or.inr ⟨rfl, rfl⟩⟩
theorem wly_X10_0 : u_lay RX10 TX10 0 ∈ gT := gT_c2 (i := 97) (by decide +kernel) rfl
theorem wly_X10_1 : u_lay RX10 TX10 1 ∈ gT := gT_c2 (i := 99) (by decide +kernel) rfl
theorem wly_X10_2 : u_lay RX10 TX10 2 ∈ gT := gT_c2 (i := 91) (by decide +kernel) rfl
theorem wly_X10_3 : u_lay RX10 TX10 3 ∈ gT := gT_c2 (i := 93) (by decide +kernel) rfl
theorem wly_X10_4 : u_lay RX10 TX10 4 ∈ gT := gT_c2 (i := 95) (by decide +kernel) rfl
theorem wly_X10 : ∀ k, k < 5 → u_lay RX10 TX10 k ∈ gT := fun k hk => match k, hk with
  | 0, _ => wly_X10_0
  | 1, _ => wly_X10_1
  | 2, _ => wly_X10_2
  | 3, _ => wly_X10_3
  | 4, _ => wly_X10_4
  | k + 5, hk => absurd hk (by omega)
theorem cls_9 : gCls 9 RX10 TX10 5 := ⟨rfl, fun w hw => by
  obtain ⟨k, hk, rfl⟩ := List.mem_map.mp hw
  exact wly_X10 k (List.mem_range.mp hk), tyX10_ok, nmX10, by decide⟩
theorem gf_X6_7_9 : gFld RX6 7 9 0 := ⟨RX10, TX10, 5, "PenaltyGrid$Paper", cls_9, by decide, wfl_X6_7, Or.inl rfl, Or.inr ⟨rfl, rfl⟩⟩
theorem gp_X6_7 : ∀ t ∈ [0, 2, 3, 4, 7, 9], gFld RX6 7 t 0 ∧ gFt t 0 = .int ∧ ("<init>" = "<init>" ∨ ∀ (C : String) (T : u_T) (N : Nat), vwCl[t]? = some (C, T, N) → (T 0).2.2.2 = false) := List.forall_mem_cons.mpr ⟨⟨gf_X6_7_0, rfl, Or.inl rfl⟩, List.forall_mem_cons.mpr ⟨⟨gf_X6_7_2, rfl, Or.inl rfl⟩, List.forall_mem_cons.mpr ⟨⟨gf_X6_7_3, rfl, Or.inl rfl⟩, List.forall_mem_cons.mpr ⟨⟨gf_X6_7_4, rfl, Or.inl rfl⟩, List.forall_mem_cons.mpr ⟨⟨gf_X6_7_7, rfl, Or.inl rfl⟩, List.forall_mem_cons.mpr ⟨⟨gf_X6_7_9, rfl, Or.inl rfl⟩, fun _ h => absurd h List.not_mem_nil⟩⟩⟩⟩⟩⟩
theorem wfl_X6_13 : Cond.fieldLink RX6 13 "PenaltyGrid$Paper" "a" "I" ∈ gT := gT_c2 (i := 78) (by decide +kernel) rfl
theorem gf_X6_13_0 : gFld RX6 13 0 1 := ⟨RX0, TX0, 5, "PenaltyGrid$Paper", cls_0, by decide, wfl_X6_13, Or.inl rfl, Or.inr ⟨rfl, rfl⟩⟩
theorem gf_X6_13_2 : gFld RX6 13 2 1 := ⟨RX2, TX2, 6, "PenaltyGrid$Paper", cls_2, by decide, wfl_X6_13, Or.inl rfl, Or.inr ⟨rfl, rfl⟩⟩
theorem gf_X6_13_3 : gFld RX6 13 3 1 := ⟨RX3, TX3, 5, "PenaltyGrid$Paper", cls_3, by decide, wfl_X6_13, Or.inl rfl, Or.inr ⟨rfl, rfl⟩⟩
theorem gf_X6_13_4 : gFld RX6 13 4 1 := ⟨RX4, TX4, 14, "PenaltyGrid$Paper", cls_4, by decide, wfl_X6_13, Or.inl rfl, Or.inr ⟨rfl, rfl⟩⟩
theorem gf_X6_13_7 : gFld RX6 13 7 1 := ⟨RX8, TX8, 6, "PenaltyGrid$Paper", cls_7, by decide, wfl_X6_13, Or.inl rfl, Or.inr ⟨rfl, rfl⟩⟩
theorem gf_X6_13_9 : gFld RX6 13 9 1 := ⟨RX10, TX10, 5, "PenaltyGrid$Paper", cls_9, by decide, wfl_X6_13, Or.inl rfl, Or.inr ⟨rfl, rfl⟩⟩
theorem gp_X6_13 : ∀ t ∈ [0, 2, 3, 4, 7, 9], gFld RX6 13 t 1 ∧ gFt t 1 = .int ∧ ("<init>" = "<init>" ∨ ∀ (C : String) (T : u_T) (N : Nat), vwCl[t]? = some (C, T, N) → (T 1).2.2.2 = false) := List.forall_mem_cons.mpr ⟨⟨gf_X6_13_0, rfl, Or.inl rfl⟩, List.forall_mem_cons.mpr ⟨⟨gf_X6_13_2, rfl, Or.inl rfl⟩, List.forall_mem_cons.mpr ⟨⟨gf_X6_13_3, rfl, Or.inl rfl⟩, List.forall_mem_cons.mpr ⟨⟨gf_X6_13_4, rfl, Or.inl rfl⟩, List.forall_mem_cons.mpr ⟨⟨gf_X6_13_7, rfl, Or.inl rfl⟩, List.forall_mem_cons.mpr ⟨⟨gf_X6_13_9, rfl, Or.inl rfl⟩, fun _ h => absurd h List.not_mem_nil⟩⟩⟩⟩⟩⟩
theorem wml_X6_1 : Cond.methodLink RX6 1 ⟨"java/lang/Object", "<init>", "()V"⟩ ∈ gT := gT_c2 (i := 65) (by decide +kernel) rfl
theorem wco_X6_init : Cond.code yX6_init cX6_init 3 none ∈ gT := gT_c2 (i := 64) (by decide +kernel) rfl
theorem win_X6 : Cond.initialized RX6 ∈ gT := gT_c1 (i := 8) (by decide +kernel) rfl
theorem mf_X6_init : gMf yX6_init cX6_init 3 none 2 := ⟨wco_X6_init, win_X6, ⟨by decide +kernel, by decide +kernel⟩, by decide +kernel⟩
theorem wml_X0_1 : Cond.methodLink RX0 1 yX6_init ∈ gT := gT_c2 (i := 62) (by decide +kernel) rfl
theorem wim_X6_init : Cond.instanceMethod yX6_init ∈ gT := gT_c2 (i := 63) (by decide +kernel) rfl
theorem wfl_X0_7 : Cond.fieldLink RX0 7 "PenaltyGrid$Deed" "person" "I" ∈ gT := gT_c2 (i := 66) (by decide +kernel) rfl
theorem gf_X0_7_0 : gFld RX0 7 0 2 := ⟨RX0, TX0, 5, "PenaltyGrid$Deed", cls_0, by decide, wfl_X0_7, Or.inl rfl, Or.inr ⟨rfl, rfl⟩⟩
theorem gf_X0_7_9 : gFld RX0 7 9 2 := ⟨RX10, TX10, 5, "PenaltyGrid$Deed", cls_9, by decide, wfl_X0_7, Or.inl rfl, Or.inr ⟨rfl, rfl⟩⟩
theorem gp_X0_7 : ∀ t ∈ [0, 9], gFld RX0 7 t 2 ∧ gFt t 2 = .int ∧ ("<init>" = "<init>" ∨ ∀ (C : String) (T : u_T) (N : Nat), vwCl[t]? = some (C, T, N) → (T 2).2.2.2 = false) := List.forall_mem_cons.mpr ⟨⟨gf_X0_7_0, rfl, Or.inl rfl⟩, List.forall_mem_cons.mpr ⟨⟨gf_X0_7_9, rfl, Or.inl rfl⟩, fun _ h => absurd h List.not_mem_nil⟩⟩
theorem wfl_X0_13 : Cond.fieldLink RX0 13 "PenaltyGrid$Deed" "day" "I" ∈ gT := gT_c2 (i := 69) (by decide +kernel) rfl
theorem gf_X0_13_0 : gFld RX0 13 0 3 := ⟨RX0, TX0, 5, "PenaltyGrid$Deed", cls_0, by decide, wfl_X0_13, Or.inl rfl, Or.inr ⟨rfl, rfl⟩⟩
theorem gf_X0_13_9 : gFld RX0 13 9 3 := ⟨RX10, TX10, 5, "PenaltyGrid$Deed", cls_9, by decide, wfl_X0_13, Or.inl rfl, Or.inr ⟨rfl, rfl⟩⟩
theorem gp_X0_13 : ∀ t ∈ [0, 9], gFld RX0 13 t 3 ∧ gFt t 3 = .int ∧ ("<init>" = "<init>" ∨ ∀ (C : String) (T : u_T) (N : Nat), vwCl[t]? = some (C, T, N) → (T 3).2.2.2 = false) := List.forall_mem_cons.mpr ⟨⟨gf_X0_13_0, rfl, Or.inl rfl⟩, List.forall_mem_cons.mpr ⟨⟨gf_X0_13_9, rfl, Or.inl rfl⟩, fun _ h => absurd h List.not_mem_nil⟩⟩
theorem wfl_X0_16 : Cond.fieldLink RX0 16 "PenaltyGrid$Deed" "years" "I" ∈ gT := gT_c2 (i := 72) (by decide +kernel) rfl
theorem gf_X0_16_0 : gFld RX0 16 0 4 := ⟨RX0, TX0, 5, "PenaltyGrid$Deed", cls_0, by decide, wfl_X0_16, Or.inl rfl, Or.inr ⟨rfl, rfl⟩⟩
theorem gf_X0_16_9 : gFld RX0 16 9 4 := ⟨RX10, TX10, 5, "PenaltyGrid$Deed", cls_9, by decide, wfl_X0_16, Or.inl rfl, Or.inr ⟨rfl, rfl⟩⟩
theorem gp_X0_16 : ∀ t ∈ [0, 9], gFld RX0 16 t 4 ∧ gFt t 4 = .int ∧ ("<init>" = "<init>" ∨ ∀ (C : String) (T : u_T) (N : Nat), vwCl[t]? = some (C, T, N) → (T 4).2.2.2 = false) := List.forall_mem_cons.mpr ⟨⟨gf_X0_16_0, rfl, Or.inl rfl⟩, List.forall_mem_cons.mpr ⟨⟨gf_X0_16_9, rfl, Or.inl rfl⟩, fun _ h => absurd h List.not_mem_nil⟩⟩
theorem wly_X9_0 : u_lay RX9 TX9 0 ∈ gT := gT_c1 (i := 200) (by decide +kernel) rfl
theorem wly_X9_1 : u_lay RX9 TX9 1 ∈ gT := gT_c1 (i := 202) (by decide +kernel) rfl
theorem wly_X9_2 : u_lay RX9 TX9 2 ∈ gT := gT_c1 (i := 204) (by decide +kernel) rfl
theorem wly_X9 : ∀ k, k < 3 → u_lay RX9 TX9 k ∈ gT := fun k hk => match k, hk with
  | 0, _ => wly_X9_0
  | 1, _ => wly_X9_1
  | 2, _ => wly_X9_2
  | k + 3, hk => absurd hk (by omega)
theorem cls_8 : gCls 8 RX9 TX9 3 := ⟨rfl, fun w hw => by
  obtain ⟨k, hk, rfl⟩ := List.mem_map.mp hw
  exact wly_X9 k (List.mem_range.mp hk), tyX9_ok, nmX9, by decide⟩
theorem wfl_X9_15 : Cond.fieldLink RX9 15 "PenaltyGrid$Trace" "count" "I" ∈ gT := gT_c1 (i := 195) (by decide +kernel) rfl
theorem gf_X9_15_8 : gFld RX9 15 8 1 := ⟨RX9, TX9, 3, "PenaltyGrid$Trace", cls_8, by decide, wfl_X9_15, Or.inl rfl, Or.inl rfl⟩
theorem gg_X9_15 : ∀ t ∈ [8], gFldG RX9 15 t 1 ∧ gIsR (gFt t 1) = false := List.forall_mem_cons.mpr ⟨⟨gf_X9_15_8.g, rfl⟩, fun _ h => absurd h List.not_mem_nil⟩
theorem wfl_X9_9 : Cond.fieldLink RX9 9 "PenaltyGrid$Trace" "numbers" "[I" ∈ gT := gT_c1 (i := 193) (by decide +kernel) rfl
theorem gf_X9_9_8 : gFld RX9 9 8 0 := ⟨RX9, TX9, 3, "PenaltyGrid$Trace", cls_8, by decide, wfl_X9_9, Or.inl rfl, Or.inr ⟨rfl, rfl⟩⟩
theorem gg_X9_9 : ∀ t ∈ [8], gFldG RX9 9 t 0 ∧ gIsR (gFt t 0) = true := List.forall_mem_cons.mpr ⟨⟨gf_X9_9_8.g, rfl⟩, fun _ h => absurd h List.not_mem_nil⟩
theorem gp_X9_15 {nm : String} : ∀ t ∈ [8], gFld RX9 15 t 1 ∧ gFt t 1 = .int ∧ (nm = "<init>" ∨ ∀ (C : String) (T : u_T) (N : Nat), vwCl[t]? = some (C, T, N) → (T 1).2.2.2 = false) := List.forall_mem_cons.mpr ⟨⟨gf_X9_15_8, rfl, Or.inr (fun _ _ _ h => by cases h; rfl)⟩, fun _ h => absurd h List.not_mem_nil⟩
theorem wco_X9_begin : Cond.code yX9_begin cX9_begin 2 none ∈ gT := gT_c5 (i := 39) (by decide +kernel) rfl
theorem win_X9 : Cond.initialized RX9 ∈ gT := gT_c1 (i := 5) (by decide +kernel) rfl
theorem mf_X9_begin : gMf yX9_begin cX9_begin 2 none 1 := ⟨wco_X9_begin, win_X9, ⟨by decide +kernel, by decide +kernel⟩, by decide +kernel⟩
theorem wml_X6_16 : Cond.methodLink RX6 16 yX9_begin ∈ gT := gT_c5 (i := 53) (by decide +kernel) rfl
theorem wim_X9_begin : Cond.instanceMethod yX9_begin ∈ gT := gT_c5 (i := 37) (by decide +kernel) rfl
theorem wse_X9_X9_begin_X9_begin : Cond.selects RX9 yX9_begin yX9_begin ∈ gT := gT_c5 (i := 38) (by decide +kernel) rfl
theorem gg_X6_7 : ∀ t ∈ [0, 2, 3, 4, 7, 9], gFldG RX6 7 t 0 ∧ gIsR (gFt t 0) = false := List.forall_mem_cons.mpr ⟨⟨gf_X6_7_0.g, rfl⟩, List.forall_mem_cons.mpr ⟨⟨gf_X6_7_2.g, rfl⟩, List.forall_mem_cons.mpr ⟨⟨gf_X6_7_3.g, rfl⟩, List.forall_mem_cons.mpr ⟨⟨gf_X6_7_4.g, rfl⟩, List.forall_mem_cons.mpr ⟨⟨gf_X6_7_7.g, rfl⟩, List.forall_mem_cons.mpr ⟨⟨gf_X6_7_9.g, rfl⟩, fun _ h => absurd h List.not_mem_nil⟩⟩⟩⟩⟩⟩
theorem wml_X0_19 : Cond.methodLink RX0 19 yX9_begin ∈ gT := gT_c5 (i := 36) (by decide +kernel) rfl
theorem wsu_X0 : Cond.superclass RX0 RX6 ∈ gT := gT_c2 (i := 109) (by decide +kernel) rfl
theorem wco_X6_weighs : Cond.code yX6_weighs cX6_weighs 3 (some .int) ∈ gT := gT_c5 (i := 52) (by decide +kernel) rfl
theorem mf_X6_weighs : gMf yX6_weighs cX6_weighs 3 (some .int) 2 := ⟨wco_X6_weighs, win_X6, ⟨by decide +kernel, by decide +kernel⟩, by decide +kernel⟩
theorem wml_X0_25 : Cond.methodLink RX0 25 yX6_weighs ∈ gT := gT_c5 (i := 40) (by decide +kernel) rfl
theorem wsm_X6_weighs_X6 : Cond.sameMethod RX6 "PenaltyGrid$Paper" "weighs" "(ILPenaltyGrid$Trace;)I" ∈ gT := gT_c5 (i := 32) (by decide +kernel) rfl
theorem wim_X6_weighs : Cond.instanceMethod yX6_weighs ∈ gT := gT_c5 (i := 31) (by decide +kernel) rfl
theorem wfl_X0_29 : Cond.fieldLink RX0 29 "PenaltyGrid$Deed" "a" "I" ∈ gT := gT_c2 (i := 81) (by decide +kernel) rfl
theorem wsf_X0_a : Cond.sameField "PenaltyGrid$Deed" "PenaltyGrid$Paper" "a" "I" ∈ gT := gT_c2 (i := 82) (by decide +kernel) rfl
theorem gf_X0_29_0 : gFldG RX0 29 0 1 := ⟨RX0, TX0, 5, "PenaltyGrid$Deed", cls_0, by decide, wfl_X0_29, Or.inr wsf_X0_a⟩
theorem gf_X0_29_9 : gFldG RX0 29 9 1 := ⟨RX10, TX10, 5, "PenaltyGrid$Deed", cls_9, by decide, wfl_X0_29, Or.inr wsf_X0_a⟩
theorem gg_X0_29 : ∀ t ∈ [0, 9], gFldG RX0 29 t 1 ∧ gIsR (gFt t 1) = false := List.forall_mem_cons.mpr ⟨⟨gf_X0_29_0, rfl⟩, List.forall_mem_cons.mpr ⟨⟨gf_X0_29_9, rfl⟩, fun _ h => absurd h List.not_mem_nil⟩⟩
theorem wly_X7_0 : u_lay RX7 TX7 0 ∈ gT := gT_c1 (i := 54) (by decide +kernel) rfl
theorem wly_X7_1 : u_lay RX7 TX7 1 ∈ gT := gT_c1 (i := 56) (by decide +kernel) rfl
theorem wly_X7 : ∀ k, k < 2 → u_lay RX7 TX7 k ∈ gT := fun k hk => match k, hk with
  | 0, _ => wly_X7_0
  | 1, _ => wly_X7_1
  | k + 2, hk => absurd hk (by omega)
theorem cls_6 : gCls 6 RX7 TX7 2 := ⟨rfl, fun w hw => by
  obtain ⟨k, hk, rfl⟩ := List.mem_map.mp hw
  exact wly_X7 k (List.mem_range.mp hk), tyX7_ok, nmX7, by decide⟩
theorem wfl_X7_11 : Cond.fieldLink RX7 11 "PenaltyGrid$Rows" "cells" "[I" ∈ gT := gT_c1 (i := 50) (by decide +kernel) rfl
theorem gf_X7_11_6 : gFld RX7 11 6 0 := ⟨RX7, TX7, 2, "PenaltyGrid$Rows", cls_6, by decide, wfl_X7_11, Or.inl rfl, Or.inr ⟨rfl, rfl⟩⟩
theorem gp_X7_11 : ∀ t ∈ [6], gFld RX7 11 t 0 ∧ gIsR (gFt t 0) = true ∧ ("<init>" = "<init>" ∨ ∀ (C : String) (T : u_T) (N : Nat), vwCl[t]? = some (C, T, N) → (T 0).2.2.2 = false) := List.forall_mem_cons.mpr ⟨⟨gf_X7_11_6, rfl, Or.inl rfl⟩, fun _ h => absurd h List.not_mem_nil⟩
theorem wfl_X7_15 : Cond.fieldLink RX7 15 "PenaltyGrid$Rows" "count" "I" ∈ gT := gT_c1 (i := 51) (by decide +kernel) rfl
theorem gf_X7_15_6 : gFld RX7 15 6 1 := ⟨RX7, TX7, 2, "PenaltyGrid$Rows", cls_6, by decide, wfl_X7_15, Or.inl rfl, Or.inl rfl⟩
theorem gp_X7_15 {nm : String} : ∀ t ∈ [6], gFld RX7 15 t 1 ∧ gFt t 1 = .int ∧ (nm = "<init>" ∨ ∀ (C : String) (T : u_T) (N : Nat), vwCl[t]? = some (C, T, N) → (T 1).2.2.2 = false) := List.forall_mem_cons.mpr ⟨⟨gf_X7_15_6, rfl, Or.inr (fun _ _ _ h => by cases h; rfl)⟩, fun _ h => absurd h List.not_mem_nil⟩
theorem wml_X7_3 : Cond.methodLink RX7 3 ⟨"java/lang/Object", "<init>", "()V"⟩ ∈ gT := gT_c1 (i := 49) (by decide +kernel) rfl
theorem wly_X1_0 : u_lay RX1 TX1 0 ∈ gT := gT_c1 (i := 92) (by decide +kernel) rfl
theorem wly_X1_1 : u_lay RX1 TX1 1 ∈ gT := gT_c1 (i := 94) (by decide +kernel) rfl
theorem wly_X1_2 : u_lay RX1 TX1 2 ∈ gT := gT_c1 (i := 96) (by decide +kernel) rfl
theorem wly_X1_3 : u_lay RX1 TX1 3 ∈ gT := gT_c1 (i := 98) (by decide +kernel) rfl
theorem wly_X1_4 : u_lay RX1 TX1 4 ∈ gT := gT_c1 (i := 100) (by decide +kernel) rfl
theorem wly_X1_5 : u_lay RX1 TX1 5 ∈ gT := gT_c1 (i := 102) (by decide +kernel) rfl
theorem wly_X1_6 : u_lay RX1 TX1 6 ∈ gT := gT_c1 (i := 104) (by decide +kernel) rfl
theorem wly_X1_7 : u_lay RX1 TX1 7 ∈ gT := gT_c1 (i := 106) (by decide +kernel) rfl
theorem wly_X1_8 : u_lay RX1 TX1 8 ∈ gT := gT_c1 (i := 108) (by decide +kernel) rfl
theorem wly_X1_9 : u_lay RX1 TX1 9 ∈ gT := gT_c1 (i := 110) (by decide +kernel) rfl
theorem wly_X1_10 : u_lay RX1 TX1 10 ∈ gT := gT_c1 (i := 112) (by decide +kernel) rfl
theorem wly_X1_11 : u_lay RX1 TX1 11 ∈ gT := gT_c1 (i := 114) (by decide +kernel) rfl
theorem wly_X1_12 : u_lay RX1 TX1 12 ∈ gT := gT_c1 (i := 116) (by decide +kernel) rfl
theorem wly_X1_13 : u_lay RX1 TX1 13 ∈ gT := gT_c1 (i := 118) (by decide +kernel) rfl
theorem wly_X1_14 : u_lay RX1 TX1 14 ∈ gT := gT_c1 (i := 120) (by decide +kernel) rfl
theorem wly_X1_15 : u_lay RX1 TX1 15 ∈ gT := gT_c1 (i := 122) (by decide +kernel) rfl
theorem wly_X1_16 : u_lay RX1 TX1 16 ∈ gT := gT_c1 (i := 124) (by decide +kernel) rfl
theorem wly_X1_17 : u_lay RX1 TX1 17 ∈ gT := gT_c1 (i := 126) (by decide +kernel) rfl
theorem wly_X1_18 : u_lay RX1 TX1 18 ∈ gT := gT_c1 (i := 128) (by decide +kernel) rfl
theorem wly_X1 : ∀ k, k < 19 → u_lay RX1 TX1 k ∈ gT := fun k hk => match k, hk with
  | 0, _ => wly_X1_0
  | 1, _ => wly_X1_1
  | 2, _ => wly_X1_2
  | 3, _ => wly_X1_3
  | 4, _ => wly_X1_4
  | 5, _ => wly_X1_5
  | 6, _ => wly_X1_6
  | 7, _ => wly_X1_7
  | 8, _ => wly_X1_8
  | 9, _ => wly_X1_9
  | 10, _ => wly_X1_10
  | 11, _ => wly_X1_11
  | 12, _ => wly_X1_12
  | 13, _ => wly_X1_13
  | 14, _ => wly_X1_14
  | 15, _ => wly_X1_15
  | 16, _ => wly_X1_16
  | 17, _ => wly_X1_17
  | 18, _ => wly_X1_18
  | k + 19, hk => absurd hk (by omega)
theorem cls_1 : gCls 1 RX1 TX1 19 := ⟨rfl, fun w hw => by
  obtain ⟨k, hk, rfl⟩ := List.mem_map.mp hw
  exact wly_X1 k (List.mem_range.mp hk), tyX1_ok, nmX1, by decide⟩
theorem wfl_X1_9 : Cond.fieldLink RX1 9 "PenaltyGrid$Docket" "today" "I" ∈ gT := gT_c1 (i := 60) (by decide +kernel) rfl
theorem gf_X1_9_1 : gFld RX1 9 1 0 := ⟨RX1, TX1, 19, "PenaltyGrid$Docket", cls_1, by decide, wfl_X1_9, Or.inl rfl, Or.inl rfl⟩
theorem gp_X1_9 {nm : String} : ∀ t ∈ [1], gFld RX1 9 t 0 ∧ gFt t 0 = .int ∧ (nm = "<init>" ∨ ∀ (C : String) (T : u_T) (N : Nat), vwCl[t]? = some (C, T, N) → (T 0).2.2.2 = false) := List.forall_mem_cons.mpr ⟨⟨gf_X1_9_1, rfl, Or.inr (fun _ _ _ h => by cases h; rfl)⟩, fun _ h => absurd h List.not_mem_nil⟩
theorem wfl_X1_15 : Cond.fieldLink RX1 15 "PenaltyGrid$Docket" "persons" "I" ∈ gT := gT_c1 (i := 62) (by decide +kernel) rfl
theorem gf_X1_15_1 : gFld RX1 15 1 1 := ⟨RX1, TX1, 19, "PenaltyGrid$Docket", cls_1, by decide, wfl_X1_15, Or.inl rfl, Or.inl rfl⟩
theorem gp_X1_15 {nm : String} : ∀ t ∈ [1], gFld RX1 15 t 1 ∧ gFt t 1 = .int ∧ (nm = "<init>" ∨ ∀ (C : String) (T : u_T) (N : Nat), vwCl[t]? = some (C, T, N) → (T 1).2.2.2 = false) := List.forall_mem_cons.mpr ⟨⟨gf_X1_15_1, rfl, Or.inr (fun _ _ _ h => by cases h; rfl)⟩, fun _ h => absurd h List.not_mem_nil⟩
theorem wfl_X1_18 : Cond.fieldLink RX1 18 "PenaltyGrid$Docket" "born" "[I" ∈ gT := gT_c1 (i := 64) (by decide +kernel) rfl
theorem gf_X1_18_1 : gFld RX1 18 1 2 := ⟨RX1, TX1, 19, "PenaltyGrid$Docket", cls_1, by decide, wfl_X1_18, Or.inl rfl, Or.inr ⟨rfl, rfl⟩⟩
theorem gp_X1_18 : ∀ t ∈ [1], gFld RX1 18 t 2 ∧ gIsR (gFt t 2) = true ∧ ("<init>" = "<init>" ∨ ∀ (C : String) (T : u_T) (N : Nat), vwCl[t]? = some (C, T, N) → (T 2).2.2.2 = false) := List.forall_mem_cons.mpr ⟨⟨gf_X1_18_1, rfl, Or.inl rfl⟩, fun _ h => absurd h List.not_mem_nil⟩
theorem wfl_X1_22 : Cond.fieldLink RX1 22 "PenaltyGrid$Docket" "goodDays" "[I" ∈ gT := gT_c1 (i := 65) (by decide +kernel) rfl
theorem gf_X1_22_1 : gFld RX1 22 1 3 := ⟨RX1, TX1, 19, "PenaltyGrid$Docket", cls_1, by decide, wfl_X1_22, Or.inl rfl, Or.inr ⟨rfl, rfl⟩⟩
theorem gp_X1_22 : ∀ t ∈ [1], gFld RX1 22 t 3 ∧ gIsR (gFt t 3) = true ∧ ("<init>" = "<init>" ∨ ∀ (C : String) (T : u_T) (N : Nat), vwCl[t]? = some (C, T, N) → (T 3).2.2.2 = false) := List.forall_mem_cons.mpr ⟨⟨gf_X1_22_1, rfl, Or.inl rfl⟩, fun _ h => absurd h List.not_mem_nil⟩
theorem wfl_X1_25 : Cond.fieldLink RX1 25 "PenaltyGrid$Docket" "deedCount" "I" ∈ gT := gT_c1 (i := 67) (by decide +kernel) rfl
theorem gf_X1_25_1 : gFld RX1 25 1 4 := ⟨RX1, TX1, 19, "PenaltyGrid$Docket", cls_1, by decide, wfl_X1_25, Or.inl rfl, Or.inl rfl⟩
theorem gp_X1_25 {nm : String} : ∀ t ∈ [1], gFld RX1 25 t 4 ∧ gFt t 4 = .int ∧ (nm = "<init>" ∨ ∀ (C : String) (T : u_T) (N : Nat), vwCl[t]? = some (C, T, N) → (T 4).2.2.2 = false) := List.forall_mem_cons.mpr ⟨⟨gf_X1_25_1, rfl, Or.inr (fun _ _ _ h => by cases h; rfl)⟩, fun _ h => absurd h List.not_mem_nil⟩
theorem wfl_X1_30 : Cond.fieldLink RX1 30 "PenaltyGrid$Docket" "deeds" "[LPenaltyGrid$Deed;" ∈ gT := gT_c1 (i := 69) (by decide +kernel) rfl
theorem gf_X1_30_1 : gFld RX1 30 1 5 := ⟨RX1, TX1, 19, "PenaltyGrid$Docket", cls_1, by decide, wfl_X1_30, Or.inl rfl, Or.inr ⟨rfl, rfl⟩⟩
theorem gp_X1_30 : ∀ t ∈ [1], gFld RX1 30 t 5 ∧ gIsR (gFt t 5) = true ∧ ("<init>" = "<init>" ∨ ∀ (C : String) (T : u_T) (N : Nat), vwCl[t]? = some (C, T, N) → (T 5).2.2.2 = false) := List.forall_mem_cons.mpr ⟨⟨gf_X1_30_1, rfl, Or.inl rfl⟩, fun _ h => absurd h List.not_mem_nil⟩
theorem wfl_X1_34 : Cond.fieldLink RX1 34 "PenaltyGrid$Docket" "findingCount" "I" ∈ gT := gT_c1 (i := 71) (by decide +kernel) rfl
theorem gf_X1_34_1 : gFld RX1 34 1 6 := ⟨RX1, TX1, 19, "PenaltyGrid$Docket", cls_1, by decide, wfl_X1_34, Or.inl rfl, Or.inl rfl⟩
theorem gp_X1_34 {nm : String} : ∀ t ∈ [1], gFld RX1 34 t 6 ∧ gFt t 6 = .int ∧ (nm = "<init>" ∨ ∀ (C : String) (T : u_T) (N : Nat), vwCl[t]? = some (C, T, N) → (T 6).2.2.2 = false) := List.forall_mem_cons.mpr ⟨⟨gf_X1_34_1, rfl, Or.inr (fun _ _ _ h => by cases h; rfl)⟩, fun _ h => absurd h List.not_mem_nil⟩
theorem wfl_X1_39 : Cond.fieldLink RX1 39 "PenaltyGrid$Docket" "findings" "[LPenaltyGrid$Finding;" ∈ gT := gT_c1 (i := 73) (by decide +kernel) rfl
theorem gf_X1_39_1 : gFld RX1 39 1 7 := ⟨RX1, TX1, 19, "PenaltyGrid$Docket", cls_1, by decide, wfl_X1_39, Or.inl rfl, Or.inr ⟨rfl, rfl⟩⟩
theorem gp_X1_39 : ∀ t ∈ [1], gFld RX1 39 t 7 ∧ gIsR (gFt t 7) = true ∧ ("<init>" = "<init>" ∨ ∀ (C : String) (T : u_T) (N : Nat), vwCl[t]? = some (C, T, N) → (T 7).2.2.2 = false) := List.forall_mem_cons.mpr ⟨⟨gf_X1_39_1, rfl, Or.inl rfl⟩, fun _ h => absurd h List.not_mem_nil⟩
theorem wfl_X1_43 : Cond.fieldLink RX1 43 "PenaltyGrid$Docket" "lawCount" "I" ∈ gT := gT_c1 (i := 75) (by decide +kernel) rfl
theorem gf_X1_43_1 : gFld RX1 43 1 8 := ⟨RX1, TX1, 19, "PenaltyGrid$Docket", cls_1, by decide, wfl_X1_43, Or.inl rfl, Or.inl rfl⟩
theorem gp_X1_43 {nm : String} : ∀ t ∈ [1], gFld RX1 43 t 8 ∧ gFt t 8 = .int ∧ (nm = "<init>" ∨ ∀ (C : String) (T : u_T) (N : Nat), vwCl[t]? = some (C, T, N) → (T 8).2.2.2 = false) := List.forall_mem_cons.mpr ⟨⟨gf_X1_43_1, rfl, Or.inr (fun _ _ _ h => by cases h; rfl)⟩, fun _ h => absurd h List.not_mem_nil⟩
theorem wfl_X1_48 : Cond.fieldLink RX1 48 "PenaltyGrid$Docket" "laws" "[LPenaltyGrid$Law;" ∈ gT := gT_c1 (i := 77) (by decide +kernel) rfl
theorem gf_X1_48_1 : gFld RX1 48 1 9 := ⟨RX1, TX1, 19, "PenaltyGrid$Docket", cls_1, by decide, wfl_X1_48, Or.inl rfl, Or.inr ⟨rfl, rfl⟩⟩
theorem gp_X1_48 : ∀ t ∈ [1], gFld RX1 48 t 9 ∧ gIsR (gFt t 9) = true ∧ ("<init>" = "<init>" ∨ ∀ (C : String) (T : u_T) (N : Nat), vwCl[t]? = some (C, T, N) → (T 9).2.2.2 = false) := List.forall_mem_cons.mpr ⟨⟨gf_X1_48_1, rfl, Or.inl rfl⟩, fun _ h => absurd h List.not_mem_nil⟩
theorem wfl_X1_52 : Cond.fieldLink RX1 52 "PenaltyGrid$Docket" "termCount" "I" ∈ gT := gT_c1 (i := 79) (by decide +kernel) rfl
theorem gf_X1_52_1 : gFld RX1 52 1 10 := ⟨RX1, TX1, 19, "PenaltyGrid$Docket", cls_1, by decide, wfl_X1_52, Or.inl rfl, Or.inl rfl⟩
theorem gp_X1_52 {nm : String} : ∀ t ∈ [1], gFld RX1 52 t 10 ∧ gFt t 10 = .int ∧ (nm = "<init>" ∨ ∀ (C : String) (T : u_T) (N : Nat), vwCl[t]? = some (C, T, N) → (T 10).2.2.2 = false) := List.forall_mem_cons.mpr ⟨⟨gf_X1_52_1, rfl, Or.inr (fun _ _ _ h => by cases h; rfl)⟩, fun _ h => absurd h List.not_mem_nil⟩
theorem wfl_X1_57 : Cond.fieldLink RX1 57 "PenaltyGrid$Docket" "terms" "[LPenaltyGrid$Term;" ∈ gT := gT_c1 (i := 81) (by decide +kernel) rfl
theorem gf_X1_57_1 : gFld RX1 57 1 11 := ⟨RX1, TX1, 19, "PenaltyGrid$Docket", cls_1, by decide, wfl_X1_57, Or.inl rfl, Or.inr ⟨rfl, rfl⟩⟩
theorem gp_X1_57 : ∀ t ∈ [1], gFld RX1 57 t 11 ∧ gIsR (gFt t 11) = true ∧ ("<init>" = "<init>" ∨ ∀ (C : String) (T : u_T) (N : Nat), vwCl[t]? = some (C, T, N) → (T 11).2.2.2 = false) := List.forall_mem_cons.mpr ⟨⟨gf_X1_57_1, rfl, Or.inl rfl⟩, fun _ h => absurd h List.not_mem_nil⟩
theorem wfl_X1_61 : Cond.fieldLink RX1 61 "PenaltyGrid$Docket" "unwound" "[I" ∈ gT := gT_c1 (i := 83) (by decide +kernel) rfl
theorem gf_X1_61_1 : gFld RX1 61 1 12 := ⟨RX1, TX1, 19, "PenaltyGrid$Docket", cls_1, by decide, wfl_X1_61, Or.inl rfl, Or.inr ⟨rfl, rfl⟩⟩
theorem gp_X1_61 : ∀ t ∈ [1], gFld RX1 61 t 12 ∧ gIsR (gFt t 12) = true ∧ ("<init>" = "<init>" ∨ ∀ (C : String) (T : u_T) (N : Nat), vwCl[t]? = some (C, T, N) → (T 12).2.2.2 = false) := List.forall_mem_cons.mpr ⟨⟨gf_X1_61_1, rfl, Or.inl rfl⟩, fun _ h => absurd h List.not_mem_nil⟩
theorem wfl_X1_64 : Cond.fieldLink RX1 64 "PenaltyGrid$Docket" "heldCount" "I" ∈ gT := gT_c1 (i := 85) (by decide +kernel) rfl
theorem gf_X1_64_1 : gFld RX1 64 1 13 := ⟨RX1, TX1, 19, "PenaltyGrid$Docket", cls_1, by decide, wfl_X1_64, Or.inl rfl, Or.inl rfl⟩
theorem gp_X1_64 {nm : String} : ∀ t ∈ [1], gFld RX1 64 t 13 ∧ gFt t 13 = .int ∧ (nm = "<init>" ∨ ∀ (C : String) (T : u_T) (N : Nat), vwCl[t]? = some (C, T, N) → (T 13).2.2.2 = false) := List.forall_mem_cons.mpr ⟨⟨gf_X1_64_1, rfl, Or.inr (fun _ _ _ h => by cases h; rfl)⟩, fun _ h => absurd h List.not_mem_nil⟩
theorem wfl_X1_67 : Cond.fieldLink RX1 67 "PenaltyGrid$Docket" "heldPerson" "[I" ∈ gT := gT_c1 (i := 87) (by decide +kernel) rfl
theorem gf_X1_67_1 : gFld RX1 67 1 14 := ⟨RX1, TX1, 19, "PenaltyGrid$Docket", cls_1, by decide, wfl_X1_67, Or.inl rfl, Or.inr ⟨rfl, rfl⟩⟩
theorem gp_X1_67 : ∀ t ∈ [1], gFld RX1 67 t 14 ∧ gIsR (gFt t 14) = true ∧ ("<init>" = "<init>" ∨ ∀ (C : String) (T : u_T) (N : Nat), vwCl[t]? = some (C, T, N) → (T 14).2.2.2 = false) := List.forall_mem_cons.mpr ⟨⟨gf_X1_67_1, rfl, Or.inl rfl⟩, fun _ h => absurd h List.not_mem_nil⟩
theorem wfl_X1_70 : Cond.fieldLink RX1 70 "PenaltyGrid$Docket" "heldFrom" "[I" ∈ gT := gT_c1 (i := 88) (by decide +kernel) rfl
theorem gf_X1_70_1 : gFld RX1 70 1 15 := ⟨RX1, TX1, 19, "PenaltyGrid$Docket", cls_1, by decide, wfl_X1_70, Or.inl rfl, Or.inr ⟨rfl, rfl⟩⟩
theorem gp_X1_70 : ∀ t ∈ [1], gFld RX1 70 t 15 ∧ gIsR (gFt t 15) = true ∧ ("<init>" = "<init>" ∨ ∀ (C : String) (T : u_T) (N : Nat), vwCl[t]? = some (C, T, N) → (T 15).2.2.2 = false) := List.forall_mem_cons.mpr ⟨⟨gf_X1_70_1, rfl, Or.inl rfl⟩, fun _ h => absurd h List.not_mem_nil⟩
theorem wfl_X1_73 : Cond.fieldLink RX1 73 "PenaltyGrid$Docket" "heldTo" "[I" ∈ gT := gT_c1 (i := 89) (by decide +kernel) rfl
theorem gf_X1_73_1 : gFld RX1 73 1 16 := ⟨RX1, TX1, 19, "PenaltyGrid$Docket", cls_1, by decide, wfl_X1_73, Or.inl rfl, Or.inr ⟨rfl, rfl⟩⟩
theorem gp_X1_73 : ∀ t ∈ [1], gFld RX1 73 t 16 ∧ gIsR (gFt t 16) = true ∧ ("<init>" = "<init>" ∨ ∀ (C : String) (T : u_T) (N : Nat), vwCl[t]? = some (C, T, N) → (T 16).2.2.2 = false) := List.forall_mem_cons.mpr ⟨⟨gf_X1_73_1, rfl, Or.inl rfl⟩, fun _ h => absurd h List.not_mem_nil⟩
theorem wfl_X1_76 : Cond.fieldLink RX1 76 "PenaltyGrid$Docket" "view" "[I" ∈ gT := gT_c1 (i := 90) (by decide +kernel) rfl
theorem gf_X1_76_1 : gFld RX1 76 1 17 := ⟨RX1, TX1, 19, "PenaltyGrid$Docket", cls_1, by decide, wfl_X1_76, Or.inl rfl, Or.inr ⟨rfl, rfl⟩⟩
theorem gp_X1_76 : ∀ t ∈ [1], gFld RX1 76 t 17 ∧ gIsR (gFt t 17) = true ∧ ("<init>" = "<init>" ∨ ∀ (C : String) (T : u_T) (N : Nat), vwCl[t]? = some (C, T, N) → (T 17).2.2.2 = false) := List.forall_mem_cons.mpr ⟨⟨gf_X1_76_1, rfl, Or.inl rfl⟩, fun _ h => absurd h List.not_mem_nil⟩
theorem wco_X7_init : Cond.code yX7_init cX7_init 1 none ∈ gT := gT_c1 (i := 48) (by decide +kernel) rfl
theorem win_X7 : Cond.initialized RX7 ∈ gT := gT_c1 (i := 3) (by decide +kernel) rfl
theorem mf_X7_init : gMf yX7_init cX7_init 1 none 0 := ⟨wco_X7_init, win_X7, ⟨by decide +kernel, by decide +kernel⟩, by decide +kernel⟩
theorem wnest_X1_81 : Cond.methodLinkNest RX1 81 yX7_init "PenaltyGrid" ∈ gNest := List.mem_of_getElem? (i := 1) rfl
theorem wim_X7_init : Cond.instanceMethod yX7_init ∈ gT := gT_c1 (i := 47) (by decide +kernel) rfl
theorem wfl_X1_82 : Cond.fieldLink RX1 82 "PenaltyGrid$Docket" "time" "LPenaltyGrid$Rows;" ∈ gT := gT_c1 (i := 91) (by decide +kernel) rfl
theorem gf_X1_82_1 : gFld RX1 82 1 18 := ⟨RX1, TX1, 19, "PenaltyGrid$Docket", cls_1, by decide, wfl_X1_82, Or.inl rfl, Or.inr ⟨rfl, rfl⟩⟩
theorem gp_X1_82 : ∀ t ∈ [1], gFld RX1 82 t 18 ∧ gIsR (gFt t 18) = true ∧ ("<init>" = "<init>" ∨ ∀ (C : String) (T : u_T) (N : Nat), vwCl[t]? = some (C, T, N) → (T 18).2.2.2 = false) := List.forall_mem_cons.mpr ⟨⟨gf_X1_82_1, rfl, Or.inl rfl⟩, fun _ h => absurd h List.not_mem_nil⟩
theorem wck_X1_79 : Cond.classLink RX1 79 RX7 ∈ gT := gT_c1 (i := 44) (by decide +kernel) rfl
theorem wis_X7 : Cond.instantiable RX7 2 ∈ gT := gT_c1 (i := 45) (by decide +kernel) rfl
theorem wck_X1_55 : Cond.classLink RX1 55 RX8 ∈ gT := gT_c1 (i := 42) (by decide +kernel) rfl
theorem wck_X1_46 : Cond.classLink RX1 46 RX4 ∈ gT := gT_c1 (i := 40) (by decide +kernel) rfl
theorem wck_X1_37 : Cond.classLink RX1 37 RX3 ∈ gT := gT_c1 (i := 38) (by decide +kernel) rfl
theorem wck_X1_28 : Cond.classLink RX1 28 RX0 ∈ gT := gT_c1 (i := 36) (by decide +kernel) rfl
theorem wml_X1_3 : Cond.methodLink RX1 3 ⟨"java/lang/Object", "<init>", "()V"⟩ ∈ gT := gT_c1 (i := 35) (by decide +kernel) rfl
theorem gg_X1_64 : ∀ t ∈ [1], gFldG RX1 64 t 13 ∧ gIsR (gFt t 13) = false := List.forall_mem_cons.mpr ⟨⟨gf_X1_64_1.g, rfl⟩, fun _ h => absurd h List.not_mem_nil⟩
theorem gg_X1_67 : ∀ t ∈ [1], gFldG RX1 67 t 14 ∧ gIsR (gFt t 14) = true := List.forall_mem_cons.mpr ⟨⟨gf_X1_67_1.g, rfl⟩, fun _ h => absurd h List.not_mem_nil⟩
theorem gg_X1_70 : ∀ t ∈ [1], gFldG RX1 70 t 15 ∧ gIsR (gFt t 15) = true := List.forall_mem_cons.mpr ⟨⟨gf_X1_70_1.g, rfl⟩, fun _ h => absurd h List.not_mem_nil⟩
theorem gg_X1_73 : ∀ t ∈ [1], gFldG RX1 73 t 16 ∧ gIsR (gFt t 16) = true := List.forall_mem_cons.mpr ⟨⟨gf_X1_73_1.g, rfl⟩, fun _ h => absurd h List.not_mem_nil⟩
theorem gg_X1_52 : ∀ t ∈ [1], gFldG RX1 52 t 10 ∧ gIsR (gFt t 10) = false := List.forall_mem_cons.mpr ⟨⟨gf_X1_52_1.g, rfl⟩, fun _ h => absurd h List.not_mem_nil⟩
theorem gg_X1_57 : ∀ t ∈ [1], gFldG RX1 57 t 11 ∧ gIsR (gFt t 11) = true := List.forall_mem_cons.mpr ⟨⟨gf_X1_57_1.g, rfl⟩, fun _ h => absurd h List.not_mem_nil⟩
theorem gg_X1_61 : ∀ t ∈ [1], gFldG RX1 61 t 12 ∧ gIsR (gFt t 12) = true := List.forall_mem_cons.mpr ⟨⟨gf_X1_61_1.g, rfl⟩, fun _ h => absurd h List.not_mem_nil⟩
theorem gg_X1_43 : ∀ t ∈ [1], gFldG RX1 43 t 8 ∧ gIsR (gFt t 8) = false := List.forall_mem_cons.mpr ⟨⟨gf_X1_43_1.g, rfl⟩, fun _ h => absurd h List.not_mem_nil⟩
theorem gg_X1_48 : ∀ t ∈ [1], gFldG RX1 48 t 9 ∧ gIsR (gFt t 9) = true := List.forall_mem_cons.mpr ⟨⟨gf_X1_48_1.g, rfl⟩, fun _ h => absurd h List.not_mem_nil⟩
theorem gg_X1_34 : ∀ t ∈ [1], gFldG RX1 34 t 6 ∧ gIsR (gFt t 6) = false := List.forall_mem_cons.mpr ⟨⟨gf_X1_34_1.g, rfl⟩, fun _ h => absurd h List.not_mem_nil⟩
theorem gg_X1_39 : ∀ t ∈ [1], gFldG RX1 39 t 7 ∧ gIsR (gFt t 7) = true := List.forall_mem_cons.mpr ⟨⟨gf_X1_39_1.g, rfl⟩, fun _ h => absurd h List.not_mem_nil⟩
theorem gg_X1_25 : ∀ t ∈ [1], gFldG RX1 25 t 4 ∧ gIsR (gFt t 4) = false := List.forall_mem_cons.mpr ⟨⟨gf_X1_25_1.g, rfl⟩, fun _ h => absurd h List.not_mem_nil⟩
theorem gg_X1_30 : ∀ t ∈ [1], gFldG RX1 30 t 5 ∧ gIsR (gFt t 5) = true := List.forall_mem_cons.mpr ⟨⟨gf_X1_30_1.g, rfl⟩, fun _ h => absurd h List.not_mem_nil⟩
theorem gg_X1_15 : ∀ t ∈ [1], gFldG RX1 15 t 1 ∧ gIsR (gFt t 1) = false := List.forall_mem_cons.mpr ⟨⟨gf_X1_15_1.g, rfl⟩, fun _ h => absurd h List.not_mem_nil⟩
theorem gg_X1_18 : ∀ t ∈ [1], gFldG RX1 18 t 2 ∧ gIsR (gFt t 2) = true := List.forall_mem_cons.mpr ⟨⟨gf_X1_18_1.g, rfl⟩, fun _ h => absurd h List.not_mem_nil⟩
theorem gg_X1_22 : ∀ t ∈ [1], gFldG RX1 22 t 3 ∧ gIsR (gFt t 3) = true := List.forall_mem_cons.mpr ⟨⟨gf_X1_22_1.g, rfl⟩, fun _ h => absurd h List.not_mem_nil⟩
theorem gg_X1_9 : ∀ t ∈ [1], gFldG RX1 9 t 0 ∧ gIsR (gFt t 0) = false := List.forall_mem_cons.mpr ⟨⟨gf_X1_9_1.g, rfl⟩, fun _ h => absurd h List.not_mem_nil⟩
theorem wco_X0_init : Cond.code yX0_init cX0_init 6 none ∈ gT := gT_c2 (i := 61) (by decide +kernel) rfl
theorem win_X0 : Cond.initialized RX0 ∈ gT := gT_c1 (i := 9) (by decide +kernel) rfl
theorem mf_X0_init : gMf yX0_init cX0_init 6 none 5 := ⟨wco_X0_init, win_X0, ⟨by decide +kernel, by decide +kernel⟩, by decide +kernel⟩
theorem wml_X10_1 : Cond.methodLink RX10 1 yX0_init ∈ gT := gT_c2 (i := 59) (by decide +kernel) rfl
theorem wim_X0_init : Cond.instanceMethod yX0_init ∈ gT := gT_c2 (i := 60) (by decide +kernel) rfl
theorem wco_X1_yearsOf : Cond.code yX1_yearsOf cX1_yearsOf 3 (some .int) ∈ gT := gT_c2 (i := 44) (by decide +kernel) rfl
theorem win_X1 : Cond.initialized RX1 ∈ gT := gT_c1 (i := 2) (by decide +kernel) rfl
theorem mf_X1_yearsOf : gMf yX1_yearsOf cX1_yearsOf 3 (some .int) 2 := ⟨wco_X1_yearsOf, win_X1, ⟨by decide +kernel, by decide +kernel⟩, by decide +kernel⟩
theorem wml_X1_86 : Cond.methodLink RX1 86 yX1_yearsOf ∈ gT := gT_c2 (i := 53) (by decide +kernel) rfl
theorem wim_X1_yearsOf : Cond.instanceMethod yX1_yearsOf ∈ gT := gT_c2 (i := 42) (by decide +kernel) rfl
theorem wse_X1_X1_yearsOf_X1_yearsOf : Cond.selects RX1 yX1_yearsOf yX1_yearsOf ∈ gT := gT_c2 (i := 43) (by decide +kernel) rfl
theorem wml_X1_95 : Cond.methodLink RX1 95 yX0_init ∈ gT := gT_c2 (i := 103) (by decide +kernel) rfl
theorem wis_X0 : Cond.instantiable RX0 5 ∈ gT := gT_c2 (i := 102) (by decide +kernel) rfl
theorem wco_X10_init : Cond.code yX10_init cX10_init 6 none ∈ gT := gT_c2 (i := 58) (by decide +kernel) rfl
theorem win_X10 : Cond.initialized RX10 ∈ gT := gT_c1 (i := 10) (by decide +kernel) rfl
theorem mf_X10_init : gMf yX10_init cX10_init 6 none 5 := ⟨wco_X10_init, win_X10, ⟨by decide +kernel, by decide +kernel⟩, by decide +kernel⟩
theorem wml_X1_92 : Cond.methodLink RX1 92 yX10_init ∈ gT := gT_c2 (i := 56) (by decide +kernel) rfl
theorem wim_X10_init : Cond.instanceMethod yX10_init ∈ gT := gT_c2 (i := 57) (by decide +kernel) rfl
theorem wck_X1_90 : Cond.classLink RX1 90 RX10 ∈ gT := gT_c2 (i := 54) (by decide +kernel) rfl
theorem wis_X10 : Cond.instantiable RX10 5 ∈ gT := gT_c2 (i := 55) (by decide +kernel) rfl
theorem wml_X3_1 : Cond.methodLink RX3 1 yX6_init ∈ gT := gT_c2 (i := 129) (by decide +kernel) rfl
theorem wfl_X3_7 : Cond.fieldLink RX3 7 "PenaltyGrid$Finding" "deed" "LPenaltyGrid$Deed;" ∈ gT := gT_c2 (i := 130) (by decide +kernel) rfl
theorem gf_X3_7_3 : gFld RX3 7 3 2 := ⟨RX3, TX3, 5, "PenaltyGrid$Finding", cls_3, by decide, wfl_X3_7, Or.inl rfl, Or.inr ⟨rfl, rfl⟩⟩
theorem gp_X3_7 : ∀ t ∈ [3], gFld RX3 7 t 2 ∧ gIsR (gFt t 2) = true ∧ ("<init>" = "<init>" ∨ ∀ (C : String) (T : u_T) (N : Nat), vwCl[t]? = some (C, T, N) → (T 2).2.2.2 = false) := List.forall_mem_cons.mpr ⟨⟨gf_X3_7_3, rfl, Or.inl rfl⟩, fun _ h => absurd h List.not_mem_nil⟩
theorem wfl_X3_13 : Cond.fieldLink RX3 13 "PenaltyGrid$Finding" "pleaded" "Z" ∈ gT := gT_c2 (i := 132) (by decide +kernel) rfl
theorem gf_X3_13_3 : gFld RX3 13 3 3 := ⟨RX3, TX3, 5, "PenaltyGrid$Finding", cls_3, by decide, wfl_X3_13, Or.inl rfl, Or.inr ⟨rfl, rfl⟩⟩
theorem gp_X3_13 : ∀ t ∈ [3], gFld RX3 13 t 3 ∧ gFt t 3 = .boolean ∧ ("<init>" = "<init>" ∨ ∀ (C : String) (T : u_T) (N : Nat), vwCl[t]? = some (C, T, N) → (T 3).2.2.2 = false) := List.forall_mem_cons.mpr ⟨⟨gf_X3_13_3, rfl, Or.inl rfl⟩, fun _ h => absurd h List.not_mem_nil⟩
theorem wfl_X3_17 : Cond.fieldLink RX3 17 "PenaltyGrid$Finding" "day" "I" ∈ gT := gT_c2 (i := 134) (by decide +kernel) rfl
theorem gf_X3_17_3 : gFld RX3 17 3 4 := ⟨RX3, TX3, 5, "PenaltyGrid$Finding", cls_3, by decide, wfl_X3_17, Or.inl rfl, Or.inr ⟨rfl, rfl⟩⟩
theorem gp_X3_17 : ∀ t ∈ [3], gFld RX3 17 t 4 ∧ gFt t 4 = .int ∧ ("<init>" = "<init>" ∨ ∀ (C : String) (T : u_T) (N : Nat), vwCl[t]? = some (C, T, N) → (T 4).2.2.2 = false) := List.forall_mem_cons.mpr ⟨⟨gf_X3_17_3, rfl, Or.inl rfl⟩, fun _ h => absurd h List.not_mem_nil⟩
theorem wco_X3_init : Cond.code yX3_init cX3_init 6 none ∈ gT := gT_c2 (i := 128) (by decide +kernel) rfl
theorem win_X3 : Cond.initialized RX3 ∈ gT := gT_c1 (i := 11) (by decide +kernel) rfl
theorem mf_X3_init : gMf yX3_init cX3_init 6 none 5 := ⟨wco_X3_init, win_X3, ⟨by decide +kernel, by decide +kernel⟩, by decide +kernel⟩
theorem wml_X1_96 : Cond.methodLink RX1 96 yX3_init ∈ gT := gT_c2 (i := 126) (by decide +kernel) rfl
theorem wim_X3_init : Cond.instanceMethod yX3_init ∈ gT := gT_c2 (i := 127) (by decide +kernel) rfl
theorem wis_X3 : Cond.instantiable RX3 5 ∈ gT := gT_c2 (i := 125) (by decide +kernel) rfl
theorem wml_J7_304 : Cond.methodLink RJ7 304 Lib.Math.min.name ∈ gT := gT_c3 (i := 79) (by decide +kernel) rfl
theorem wst_math_min : Cond.static Lib.Math.min.name ∈ gT := gT_c3 (i := 80) (by decide +kernel) rfl
theorem win_math : Cond.initialized "java/lang/Math" ∈ gT := gT_c1 (i := 17) (by decide +kernel) rfl
theorem wco_math_min : Cond.code Lib.Math.min.name Lib.Math.min.code 2 (some .int) ∈ gT := gT_c3 (i := 81) (by decide +kernel) rfl
theorem wml_J7_150 : Cond.methodLink RJ7 150 arraycopyName ∈ gT := gT_c3 (i := 82) (by decide +kernel) rfl
theorem wna_copy : Cond.native arraycopyName ∈ gT := gT_c3 (i := 84) (by decide +kernel) rfl
theorem wst_copy : Cond.static arraycopyName ∈ gT := gT_c3 (i := 83) (by decide +kernel) rfl
theorem win_system : Cond.initialized "java/lang/System" ∈ gT := gT_c1 (i := 18) (by decide +kernel) rfl
theorem wck_J7_317 : Cond.classLink RJ7 317 "[I" ∈ gT := gT_c3 (i := 78) (by decide +kernel) rfl
theorem wml_J7_316 : Cond.methodLink RJ7 316 ⟨"[I", "clone", "()Ljava/lang/Object;"⟩ ∈ gT := gT_c3 (i := 72) (by decide +kernel) rfl
theorem wsm_clone : Cond.sameMethod "[I" "java/lang/Object" "clone" "()Ljava/lang/Object;" ∈ gT := gT_c3 (i := 73) (by decide +kernel) rfl
theorem wna_clone : Cond.native ⟨"java/lang/Object", "clone", "()Ljava/lang/Object;"⟩ ∈ gT := gT_c3 (i := 74) (by decide +kernel) rfl
theorem wim_clone : Cond.instanceMethod ⟨"java/lang/Object", "clone", "()Ljava/lang/Object;"⟩ ∈ gT := gT_c3 (i := 75) (by decide +kernel) rfl
theorem wse_clone : Cond.selects "[I" ⟨"[I", "clone", "()Ljava/lang/Object;"⟩ ⟨"java/lang/Object", "clone", "()Ljava/lang/Object;"⟩ ∈ gT := gT_c3 (i := 76) (by decide +kernel) rfl
theorem wfl_X5_34 : Cond.fieldLink RX5 34 "PenaltyGrid$LawReader" "numbers" "[I" ∈ gT := gT_c1 (i := 151) (by decide +kernel) rfl
theorem gf_X5_34_5 : gFld RX5 34 5 7 := ⟨RX5, TX5, 13, "PenaltyGrid$LawReader", cls_5, by decide, wfl_X5_34, Or.inl rfl, Or.inr ⟨rfl, rfl⟩⟩
theorem gg_X5_34 : ∀ t ∈ [5], gFldG RX5 34 t 7 ∧ gIsR (gFt t 7) = true := List.forall_mem_cons.mpr ⟨⟨gf_X5_34_5.g, rfl⟩, fun _ h => absurd h List.not_mem_nil⟩
theorem wfl_X4_36 : Cond.fieldLink RX4 36 "PenaltyGrid$Law" "a" "I" ∈ gT := gT_c2 (i := 79) (by decide +kernel) rfl
theorem wsf_X4_a : Cond.sameField "PenaltyGrid$Law" "PenaltyGrid$Paper" "a" "I" ∈ gT := gT_c2 (i := 80) (by decide +kernel) rfl
theorem gf_X4_36_4 : gFldG RX4 36 4 1 := ⟨RX4, TX4, 14, "PenaltyGrid$Law", cls_4, by decide, wfl_X4_36, Or.inr wsf_X4_a⟩
theorem gg_X4_36 : ∀ t ∈ [4], gFldG RX4 36 t 1 ∧ gIsR (gFt t 1) = false := List.forall_mem_cons.mpr ⟨⟨gf_X4_36_4, rfl⟩, fun _ h => absurd h List.not_mem_nil⟩
theorem wfl_X4_72 : Cond.fieldLink RX4 72 "PenaltyGrid$Law" "looksBack" "Z" ∈ gT := gT_c3 (i := 90) (by decide +kernel) rfl
theorem gf_X4_72_4 : gFld RX4 72 4 3 := ⟨RX4, TX4, 14, "PenaltyGrid$Law", cls_4, by decide, wfl_X4_72, Or.inl rfl, Or.inr ⟨rfl, rfl⟩⟩
theorem gp_X4_72 : ∀ t ∈ [4], gFld RX4 72 t 3 ∧ gFt t 3 = .boolean ∧ ("<init>" = "<init>" ∨ ∀ (C : String) (T : u_T) (N : Nat), vwCl[t]? = some (C, T, N) → (T 3).2.2.2 = false) := List.forall_mem_cons.mpr ⟨⟨gf_X4_72_4, rfl, Or.inl rfl⟩, fun _ h => absurd h List.not_mem_nil⟩
theorem wfl_X4_76 : Cond.fieldLink RX4 76 "PenaltyGrid$Law" "old" "I" ∈ gT := gT_c3 (i := 98) (by decide +kernel) rfl
theorem gf_X4_76_4 : gFld RX4 76 4 7 := ⟨RX4, TX4, 14, "PenaltyGrid$Law", cls_4, by decide, wfl_X4_76, Or.inl rfl, Or.inr ⟨rfl, rfl⟩⟩
theorem gp_X4_76 : ∀ t ∈ [4], gFld RX4 76 t 7 ∧ gFt t 7 = .int ∧ ("<init>" = "<init>" ∨ ∀ (C : String) (T : u_T) (N : Nat), vwCl[t]? = some (C, T, N) → (T 7).2.2.2 = false) := List.forall_mem_cons.mpr ⟨⟨gf_X4_76_4, rfl, Or.inl rfl⟩, fun _ h => absurd h List.not_mem_nil⟩
theorem wco_X5_number : Cond.code yX5_number cX5_number 3 (some .int) ∈ gT := gT_c3 (i := 33) (by decide +kernel) rfl
theorem mf_X5_number : gMf yX5_number cX5_number 3 (some .int) 2 := ⟨wco_X5_number, win_X5, ⟨by decide +kernel, by decide +kernel⟩, by decide +kernel⟩
theorem wml_X4_68 : Cond.methodLink RX4 68 yX5_number ∈ gT := gT_c3 (i := 86) (by decide +kernel) rfl
theorem wim_X5_number : Cond.instanceMethod yX5_number ∈ gT := gT_c3 (i := 31) (by decide +kernel) rfl
theorem wse_X5_X5_number_X5_number : Cond.selects RX5 yX5_number yX5_number ∈ gT := gT_c3 (i := 32) (by decide +kernel) rfl
theorem wfl_X4_45 : Cond.fieldLink RX4 45 "PenaltyGrid$Law" "sorts" "[I" ∈ gT := gT_c3 (i := 93) (by decide +kernel) rfl
theorem gf_X4_45_4 : gFld RX4 45 4 4 := ⟨RX4, TX4, 14, "PenaltyGrid$Law", cls_4, by decide, wfl_X4_45, Or.inl rfl, Or.inr ⟨rfl, rfl⟩⟩
theorem gg_X4_45 : ∀ t ∈ [4], gFldG RX4 45 t 4 ∧ gIsR (gFt t 4) = true := List.forall_mem_cons.mpr ⟨⟨gf_X4_45_4.g, rfl⟩, fun _ h => absurd h List.not_mem_nil⟩
theorem wfl_X4_61 : Cond.fieldLink RX4 61 "PenaltyGrid$Law" "steps" "[I" ∈ gT := gT_c3 (i := 101) (by decide +kernel) rfl
theorem gf_X4_61_4 : gFld RX4 61 4 9 := ⟨RX4, TX4, 14, "PenaltyGrid$Law", cls_4, by decide, wfl_X4_61, Or.inl rfl, Or.inr ⟨rfl, rfl⟩⟩
theorem gg_X4_61 : ∀ t ∈ [4], gFldG RX4 61 t 9 ∧ gIsR (gFt t 9) = true := List.forall_mem_cons.mpr ⟨⟨gf_X4_61_4.g, rfl⟩, fun _ h => absurd h List.not_mem_nil⟩
theorem wfl_X4_24 : Cond.fieldLink RX4 24 "PenaltyGrid$Law" "ranges" "[I" ∈ gT := gT_c3 (i := 100) (by decide +kernel) rfl
theorem gf_X4_24_4 : gFld RX4 24 4 8 := ⟨RX4, TX4, 14, "PenaltyGrid$Law", cls_4, by decide, wfl_X4_24, Or.inl rfl, Or.inr ⟨rfl, rfl⟩⟩
theorem gg_X4_24 : ∀ t ∈ [4], gFldG RX4 24 t 8 ∧ gIsR (gFt t 8) = true := List.forall_mem_cons.mpr ⟨⟨gf_X4_24_4.g, rfl⟩, fun _ h => absurd h List.not_mem_nil⟩
theorem wfl_X4_21 : Cond.fieldLink RX4 21 "PenaltyGrid$Law" "kindPoints" "[I" ∈ gT := gT_c3 (i := 96) (by decide +kernel) rfl
theorem gf_X4_21_4 : gFld RX4 21 4 6 := ⟨RX4, TX4, 14, "PenaltyGrid$Law", cls_4, by decide, wfl_X4_21, Or.inl rfl, Or.inr ⟨rfl, rfl⟩⟩
theorem gg_X4_21 : ∀ t ∈ [4], gFldG RX4 21 t 6 ∧ gIsR (gFt t 6) = true := List.forall_mem_cons.mpr ⟨⟨gf_X4_21_4.g, rfl⟩, fun _ h => absurd h List.not_mem_nil⟩
theorem wfl_X4_15 : Cond.fieldLink RX4 15 "PenaltyGrid$Law" "kindGrave" "[I" ∈ gT := gT_c3 (i := 95) (by decide +kernel) rfl
theorem gf_X4_15_4 : gFld RX4 15 4 5 := ⟨RX4, TX4, 14, "PenaltyGrid$Law", cls_4, by decide, wfl_X4_15, Or.inl rfl, Or.inr ⟨rfl, rfl⟩⟩
theorem gg_X4_15 : ∀ t ∈ [4], gFldG RX4 15 t 5 ∧ gIsR (gFt t 5) = true := List.forall_mem_cons.mpr ⟨⟨gf_X4_15_4.g, rfl⟩, fun _ h => absurd h List.not_mem_nil⟩
theorem wfl_X4_3 : Cond.fieldLink RX4 3 "PenaltyGrid$LawReader" "lines" "I" ∈ gT := gT_c1 (i := 139) (by decide +kernel) rfl
theorem gf_X4_3_5 : gFld RX4 3 5 1 := ⟨RX5, TX5, 13, "PenaltyGrid$LawReader", cls_5, by decide, wfl_X4_3, Or.inl rfl, Or.inl rfl⟩
theorem gg_X4_3 : ∀ t ∈ [5], gFldG RX4 3 t 1 ∧ gIsR (gFt t 1) = false := List.forall_mem_cons.mpr ⟨⟨gf_X4_3_5.g, rfl⟩, fun _ h => absurd h List.not_mem_nil⟩
theorem wml_X4_9 : Cond.methodLink RX4 9 yX6_init ∈ gT := gT_c3 (i := 68) (by decide +kernel) rfl
theorem gp_X4_15 : ∀ t ∈ [4], gFld RX4 15 t 5 ∧ gIsR (gFt t 5) = true ∧ ("<init>" = "<init>" ∨ ∀ (C : String) (T : u_T) (N : Nat), vwCl[t]? = some (C, T, N) → (T 5).2.2.2 = false) := List.forall_mem_cons.mpr ⟨⟨gf_X4_15_4, rfl, Or.inl rfl⟩, fun _ h => absurd h List.not_mem_nil⟩
theorem gp_X4_21 : ∀ t ∈ [4], gFld RX4 21 t 6 ∧ gIsR (gFt t 6) = true ∧ ("<init>" = "<init>" ∨ ∀ (C : String) (T : u_T) (N : Nat), vwCl[t]? = some (C, T, N) → (T 6).2.2.2 = false) := List.forall_mem_cons.mpr ⟨⟨gf_X4_21_4, rfl, Or.inl rfl⟩, fun _ h => absurd h List.not_mem_nil⟩
theorem gp_X4_24 : ∀ t ∈ [4], gFld RX4 24 t 8 ∧ gIsR (gFt t 8) = true ∧ ("<init>" = "<init>" ∨ ∀ (C : String) (T : u_T) (N : Nat), vwCl[t]? = some (C, T, N) → (T 8).2.2.2 = false) := List.forall_mem_cons.mpr ⟨⟨gf_X4_24_4, rfl, Or.inl rfl⟩, fun _ h => absurd h List.not_mem_nil⟩
theorem wfl_X4_27 : Cond.fieldLink RX4 27 "PenaltyGrid$Law" "stack" "[I" ∈ gT := gT_c3 (i := 105) (by decide +kernel) rfl
theorem gf_X4_27_4 : gFld RX4 27 4 13 := ⟨RX4, TX4, 14, "PenaltyGrid$Law", cls_4, by decide, wfl_X4_27, Or.inl rfl, Or.inr ⟨rfl, rfl⟩⟩
theorem gp_X4_27 : ∀ t ∈ [4], gFld RX4 27 t 13 ∧ gIsR (gFt t 13) = true ∧ ("<init>" = "<init>" ∨ ∀ (C : String) (T : u_T) (N : Nat), vwCl[t]? = some (C, T, N) → (T 13).2.2.2 = false) := List.forall_mem_cons.mpr ⟨⟨gf_X4_27_4, rfl, Or.inl rfl⟩, fun _ h => absurd h List.not_mem_nil⟩
theorem wfl_X4_30 : Cond.fieldLink RX4 30 "PenaltyGrid$Law" "day" "I" ∈ gT := gT_c3 (i := 87) (by decide +kernel) rfl
theorem gf_X4_30_4 : gFld RX4 30 4 2 := ⟨RX4, TX4, 14, "PenaltyGrid$Law", cls_4, by decide, wfl_X4_30, Or.inl rfl, Or.inr ⟨rfl, rfl⟩⟩
theorem gp_X4_30 : ∀ t ∈ [4], gFld RX4 30 t 2 ∧ gFt t 2 = .int ∧ ("<init>" = "<init>" ∨ ∀ (C : String) (T : u_T) (N : Nat), vwCl[t]? = some (C, T, N) → (T 2).2.2.2 = false) := List.forall_mem_cons.mpr ⟨⟨gf_X4_30_4, rfl, Or.inl rfl⟩, fun _ h => absurd h List.not_mem_nil⟩
theorem wfl_X4_33 : Cond.fieldLink RX4 33 "PenaltyGrid$LawReader" "sorts" "[I" ∈ gT := gT_c1 (i := 144) (by decide +kernel) rfl
theorem gf_X4_33_5 : gFldG RX4 33 5 3 := ⟨RX5, TX5, 13, "PenaltyGrid$LawReader", cls_5, by decide, wfl_X4_33, Or.inl rfl⟩
theorem gg_X4_33 : ∀ t ∈ [5], gFldG RX4 33 t 3 ∧ gIsR (gFt t 3) = true := List.forall_mem_cons.mpr ⟨⟨gf_X4_33_5, rfl⟩, fun _ h => absurd h List.not_mem_nil⟩
theorem wco_J7_copyOf_59c91 : Cond.code yJ7_copyOf_59c91 cJ7_copyOf_59c91 3 (some (.array .int)) ∈ gT := gT_c3 (i := 71) (by decide +kernel) rfl
theorem win_J7 : Cond.initialized RJ7 ∈ gT := gT_c1 (i := 6) (by decide +kernel) rfl
theorem mf_J7_copyOf_59c91 : gMf yJ7_copyOf_59c91 cJ7_copyOf_59c91 3 (some (.array .int)) 2 := ⟨wco_J7_copyOf_59c91, win_J7, ⟨by decide +kernel, by decide +kernel⟩, by decide +kernel⟩
theorem wml_X4_39 : Cond.methodLink RX4 39 yJ7_copyOf_59c91 ∈ gT := gT_c3 (i := 69) (by decide +kernel) rfl
theorem wst_J7_copyOf_59c91 : Cond.static yJ7_copyOf_59c91 ∈ gT := gT_c3 (i := 70) (by decide +kernel) rfl
theorem gp_X4_45 : ∀ t ∈ [4], gFld RX4 45 t 4 ∧ gIsR (gFt t 4) = true ∧ ("<init>" = "<init>" ∨ ∀ (C : String) (T : u_T) (N : Nat), vwCl[t]? = some (C, T, N) → (T 4).2.2.2 = false) := List.forall_mem_cons.mpr ⟨⟨gf_X4_45_4, rfl, Or.inl rfl⟩, fun _ h => absurd h List.not_mem_nil⟩
theorem wfl_X4_46 : Cond.fieldLink RX4 46 "PenaltyGrid$LawReader" "condStart" "[I" ∈ gT := gT_c1 (i := 146) (by decide +kernel) rfl
theorem gf_X4_46_5 : gFldG RX4 46 5 4 := ⟨RX5, TX5, 13, "PenaltyGrid$LawReader", cls_5, by decide, wfl_X4_46, Or.inl rfl⟩
theorem gg_X4_46 : ∀ t ∈ [5], gFldG RX4 46 t 4 ∧ gIsR (gFt t 4) = true := List.forall_mem_cons.mpr ⟨⟨gf_X4_46_5, rfl⟩, fun _ h => absurd h List.not_mem_nil⟩
theorem wfl_X4_49 : Cond.fieldLink RX4 49 "PenaltyGrid$Law" "condStart" "[I" ∈ gT := gT_c3 (i := 102) (by decide +kernel) rfl
theorem gf_X4_49_4 : gFld RX4 49 4 10 := ⟨RX4, TX4, 14, "PenaltyGrid$Law", cls_4, by decide, wfl_X4_49, Or.inl rfl, Or.inr ⟨rfl, rfl⟩⟩
theorem gp_X4_49 : ∀ t ∈ [4], gFld RX4 49 t 10 ∧ gIsR (gFt t 10) = true ∧ ("<init>" = "<init>" ∨ ∀ (C : String) (T : u_T) (N : Nat), vwCl[t]? = some (C, T, N) → (T 10).2.2.2 = false) := List.forall_mem_cons.mpr ⟨⟨gf_X4_49_4, rfl, Or.inl rfl⟩, fun _ h => absurd h List.not_mem_nil⟩
theorem wfl_X4_50 : Cond.fieldLink RX4 50 "PenaltyGrid$LawReader" "condEnd" "[I" ∈ gT := gT_c1 (i := 148) (by decide +kernel) rfl
theorem gf_X4_50_5 : gFldG RX4 50 5 5 := ⟨RX5, TX5, 13, "PenaltyGrid$LawReader", cls_5, by decide, wfl_X4_50, Or.inl rfl⟩
theorem gg_X4_50 : ∀ t ∈ [5], gFldG RX4 50 t 5 ∧ gIsR (gFt t 5) = true := List.forall_mem_cons.mpr ⟨⟨gf_X4_50_5, rfl⟩, fun _ h => absurd h List.not_mem_nil⟩
theorem wfl_X4_53 : Cond.fieldLink RX4 53 "PenaltyGrid$Law" "condEnd" "[I" ∈ gT := gT_c3 (i := 103) (by decide +kernel) rfl
theorem gf_X4_53_4 : gFld RX4 53 4 11 := ⟨RX4, TX4, 14, "PenaltyGrid$Law", cls_4, by decide, wfl_X4_53, Or.inl rfl, Or.inr ⟨rfl, rfl⟩⟩
theorem gp_X4_53 : ∀ t ∈ [4], gFld RX4 53 t 11 ∧ gIsR (gFt t 11) = true ∧ ("<init>" = "<init>" ∨ ∀ (C : String) (T : u_T) (N : Nat), vwCl[t]? = some (C, T, N) → (T 11).2.2.2 = false) := List.forall_mem_cons.mpr ⟨⟨gf_X4_53_4, rfl, Or.inl rfl⟩, fun _ h => absurd h List.not_mem_nil⟩
theorem wfl_X4_54 : Cond.fieldLink RX4 54 "PenaltyGrid$LawReader" "code" "[I" ∈ gT := gT_c1 (i := 150) (by decide +kernel) rfl
theorem gf_X4_54_5 : gFldG RX4 54 5 6 := ⟨RX5, TX5, 13, "PenaltyGrid$LawReader", cls_5, by decide, wfl_X4_54, Or.inl rfl⟩
theorem gg_X4_54 : ∀ t ∈ [5], gFldG RX4 54 t 6 ∧ gIsR (gFt t 6) = true := List.forall_mem_cons.mpr ⟨⟨gf_X4_54_5, rfl⟩, fun _ h => absurd h List.not_mem_nil⟩
theorem wfl_X4_57 : Cond.fieldLink RX4 57 "PenaltyGrid$LawReader" "codes" "I" ∈ gT := gT_c1 (i := 142) (by decide +kernel) rfl
theorem gf_X4_57_5 : gFld RX4 57 5 2 := ⟨RX5, TX5, 13, "PenaltyGrid$LawReader", cls_5, by decide, wfl_X4_57, Or.inl rfl, Or.inl rfl⟩
theorem gg_X4_57 : ∀ t ∈ [5], gFldG RX4 57 t 2 ∧ gIsR (gFt t 2) = false := List.forall_mem_cons.mpr ⟨⟨gf_X4_57_5.g, rfl⟩, fun _ h => absurd h List.not_mem_nil⟩
theorem wfl_X4_60 : Cond.fieldLink RX4 60 "PenaltyGrid$Law" "code" "[I" ∈ gT := gT_c3 (i := 104) (by decide +kernel) rfl
theorem gf_X4_60_4 : gFld RX4 60 4 12 := ⟨RX4, TX4, 14, "PenaltyGrid$Law", cls_4, by decide, wfl_X4_60, Or.inl rfl, Or.inr ⟨rfl, rfl⟩⟩
theorem gp_X4_60 : ∀ t ∈ [4], gFld RX4 60 t 12 ∧ gIsR (gFt t 12) = true ∧ ("<init>" = "<init>" ∨ ∀ (C : String) (T : u_T) (N : Nat), vwCl[t]? = some (C, T, N) → (T 12).2.2.2 = false) := List.forall_mem_cons.mpr ⟨⟨gf_X4_60_4, rfl, Or.inl rfl⟩, fun _ h => absurd h List.not_mem_nil⟩
theorem gp_X4_61 : ∀ t ∈ [4], gFld RX4 61 t 9 ∧ gIsR (gFt t 9) = true ∧ ("<init>" = "<init>" ∨ ∀ (C : String) (T : u_T) (N : Nat), vwCl[t]? = some (C, T, N) → (T 9).2.2.2 = false) := List.forall_mem_cons.mpr ⟨⟨gf_X4_61_4, rfl, Or.inl rfl⟩, fun _ h => absurd h List.not_mem_nil⟩
theorem wco_J7_fill_53178 : Cond.code yJ7_fill_53178 cJ7_fill_53178 4 none ∈ gT := gT_c1 (i := 211) (by decide +kernel) rfl
theorem mf_J7_fill_53178 : gMf yJ7_fill_53178 cJ7_fill_53178 4 none 2 := ⟨wco_J7_fill_53178, win_J7, ⟨by decide +kernel, by decide +kernel⟩, by decide +kernel⟩
theorem wml_X4_64 : Cond.methodLink RX4 64 yJ7_fill_53178 ∈ gT := gT_c3 (i := 85) (by decide +kernel) rfl
theorem wst_J7_fill_53178 : Cond.static yJ7_fill_53178 ∈ gT := gT_c1 (i := 210) (by decide +kernel) rfl
theorem wco_X4_init : Cond.code yX4_init cX4_init 9 none ∈ gT := gT_c3 (i := 67) (by decide +kernel) rfl
theorem win_X4 : Cond.initialized RX4 ∈ gT := gT_c1 (i := 16) (by decide +kernel) rfl
theorem mf_X4_init : gMf yX4_init cX4_init 9 none 3 := ⟨wco_X4_init, win_X4, ⟨by decide +kernel, by decide +kernel⟩, by decide +kernel⟩
theorem wml_X1_99 : Cond.methodLink RX1 99 yX4_init ∈ gT := gT_c3 (i := 65) (by decide +kernel) rfl
theorem wim_X4_init : Cond.instanceMethod yX4_init ∈ gT := gT_c3 (i := 66) (by decide +kernel) rfl
theorem wis_X4 : Cond.instantiable RX4 14 ∈ gT := gT_c3 (i := 64) (by decide +kernel) rfl
theorem wml_X8_1 : Cond.methodLink RX8 1 yX6_init ∈ gT := gT_c3 (i := 223) (by decide +kernel) rfl
theorem wfl_X8_7 : Cond.fieldLink RX8 7 "PenaltyGrid$Term" "deed" "LPenaltyGrid$Deed;" ∈ gT := gT_c3 (i := 224) (by decide +kernel) rfl
theorem gf_X8_7_7 : gFld RX8 7 7 2 := ⟨RX8, TX8, 6, "PenaltyGrid$Term", cls_7, by decide, wfl_X8_7, Or.inl rfl, Or.inr ⟨rfl, rfl⟩⟩
theorem gf_X8_7_2 : gFld RX8 7 2 2 := ⟨RX2, TX2, 6, "PenaltyGrid$Term", cls_2, by decide, wfl_X8_7, Or.inl rfl, Or.inr ⟨rfl, rfl⟩⟩
theorem gp_X8_7 : ∀ t ∈ [7, 2], gFld RX8 7 t 2 ∧ gIsR (gFt t 2) = true ∧ ("<init>" = "<init>" ∨ ∀ (C : String) (T : u_T) (N : Nat), vwCl[t]? = some (C, T, N) → (T 2).2.2.2 = false) := List.forall_mem_cons.mpr ⟨⟨gf_X8_7_7, rfl, Or.inl rfl⟩, List.forall_mem_cons.mpr ⟨⟨gf_X8_7_2, rfl, Or.inl rfl⟩, fun _ h => absurd h List.not_mem_nil⟩⟩
theorem wfl_X8_13 : Cond.fieldLink RX8 13 "PenaltyGrid$Term" "court" "I" ∈ gT := gT_c3 (i := 227) (by decide +kernel) rfl
theorem gf_X8_13_7 : gFld RX8 13 7 3 := ⟨RX8, TX8, 6, "PenaltyGrid$Term", cls_7, by decide, wfl_X8_13, Or.inl rfl, Or.inr ⟨rfl, rfl⟩⟩
theorem gf_X8_13_2 : gFld RX8 13 2 3 := ⟨RX2, TX2, 6, "PenaltyGrid$Term", cls_2, by decide, wfl_X8_13, Or.inl rfl, Or.inr ⟨rfl, rfl⟩⟩
theorem gp_X8_13 : ∀ t ∈ [7, 2], gFld RX8 13 t 3 ∧ gFt t 3 = .int ∧ ("<init>" = "<init>" ∨ ∀ (C : String) (T : u_T) (N : Nat), vwCl[t]? = some (C, T, N) → (T 3).2.2.2 = false) := List.forall_mem_cons.mpr ⟨⟨gf_X8_13_7, rfl, Or.inl rfl⟩, List.forall_mem_cons.mpr ⟨⟨gf_X8_13_2, rfl, Or.inl rfl⟩, fun _ h => absurd h List.not_mem_nil⟩⟩
theorem wfl_X8_17 : Cond.fieldLink RX8 17 "PenaltyGrid$Term" "reason" "I" ∈ gT := gT_c3 (i := 229) (by decide +kernel) rfl
theorem gf_X8_17_7 : gFld RX8 17 7 4 := ⟨RX8, TX8, 6, "PenaltyGrid$Term", cls_7, by decide, wfl_X8_17, Or.inl rfl, Or.inr ⟨rfl, rfl⟩⟩
theorem gf_X8_17_2 : gFld RX8 17 2 4 := ⟨RX2, TX2, 6, "PenaltyGrid$Term", cls_2, by decide, wfl_X8_17, Or.inl rfl, Or.inr ⟨rfl, rfl⟩⟩
theorem gp_X8_17 : ∀ t ∈ [7, 2], gFld RX8 17 t 4 ∧ gFt t 4 = .int ∧ ("<init>" = "<init>" ∨ ∀ (C : String) (T : u_T) (N : Nat), vwCl[t]? = some (C, T, N) → (T 4).2.2.2 = false) := List.forall_mem_cons.mpr ⟨⟨gf_X8_17_7, rfl, Or.inl rfl⟩, List.forall_mem_cons.mpr ⟨⟨gf_X8_17_2, rfl, Or.inl rfl⟩, fun _ h => absurd h List.not_mem_nil⟩⟩
theorem wfl_X8_20 : Cond.fieldLink RX8 20 "PenaltyGrid$Term" "day" "I" ∈ gT := gT_c3 (i := 231) (by decide +kernel) rfl
theorem gf_X8_20_7 : gFld RX8 20 7 5 := ⟨RX8, TX8, 6, "PenaltyGrid$Term", cls_7, by decide, wfl_X8_20, Or.inl rfl, Or.inr ⟨rfl, rfl⟩⟩
theorem gf_X8_20_2 : gFld RX8 20 2 5 := ⟨RX2, TX2, 6, "PenaltyGrid$Term", cls_2, by decide, wfl_X8_20, Or.inl rfl, Or.inr ⟨rfl, rfl⟩⟩
theorem gp_X8_20 : ∀ t ∈ [7, 2], gFld RX8 20 t 5 ∧ gFt t 5 = .int ∧ ("<init>" = "<init>" ∨ ∀ (C : String) (T : u_T) (N : Nat), vwCl[t]? = some (C, T, N) → (T 5).2.2.2 = false) := List.forall_mem_cons.mpr ⟨⟨gf_X8_20_7, rfl, Or.inl rfl⟩, List.forall_mem_cons.mpr ⟨⟨gf_X8_20_2, rfl, Or.inl rfl⟩, fun _ h => absurd h List.not_mem_nil⟩⟩
theorem wco_X8_init : Cond.code yX8_init cX8_init 7 none ∈ gT := gT_c3 (i := 222) (by decide +kernel) rfl
theorem win_X8 : Cond.initialized RX8 ∈ gT := gT_c1 (i := 19) (by decide +kernel) rfl
theorem mf_X8_init : gMf yX8_init cX8_init 7 none 6 := ⟨wco_X8_init, win_X8, ⟨by decide +kernel, by decide +kernel⟩, by decide +kernel⟩
theorem wml_X2_1 : Cond.methodLink RX2 1 yX8_init ∈ gT := gT_c3 (i := 220) (by decide +kernel) rfl
theorem wim_X8_init : Cond.instanceMethod yX8_init ∈ gT := gT_c3 (i := 221) (by decide +kernel) rfl
theorem wml_X1_107 : Cond.methodLink RX1 107 yX8_init ∈ gT := gT_c4 (i := 5) (by decide +kernel) rfl
theorem wis_X8 : Cond.instantiable RX8 6 ∈ gT := gT_c4 (i := 4) (by decide +kernel) rfl
theorem wco_X2_init : Cond.code yX2_init cX2_init 7 none ∈ gT := gT_c3 (i := 219) (by decide +kernel) rfl
theorem win_X2 : Cond.initialized RX2 ∈ gT := gT_c1 (i := 20) (by decide +kernel) rfl
theorem mf_X2_init : gMf yX2_init cX2_init 7 none 6 := ⟨wco_X2_init, win_X2, ⟨by decide +kernel, by decide +kernel⟩, by decide +kernel⟩
theorem wml_X1_104 : Cond.methodLink RX1 104 yX2_init ∈ gT := gT_c3 (i := 217) (by decide +kernel) rfl
theorem wim_X2_init : Cond.instanceMethod yX2_init ∈ gT := gT_c3 (i := 218) (by decide +kernel) rfl
theorem wck_X1_102 : Cond.classLink RX1 102 RX2 ∈ gT := gT_c3 (i := 215) (by decide +kernel) rfl
theorem wis_X2 : Cond.instantiable RX2 6 ∈ gT := gT_c3 (i := 216) (by decide +kernel) rfl
theorem wfl_X1_108 : Cond.fieldLink RX1 108 "PenaltyGrid$Finding" "deed" "LPenaltyGrid$Deed;" ∈ gT := gT_c2 (i := 131) (by decide +kernel) rfl
theorem gf_X1_108_3 : gFldG RX1 108 3 2 := ⟨RX3, TX3, 5, "PenaltyGrid$Finding", cls_3, by decide, wfl_X1_108, Or.inl rfl⟩
theorem gg_X1_108 : ∀ t ∈ [3], gFldG RX1 108 t 2 ∧ gIsR (gFt t 2) = true := List.forall_mem_cons.mpr ⟨⟨gf_X1_108_3, rfl⟩, fun _ h => absurd h List.not_mem_nil⟩
theorem wfl_X1_112 : Cond.fieldLink RX1 112 "PenaltyGrid$Finding" "day" "I" ∈ gT := gT_c2 (i := 135) (by decide +kernel) rfl
theorem gf_X1_112_3 : gFldG RX1 112 3 4 := ⟨RX3, TX3, 5, "PenaltyGrid$Finding", cls_3, by decide, wfl_X1_112, Or.inl rfl⟩
theorem gg_X1_112 : ∀ t ∈ [3], gFldG RX1 112 t 4 ∧ gIsR (gFt t 4) = false := List.forall_mem_cons.mpr ⟨⟨gf_X1_112_3, rfl⟩, fun _ h => absurd h List.not_mem_nil⟩
theorem wco_X1_findingOf : Cond.code yX1_findingOf cX1_findingOf 4 (some (.object "PenaltyGrid$Finding")) ∈ gT := gT_c2 (i := 156) (by decide +kernel) rfl
theorem mf_X1_findingOf : gMf yX1_findingOf cX1_findingOf 4 (some (.object "PenaltyGrid$Finding")) 2 := ⟨wco_X1_findingOf, win_X1, ⟨by decide +kernel, by decide +kernel⟩, by decide +kernel⟩
theorem wml_X1_115 : Cond.methodLink RX1 115 yX1_findingOf ∈ gT := gT_c2 (i := 153) (by decide +kernel) rfl
theorem wim_X1_findingOf : Cond.instanceMethod yX1_findingOf ∈ gT := gT_c2 (i := 155) (by decide +kernel) rfl
theorem wse_X1_X1_findingOf_X1_findingOf : Cond.selects RX1 yX1_findingOf yX1_findingOf ∈ gT := gT_pr (i := 0) (by decide +kernel) rfl
theorem wfl_X1_119 : Cond.fieldLink RX1 119 "PenaltyGrid$Finding" "a" "I" ∈ gT := gT_c2 (i := 85) (by decide +kernel) rfl
theorem wsf_X3_a : Cond.sameField "PenaltyGrid$Finding" "PenaltyGrid$Paper" "a" "I" ∈ gT := gT_c2 (i := 86) (by decide +kernel) rfl
theorem gf_X1_119_3 : gFldG RX1 119 3 1 := ⟨RX3, TX3, 5, "PenaltyGrid$Finding", cls_3, by decide, wfl_X1_119, Or.inr wsf_X3_a⟩
theorem gg_X1_119 : ∀ t ∈ [3], gFldG RX1 119 t 1 ∧ gIsR (gFt t 1) = false := List.forall_mem_cons.mpr ⟨⟨gf_X1_119_3, rfl⟩, fun _ h => absurd h List.not_mem_nil⟩
theorem wfl_X1_122 : Cond.fieldLink RX1 122 "PenaltyGrid$Finding" "pleaded" "Z" ∈ gT := gT_c2 (i := 133) (by decide +kernel) rfl
theorem gf_X1_122_3 : gFldG RX1 122 3 3 := ⟨RX3, TX3, 5, "PenaltyGrid$Finding", cls_3, by decide, wfl_X1_122, Or.inl rfl⟩
theorem gg_X1_122 : ∀ t ∈ [3], gFldG RX1 122 t 3 ∧ gIsR (gFt t 3) = false := List.forall_mem_cons.mpr ⟨⟨gf_X1_122_3, rfl⟩, fun _ h => absurd h List.not_mem_nil⟩
theorem wfl_X1_126 : Cond.fieldLink RX1 126 "PenaltyGrid$Term" "day" "I" ∈ gT := gT_c3 (i := 232) (by decide +kernel) rfl
theorem gf_X1_126_7 : gFldG RX1 126 7 5 := ⟨RX8, TX8, 6, "PenaltyGrid$Term", cls_7, by decide, wfl_X1_126, Or.inl rfl⟩
theorem gf_X1_126_2 : gFldG RX1 126 2 5 := ⟨RX2, TX2, 6, "PenaltyGrid$Term", cls_2, by decide, wfl_X1_126, Or.inl rfl⟩
theorem gg_X1_126 : ∀ t ∈ [7, 2], gFldG RX1 126 t 5 ∧ gIsR (gFt t 5) = false := List.forall_mem_cons.mpr ⟨⟨gf_X1_126_7, rfl⟩, List.forall_mem_cons.mpr ⟨⟨gf_X1_126_2, rfl⟩, fun _ h => absurd h List.not_mem_nil⟩⟩
theorem wco_X1_stands : Cond.code yX1_stands cX1_stands 3 (some .boolean) ∈ gT := gT_c2 (i := 168) (by decide +kernel) rfl
theorem mf_X1_stands : gMf yX1_stands cX1_stands 3 (some .boolean) 2 := ⟨wco_X1_stands, win_X1, ⟨by decide +kernel, by decide +kernel⟩, by decide +kernel⟩
theorem wml_X1_127 : Cond.methodLink RX1 127 yX1_stands ∈ gT := gT_c2 (i := 165) (by decide +kernel) rfl
theorem wim_X1_stands : Cond.instanceMethod yX1_stands ∈ gT := gT_c2 (i := 166) (by decide +kernel) rfl
theorem wse_X1_X1_stands_X1_stands : Cond.selects RX1 yX1_stands yX1_stands ∈ gT := gT_c2 (i := 167) (by decide +kernel) rfl
theorem wfl_X1_131 : Cond.fieldLink RX1 131 "PenaltyGrid$Term" "deed" "LPenaltyGrid$Deed;" ∈ gT := gT_c3 (i := 225) (by decide +kernel) rfl
theorem gf_X1_131_7 : gFldG RX1 131 7 2 := ⟨RX8, TX8, 6, "PenaltyGrid$Term", cls_7, by decide, wfl_X1_131, Or.inl rfl⟩
theorem gf_X1_131_2 : gFldG RX1 131 2 2 := ⟨RX2, TX2, 6, "PenaltyGrid$Term", cls_2, by decide, wfl_X1_131, Or.inl rfl⟩
theorem gg_X1_131 : ∀ t ∈ [7, 2], gFldG RX1 131 t 2 ∧ gIsR (gFt t 2) = true := List.forall_mem_cons.mpr ⟨⟨gf_X1_131_7, rfl⟩, List.forall_mem_cons.mpr ⟨⟨gf_X1_131_2, rfl⟩, fun _ h => absurd h List.not_mem_nil⟩⟩
theorem wfl_X1_132 : Cond.fieldLink RX1 132 "PenaltyGrid$Law" "day" "I" ∈ gT := gT_c3 (i := 89) (by decide +kernel) rfl
theorem gf_X1_132_4 : gFldG RX1 132 4 2 := ⟨RX4, TX4, 14, "PenaltyGrid$Law", cls_4, by decide, wfl_X1_132, Or.inl rfl⟩
theorem gg_X1_132 : ∀ t ∈ [4], gFldG RX1 132 t 2 ∧ gIsR (gFt t 2) = false := List.forall_mem_cons.mpr ⟨⟨gf_X1_132_4, rfl⟩, fun _ h => absurd h List.not_mem_nil⟩
theorem wfl_X1_133 : Cond.fieldLink RX1 133 "PenaltyGrid$Deed" "day" "I" ∈ gT := gT_c2 (i := 71) (by decide +kernel) rfl
theorem gf_X1_133_0 : gFldG RX1 133 0 3 := ⟨RX0, TX0, 5, "PenaltyGrid$Deed", cls_0, by decide, wfl_X1_133, Or.inl rfl⟩
theorem gf_X1_133_9 : gFldG RX1 133 9 3 := ⟨RX10, TX10, 5, "PenaltyGrid$Deed", cls_9, by decide, wfl_X1_133, Or.inl rfl⟩
theorem gg_X1_133 : ∀ t ∈ [0, 9], gFldG RX1 133 t 3 ∧ gIsR (gFt t 3) = false := List.forall_mem_cons.mpr ⟨⟨gf_X1_133_0, rfl⟩, List.forall_mem_cons.mpr ⟨⟨gf_X1_133_9, rfl⟩, fun _ h => absurd h List.not_mem_nil⟩⟩
theorem wfl_X1_134 : Cond.fieldLink RX1 134 "PenaltyGrid$Law" "looksBack" "Z" ∈ gT := gT_c3 (i := 92) (by decide +kernel) rfl
theorem gf_X1_134_4 : gFldG RX1 134 4 3 := ⟨RX4, TX4, 14, "PenaltyGrid$Law", cls_4, by decide, wfl_X1_134, Or.inl rfl⟩
theorem gg_X1_134 : ∀ t ∈ [4], gFldG RX1 134 t 3 ∧ gIsR (gFt t 3) = false := List.forall_mem_cons.mpr ⟨⟨gf_X1_134_4, rfl⟩, fun _ h => absurd h List.not_mem_nil⟩
theorem wfl_X1_137 : Cond.fieldLink RX1 137 "PenaltyGrid$Deed" "person" "I" ∈ gT := gT_c2 (i := 68) (by decide +kernel) rfl
theorem gf_X1_137_0 : gFldG RX1 137 0 2 := ⟨RX0, TX0, 5, "PenaltyGrid$Deed", cls_0, by decide, wfl_X1_137, Or.inl rfl⟩
theorem gf_X1_137_9 : gFldG RX1 137 9 2 := ⟨RX10, TX10, 5, "PenaltyGrid$Deed", cls_9, by decide, wfl_X1_137, Or.inl rfl⟩
theorem gg_X1_137 : ∀ t ∈ [0, 9], gFldG RX1 137 t 2 ∧ gIsR (gFt t 2) = false := List.forall_mem_cons.mpr ⟨⟨gf_X1_137_0, rfl⟩, List.forall_mem_cons.mpr ⟨⟨gf_X1_137_9, rfl⟩, fun _ h => absurd h List.not_mem_nil⟩⟩
theorem wfl_X1_140 : Cond.fieldLink RX1 140 "PenaltyGrid$Law" "old" "I" ∈ gT := gT_c3 (i := 99) (by decide +kernel) rfl
theorem gf_X1_140_4 : gFldG RX1 140 4 7 := ⟨RX4, TX4, 14, "PenaltyGrid$Law", cls_4, by decide, wfl_X1_140, Or.inl rfl⟩
theorem gg_X1_140 : ∀ t ∈ [4], gFldG RX1 140 t 7 ∧ gIsR (gFt t 7) = false := List.forall_mem_cons.mpr ⟨⟨gf_X1_140_4, rfl⟩, fun _ h => absurd h List.not_mem_nil⟩
theorem wfl_X1_143 : Cond.fieldLink RX1 143 "PenaltyGrid$Law" "kindPoints" "[I" ∈ gT := gT_c3 (i := 97) (by decide +kernel) rfl
theorem gf_X1_143_4 : gFldG RX1 143 4 6 := ⟨RX4, TX4, 14, "PenaltyGrid$Law", cls_4, by decide, wfl_X1_143, Or.inl rfl⟩
theorem gg_X1_143 : ∀ t ∈ [4], gFldG RX1 143 t 6 ∧ gIsR (gFt t 6) = true := List.forall_mem_cons.mpr ⟨⟨gf_X1_143_4, rfl⟩, fun _ h => absurd h List.not_mem_nil⟩
theorem wfl_X1_146 : Cond.fieldLink RX1 146 "PenaltyGrid$Deed" "a" "I" ∈ gT := gT_c2 (i := 87) (by decide +kernel) rfl
theorem gf_X1_146_0 : gFldG RX1 146 0 1 := ⟨RX0, TX0, 5, "PenaltyGrid$Deed", cls_0, by decide, wfl_X1_146, Or.inr wsf_X0_a⟩
theorem gf_X1_146_9 : gFldG RX1 146 9 1 := ⟨RX10, TX10, 5, "PenaltyGrid$Deed", cls_9, by decide, wfl_X1_146, Or.inr wsf_X0_a⟩
theorem gg_X1_146 : ∀ t ∈ [0, 9], gFldG RX1 146 t 1 ∧ gIsR (gFt t 1) = false := List.forall_mem_cons.mpr ⟨⟨gf_X1_146_0, rfl⟩, List.forall_mem_cons.mpr ⟨⟨gf_X1_146_9, rfl⟩, fun _ h => absurd h List.not_mem_nil⟩⟩
theorem gg_X1_76 : ∀ t ∈ [1], gFldG RX1 76 t 17 ∧ gIsR (gFt t 17) = true := List.forall_mem_cons.mpr ⟨⟨gf_X1_76_1.g, rfl⟩, fun _ h => absurd h List.not_mem_nil⟩
theorem wfl_X1_151 : Cond.fieldLink RX1 151 "PenaltyGrid$Deed" "years" "I" ∈ gT := gT_c2 (i := 73) (by decide +kernel) rfl
theorem gf_X1_151_0 : gFldG RX1 151 0 4 := ⟨RX0, TX0, 5, "PenaltyGrid$Deed", cls_0, by decide, wfl_X1_151, Or.inl rfl⟩
theorem gf_X1_151_9 : gFldG RX1 151 9 4 := ⟨RX10, TX10, 5, "PenaltyGrid$Deed", cls_9, by decide, wfl_X1_151, Or.inl rfl⟩
theorem gg_X1_151 : ∀ t ∈ [0, 9], gFldG RX1 151 t 4 ∧ gIsR (gFt t 4) = false := List.forall_mem_cons.mpr ⟨⟨gf_X1_151_0, rfl⟩, List.forall_mem_cons.mpr ⟨⟨gf_X1_151_9, rfl⟩, fun _ h => absurd h List.not_mem_nil⟩⟩
theorem wco_X1_pointsBy : Cond.code yX1_pointsBy cX1_pointsBy 7 (some .int) ∈ gT := gT_c3 (i := 160) (by decide +kernel) rfl
theorem mf_X1_pointsBy : gMf yX1_pointsBy cX1_pointsBy 7 (some .int) 3 := ⟨wco_X1_pointsBy, win_X1, ⟨by decide +kernel, by decide +kernel⟩, by decide +kernel⟩
theorem wml_X1_158 : Cond.methodLink RX1 158 yX1_pointsBy ∈ gT := gT_c3 (i := 175) (by decide +kernel) rfl
theorem wim_X1_pointsBy : Cond.instanceMethod yX1_pointsBy ∈ gT := gT_c3 (i := 158) (by decide +kernel) rfl
theorem wse_X1_X1_pointsBy_X1_pointsBy : Cond.selects RX1 yX1_pointsBy yX1_pointsBy ∈ gT := gT_c3 (i := 159) (by decide +kernel) rfl
theorem wco_X1_isPleaded : Cond.code yX1_isPleaded cX1_isPleaded 4 (some .boolean) ∈ gT := gT_c2 (i := 160) (by decide +kernel) rfl
theorem mf_X1_isPleaded : gMf yX1_isPleaded cX1_isPleaded 4 (some .boolean) 2 := ⟨wco_X1_isPleaded, win_X1, ⟨by decide +kernel, by decide +kernel⟩, by decide +kernel⟩
theorem wml_X1_154 : Cond.methodLink RX1 154 yX1_isPleaded ∈ gT := gT_c3 (i := 174) (by decide +kernel) rfl
theorem wim_X1_isPleaded : Cond.instanceMethod yX1_isPleaded ∈ gT := gT_c2 (i := 158) (by decide +kernel) rfl
theorem wse_X1_X1_isPleaded_X1_isPleaded : Cond.selects RX1 yX1_isPleaded yX1_isPleaded ∈ gT := gT_c2 (i := 159) (by decide +kernel) rfl
theorem wco_X1_factsOf : Cond.code yX1_factsOf cX1_factsOf 4 (some .int) ∈ gT := gT_c2 (i := 152) (by decide +kernel) rfl
theorem mf_X1_factsOf : gMf yX1_factsOf cX1_factsOf 4 (some .int) 2 := ⟨wco_X1_factsOf, win_X1, ⟨by decide +kernel, by decide +kernel⟩, by decide +kernel⟩
theorem wml_X1_147 : Cond.methodLink RX1 147 yX1_factsOf ∈ gT := gT_c3 (i := 173) (by decide +kernel) rfl
theorem wim_X1_factsOf : Cond.instanceMethod yX1_factsOf ∈ gT := gT_c2 (i := 150) (by decide +kernel) rfl
theorem wse_X1_X1_factsOf_X1_factsOf : Cond.selects RX1 yX1_factsOf yX1_factsOf ∈ gT := gT_c2 (i := 151) (by decide +kernel) rfl
theorem gg_X4_53 : ∀ t ∈ [4], gFldG RX4 53 t 11 ∧ gIsR (gFt t 11) = true := List.forall_mem_cons.mpr ⟨⟨gf_X4_53_4.g, rfl⟩, fun _ h => absurd h List.not_mem_nil⟩
theorem gg_X4_27 : ∀ t ∈ [4], gFldG RX4 27 t 13 ∧ gIsR (gFt t 13) = true := List.forall_mem_cons.mpr ⟨⟨gf_X4_27_4.g, rfl⟩, fun _ h => absurd h List.not_mem_nil⟩
theorem gg_X4_60 : ∀ t ∈ [4], gFldG RX4 60 t 12 ∧ gIsR (gFt t 12) = true := List.forall_mem_cons.mpr ⟨⟨gf_X4_60_4.g, rfl⟩, fun _ h => absurd h List.not_mem_nil⟩
theorem wco_X4_joined : Cond.code yX4_joined cX4_joined 3 (some .int) ∈ gT := gT_c3 (i := 186) (by decide +kernel) rfl
theorem mf_X4_joined : gMf yX4_joined cX4_joined 3 (some .int) 3 := ⟨wco_X4_joined, win_X4, ⟨by decide +kernel, by decide +kernel⟩, by decide +kernel⟩
theorem wml_X4_108 : Cond.methodLink RX4 108 yX4_joined ∈ gT := gT_c3 (i := 184) (by decide +kernel) rfl
theorem wst_X4_joined : Cond.static yX4_joined ∈ gT := gT_c3 (i := 185) (by decide +kernel) rfl
theorem gg_X4_49 : ∀ t ∈ [4], gFldG RX4 49 t 10 ∧ gIsR (gFt t 10) = true := List.forall_mem_cons.mpr ⟨⟨gf_X4_49_4.g, rfl⟩, fun _ h => absurd h List.not_mem_nil⟩
theorem wml_X4_96 : Cond.methodLink RX4 96 Lib.Math.min.name ∈ gT := gT_c3 (i := 187) (by decide +kernel) rfl
theorem wml_X4_101 : Cond.methodLink RX4 101 Lib.Math.max.name ∈ gT := gT_c3 (i := 188) (by decide +kernel) rfl
theorem wst_math_max : Cond.static Lib.Math.max.name ∈ gT := gT_c3 (i := 189) (by decide +kernel) rfl
theorem wco_math_max : Cond.code Lib.Math.max.name Lib.Math.max.code 2 (some .int) ∈ gT := gT_c3 (i := 190) (by decide +kernel) rfl
theorem wco_X4_holds : Cond.code yX4_holds cX4_holds 6 (some .boolean) ∈ gT := gT_c3 (i := 183) (by decide +kernel) rfl
theorem mf_X4_holds : gMf yX4_holds cX4_holds 6 (some .boolean) 2 := ⟨wco_X4_holds, win_X4, ⟨by decide +kernel, by decide +kernel⟩, by decide +kernel⟩
theorem wml_X4_92 : Cond.methodLink RX4 92 yX4_holds ∈ gT := gT_c3 (i := 180) (by decide +kernel) rfl
theorem wim_X4_holds : Cond.instanceMethod yX4_holds ∈ gT := gT_c3 (i := 182) (by decide +kernel) rfl
theorem wse_X4_X4_holds_X4_holds : Cond.selects RX4 yX4_holds yX4_holds ∈ gT := gT_pr (i := 16) (by decide +kernel) rfl
theorem wco_X1_fillView : Cond.code yX1_fillView cX1_fillView 6 none ∈ gT := gT_c3 (i := 172) (by decide +kernel) rfl
theorem mf_X1_fillView : gMf yX1_fillView cX1_fillView 6 none 3 := ⟨wco_X1_fillView, win_X1, ⟨by decide +kernel, by decide +kernel⟩, by decide +kernel⟩
theorem wml_X1_162 : Cond.methodLink RX1 162 yX1_fillView ∈ gT := gT_c3 (i := 169) (by decide +kernel) rfl
theorem wim_X1_fillView : Cond.instanceMethod yX1_fillView ∈ gT := gT_c3 (i := 171) (by decide +kernel) rfl
theorem wse_X1_X1_fillView_X1_fillView : Cond.selects RX1 yX1_fillView yX1_fillView ∈ gT := gT_pr (i := 15) (by decide +kernel) rfl
theorem wco_X4_graveFor : Cond.code yX4_graveFor cX4_graveFor 4 (some .int) ∈ gT := gT_c3 (i := 179) (by decide +kernel) rfl
theorem mf_X4_graveFor : gMf yX4_graveFor cX4_graveFor 4 (some .int) 1 := ⟨wco_X4_graveFor, win_X4, ⟨by decide +kernel, by decide +kernel⟩, by decide +kernel⟩
theorem wml_X1_166 : Cond.methodLink RX1 166 yX4_graveFor ∈ gT := gT_c3 (i := 176) (by decide +kernel) rfl
theorem wim_X4_graveFor : Cond.instanceMethod yX4_graveFor ∈ gT := gT_c3 (i := 177) (by decide +kernel) rfl
theorem wse_X4_X4_graveFor_X4_graveFor : Cond.selects RX4 yX4_graveFor yX4_graveFor ∈ gT := gT_c3 (i := 178) (by decide +kernel) rfl
theorem wml_X4_104 : Cond.methodLink RX4 104 yX4_graveFor ∈ gT := gT_c3 (i := 203) (by decide +kernel) rfl
theorem wco_X4_rangeFor : Cond.code yX4_rangeFor cX4_rangeFor 3 (some .int) ∈ gT := gT_c3 (i := 202) (by decide +kernel) rfl
theorem mf_X4_rangeFor : gMf yX4_rangeFor cX4_rangeFor 3 (some .int) 1 := ⟨wco_X4_rangeFor, win_X4, ⟨by decide +kernel, by decide +kernel⟩, by decide +kernel⟩
theorem wml_X1_170 : Cond.methodLink RX1 170 yX4_rangeFor ∈ gT := gT_c3 (i := 199) (by decide +kernel) rfl
theorem wim_X4_rangeFor : Cond.instanceMethod yX4_rangeFor ∈ gT := gT_c3 (i := 200) (by decide +kernel) rfl
theorem wse_X4_X4_rangeFor_X4_rangeFor : Cond.selects RX4 yX4_rangeFor yX4_rangeFor ∈ gT := gT_c3 (i := 201) (by decide +kernel) rfl
theorem wco_X1_lawOf : Cond.code yX1_lawOf cX1_lawOf 6 (some (.object "PenaltyGrid$Law")) ∈ gT := gT_c3 (i := 148) (by decide +kernel) rfl
theorem mf_X1_lawOf : gMf yX1_lawOf cX1_lawOf 6 (some (.object "PenaltyGrid$Law")) 2 := ⟨wco_X1_lawOf, win_X1, ⟨by decide +kernel, by decide +kernel⟩, by decide +kernel⟩
theorem wml_X1_173 : Cond.methodLink RX1 173 yX1_lawOf ∈ gT := gT_c4 (i := 34) (by decide +kernel) rfl
theorem wim_X1_lawOf : Cond.instanceMethod yX1_lawOf ∈ gT := gT_c3 (i := 146) (by decide +kernel) rfl
theorem wse_X1_X1_lawOf_X1_lawOf : Cond.selects RX1 yX1_lawOf yX1_lawOf ∈ gT := gT_c3 (i := 147) (by decide +kernel) rfl
theorem wco_X1_rangeBy : Cond.code yX1_rangeBy cX1_rangeBy 4 (some .int) ∈ gT := gT_c3 (i := 198) (by decide +kernel) rfl
theorem mf_X1_rangeBy : gMf yX1_rangeBy cX1_rangeBy 4 (some .int) 3 := ⟨wco_X1_rangeBy, win_X1, ⟨by decide +kernel, by decide +kernel⟩, by decide +kernel⟩
theorem wml_X1_177 : Cond.methodLink RX1 177 yX1_rangeBy ∈ gT := gT_c4 (i := 35) (by decide +kernel) rfl
theorem wim_X1_rangeBy : Cond.instanceMethod yX1_rangeBy ∈ gT := gT_c3 (i := 196) (by decide +kernel) rfl
theorem wse_X1_X1_rangeBy_X1_rangeBy : Cond.selects RX1 yX1_rangeBy yX1_rangeBy ∈ gT := gT_c3 (i := 197) (by decide +kernel) rfl
theorem wfl_X1_180 : Cond.fieldLink RX1 180 "PenaltyGrid$Term" "reason" "I" ∈ gT := gT_c3 (i := 230) (by decide +kernel) rfl
theorem gf_X1_180_7 : gFldG RX1 180 7 4 := ⟨RX8, TX8, 6, "PenaltyGrid$Term", cls_7, by decide, wfl_X1_180, Or.inl rfl⟩
theorem gf_X1_180_2 : gFldG RX1 180 2 4 := ⟨RX2, TX2, 6, "PenaltyGrid$Term", cls_2, by decide, wfl_X1_180, Or.inl rfl⟩
theorem gg_X1_180 : ∀ t ∈ [7, 2], gFldG RX1 180 t 4 ∧ gIsR (gFt t 4) = false := List.forall_mem_cons.mpr ⟨⟨gf_X1_180_7, rfl⟩, List.forall_mem_cons.mpr ⟨⟨gf_X1_180_2, rfl⟩, fun _ h => absurd h List.not_mem_nil⟩⟩
theorem wfl_X1_183 : Cond.fieldLink RX1 183 "PenaltyGrid$Term" "a" "I" ∈ gT := gT_c2 (i := 88) (by decide +kernel) rfl
theorem wsf_X8_a : Cond.sameField "PenaltyGrid$Term" "PenaltyGrid$Paper" "a" "I" ∈ gT := gT_c2 (i := 89) (by decide +kernel) rfl
theorem gf_X1_183_7 : gFldG RX1 183 7 1 := ⟨RX8, TX8, 6, "PenaltyGrid$Term", cls_7, by decide, wfl_X1_183, Or.inr wsf_X8_a⟩
theorem gf_X1_183_2 : gFldG RX1 183 2 1 := ⟨RX2, TX2, 6, "PenaltyGrid$Term", cls_2, by decide, wfl_X1_183, Or.inr wsf_X8_a⟩
theorem gg_X1_183 : ∀ t ∈ [7, 2], gFldG RX1 183 t 1 ∧ gIsR (gFt t 1) = false := List.forall_mem_cons.mpr ⟨⟨gf_X1_183_7, rfl⟩, List.forall_mem_cons.mpr ⟨⟨gf_X1_183_2, rfl⟩, fun _ h => absurd h List.not_mem_nil⟩⟩
theorem wco_X4_isBeside : Cond.code yX4_isBeside cX4_isBeside 3 (some .boolean) ∈ gT := gT_c4 (i := 94) (by decide +kernel) rfl
theorem mf_X4_isBeside : gMf yX4_isBeside cX4_isBeside 3 (some .boolean) 1 := ⟨wco_X4_isBeside, win_X4, ⟨by decide +kernel, by decide +kernel⟩, by decide +kernel⟩
theorem wml_X1_184 : Cond.methodLink RX1 184 yX4_isBeside ∈ gT := gT_c4 (i := 91) (by decide +kernel) rfl
theorem wim_X4_isBeside : Cond.instanceMethod yX4_isBeside ∈ gT := gT_c4 (i := 92) (by decide +kernel) rfl
theorem wse_X4_X4_isBeside_X4_isBeside : Cond.selects RX4 yX4_isBeside yX4_isBeside ∈ gT := gT_c4 (i := 93) (by decide +kernel) rfl
theorem gg_X7_11 : ∀ t ∈ [6], gFldG RX7 11 t 0 ∧ gIsR (gFt t 0) = true := List.forall_mem_cons.mpr ⟨⟨gf_X7_11_6.g, rfl⟩, fun _ h => absurd h List.not_mem_nil⟩
theorem wco_X7_get : Cond.code yX7_get cX7_get 3 (some .int) ∈ gT := gT_c4 (i := 85) (by decide +kernel) rfl
theorem mf_X7_get : gMf yX7_get cX7_get 3 (some .int) 2 := ⟨wco_X7_get, win_X7, ⟨by decide +kernel, by decide +kernel⟩, by decide +kernel⟩
theorem wml_X7_23 : Cond.methodLink RX7 23 yX7_get ∈ gT := gT_c4 (i := 82) (by decide +kernel) rfl
theorem wim_X7_get : Cond.instanceMethod yX7_get ∈ gT := gT_c4 (i := 83) (by decide +kernel) rfl
theorem wse_X7_X7_get_X7_get : Cond.selects RX7 yX7_get yX7_get ∈ gT := gT_c4 (i := 84) (by decide +kernel) rfl
theorem wml_X7_27 : Cond.methodLink RX7 27 Lib.Math.max.name ∈ gT := gT_c4 (i := 86) (by decide +kernel) rfl
theorem gg_X7_15 : ∀ t ∈ [6], gFldG RX7 15 t 1 ∧ gIsR (gFt t 1) = false := List.forall_mem_cons.mpr ⟨⟨gf_X7_15_6.g, rfl⟩, fun _ h => absurd h List.not_mem_nil⟩
theorem wco_X7_set : Cond.code yX7_set cX7_set 4 none ∈ gT := gT_c4 (i := 102) (by decide +kernel) rfl
theorem mf_X7_set : gMf yX7_set cX7_set 4 none 3 := ⟨wco_X7_set, win_X7, ⟨by decide +kernel, by decide +kernel⟩, by decide +kernel⟩
theorem wml_X7_19 : Cond.methodLink RX7 19 yX7_set ∈ gT := gT_c4 (i := 99) (by decide +kernel) rfl
theorem wim_X7_set : Cond.instanceMethod yX7_set ∈ gT := gT_c4 (i := 100) (by decide +kernel) rfl
theorem wse_X7_X7_set_X7_set : Cond.selects RX7 yX7_set yX7_set ∈ gT := gT_c4 (i := 101) (by decide +kernel) rfl
theorem wfl_X1_188 : Cond.fieldLink RX1 188 "PenaltyGrid$Rows" "count" "I" ∈ gT := gT_c1 (i := 53) (by decide +kernel) rfl
theorem gf_X1_188_6 : gFld RX1 188 6 1 := ⟨RX7, TX7, 2, "PenaltyGrid$Rows", cls_6, by decide, wfl_X1_188, Or.inl rfl, Or.inl rfl⟩
theorem gg_X1_188 : ∀ t ∈ [6], gFldG RX1 188 t 1 ∧ gIsR (gFt t 1) = false := List.forall_mem_cons.mpr ⟨⟨gf_X1_188_6.g, rfl⟩, fun _ h => absurd h List.not_mem_nil⟩
theorem wco_X7_latestEnd : Cond.code yX7_latestEnd cX7_latestEnd 4 (some .int) ∈ gT := gT_c4 (i := 81) (by decide +kernel) rfl
theorem mf_X7_latestEnd : gMf yX7_latestEnd cX7_latestEnd 4 (some .int) 1 := ⟨wco_X7_latestEnd, win_X7, ⟨by decide +kernel, by decide +kernel⟩, by decide +kernel⟩
theorem wml_X1_191 : Cond.methodLink RX1 191 yX7_latestEnd ∈ gT := gT_c4 (i := 78) (by decide +kernel) rfl
theorem wim_X7_latestEnd : Cond.instanceMethod yX7_latestEnd ∈ gT := gT_c4 (i := 79) (by decide +kernel) rfl
theorem wse_X7_X7_latestEnd_X7_latestEnd : Cond.selects RX7 yX7_latestEnd yX7_latestEnd ∈ gT := gT_c4 (i := 80) (by decide +kernel) rfl
theorem wco_X1_beginOf : Cond.code yX1_beginOf cX1_beginOf 5 (some .int) ∈ gT := gT_c4 (i := 90) (by decide +kernel) rfl
theorem mf_X1_beginOf : gMf yX1_beginOf cX1_beginOf 5 (some .int) 3 := ⟨wco_X1_beginOf, win_X1, ⟨by decide +kernel, by decide +kernel⟩, by decide +kernel⟩
theorem wml_X1_195 : Cond.methodLink RX1 195 yX1_beginOf ∈ gT := gT_c4 (i := 87) (by decide +kernel) rfl
theorem wim_X1_beginOf : Cond.instanceMethod yX1_beginOf ∈ gT := gT_c4 (i := 88) (by decide +kernel) rfl
theorem wse_X1_X1_beginOf_X1_beginOf : Cond.selects RX1 yX1_beginOf yX1_beginOf ∈ gT := gT_c4 (i := 89) (by decide +kernel) rfl
theorem wco_X7_add : Cond.code yX7_add cX7_add 4 none ∈ gT := gT_c4 (i := 98) (by decide +kernel) rfl
theorem mf_X7_add : gMf yX7_add cX7_add 4 none 3 := ⟨wco_X7_add, win_X7, ⟨by decide +kernel, by decide +kernel⟩, by decide +kernel⟩
theorem wml_X1_199 : Cond.methodLink RX1 199 yX7_add ∈ gT := gT_c4 (i := 95) (by decide +kernel) rfl
theorem wim_X7_add : Cond.instanceMethod yX7_add ∈ gT := gT_c4 (i := 96) (by decide +kernel) rfl
theorem wse_X7_X7_add_X7_add : Cond.selects RX7 yX7_add yX7_add ∈ gT := gT_c4 (i := 97) (by decide +kernel) rfl
theorem gp_X1_188 {nm : String} : ∀ t ∈ [6], gFld RX1 188 t 1 ∧ gFt t 1 = .int ∧ (nm = "<init>" ∨ ∀ (C : String) (T : u_T) (N : Nat), vwCl[t]? = some (C, T, N) → (T 1).2.2.2 = false) := List.forall_mem_cons.mpr ⟨⟨gf_X1_188_6, rfl, Or.inr (fun _ _ _ h => by cases h; rfl)⟩, fun _ h => absurd h List.not_mem_nil⟩
theorem wml_X1_209 : Cond.methodLink RX1 209 Lib.Math.max.name ∈ gT := gT_c4 (i := 60) (by decide +kernel) rfl
theorem wml_X1_214 : Cond.methodLink RX1 214 Lib.Math.min.name ∈ gT := gT_c4 (i := 61) (by decide +kernel) rfl
theorem wco_X1_firstPassed : Cond.code yX1_firstPassed cX1_firstPassed 4 (some .int) ∈ gT := gT_c4 (i := 55) (by decide +kernel) rfl
theorem mf_X1_firstPassed : gMf yX1_firstPassed cX1_firstPassed 4 (some .int) 2 := ⟨wco_X1_firstPassed, win_X1, ⟨by decide +kernel, by decide +kernel⟩, by decide +kernel⟩
theorem wml_X1_203 : Cond.methodLink RX1 203 yX1_firstPassed ∈ gT := gT_c4 (i := 52) (by decide +kernel) rfl
theorem wim_X1_firstPassed : Cond.instanceMethod yX1_firstPassed ∈ gT := gT_c4 (i := 53) (by decide +kernel) rfl
theorem wse_X1_X1_firstPassed_X1_firstPassed : Cond.selects RX1 yX1_firstPassed yX1_firstPassed ∈ gT := gT_c4 (i := 54) (by decide +kernel) rfl
theorem wco_X1_heldAhead : Cond.code yX1_heldAhead cX1_heldAhead 10 (some .int) ∈ gT := gT_c4 (i := 59) (by decide +kernel) rfl
theorem mf_X1_heldAhead : gMf yX1_heldAhead cX1_heldAhead 10 (some .int) 2 := ⟨wco_X1_heldAhead, win_X1, ⟨by decide +kernel, by decide +kernel⟩, by decide +kernel⟩
theorem wml_X1_206 : Cond.methodLink RX1 206 yX1_heldAhead ∈ gT := gT_c4 (i := 56) (by decide +kernel) rfl
theorem wim_X1_heldAhead : Cond.instanceMethod yX1_heldAhead ∈ gT := gT_c4 (i := 58) (by decide +kernel) rfl
theorem wse_X1_X1_heldAhead_X1_heldAhead : Cond.selects RX1 yX1_heldAhead yX1_heldAhead ∈ gT := gT_pr (i := 17) (by decide +kernel) rfl
theorem gg_X1_82 : ∀ t ∈ [1], gFldG RX1 82 t 18 ∧ gIsR (gFt t 18) = true := List.forall_mem_cons.mpr ⟨⟨gf_X1_82_1.g, rfl⟩, fun _ h => absurd h List.not_mem_nil⟩
theorem wco_X1_fillTime : Cond.code yX1_fillTime cX1_fillTime 6 none ∈ gT := gT_c4 (i := 77) (by decide +kernel) rfl
theorem mf_X1_fillTime : gMf yX1_fillTime cX1_fillTime 6 none 3 := ⟨wco_X1_fillTime, win_X1, ⟨by decide +kernel, by decide +kernel⟩, by decide +kernel⟩
theorem wml_X1_217 : Cond.methodLink RX1 217 yX1_fillTime ∈ gT := gT_c4 (i := 74) (by decide +kernel) rfl
theorem wim_X1_fillTime : Cond.instanceMethod yX1_fillTime ∈ gT := gT_c4 (i := 75) (by decide +kernel) rfl
theorem wse_X1_X1_fillTime_X1_fillTime : Cond.selects RX1 yX1_fillTime yX1_fillTime ∈ gT := gT_c4 (i := 76) (by decide +kernel) rfl
theorem wco_X1_creditOf : Cond.code yX1_creditOf cX1_creditOf 4 (some .int) ∈ gT := gT_c4 (i := 51) (by decide +kernel) rfl
theorem mf_X1_creditOf : gMf yX1_creditOf cX1_creditOf 4 (some .int) 2 := ⟨wco_X1_creditOf, win_X1, ⟨by decide +kernel, by decide +kernel⟩, by decide +kernel⟩
theorem wml_X1_221 : Cond.methodLink RX1 221 yX1_creditOf ∈ gT := gT_c4 (i := 103) (by decide +kernel) rfl
theorem wim_X1_creditOf : Cond.instanceMethod yX1_creditOf ∈ gT := gT_c4 (i := 49) (by decide +kernel) rfl
theorem wse_X1_X1_creditOf_X1_creditOf : Cond.selects RX1 yX1_creditOf yX1_creditOf ∈ gT := gT_c4 (i := 50) (by decide +kernel) rfl
theorem wco_X1_lastPassed : Cond.code yX1_lastPassed cX1_lastPassed 4 (some .int) ∈ gT := gT_c4 (i := 107) (by decide +kernel) rfl
theorem mf_X1_lastPassed : gMf yX1_lastPassed cX1_lastPassed 4 (some .int) 2 := ⟨wco_X1_lastPassed, win_X1, ⟨by decide +kernel, by decide +kernel⟩, by decide +kernel⟩
theorem wml_X1_224 : Cond.methodLink RX1 224 yX1_lastPassed ∈ gT := gT_c4 (i := 104) (by decide +kernel) rfl
theorem wim_X1_lastPassed : Cond.instanceMethod yX1_lastPassed ∈ gT := gT_c4 (i := 106) (by decide +kernel) rfl
theorem wse_X1_X1_lastPassed_X1_lastPassed : Cond.selects RX1 yX1_lastPassed yX1_lastPassed ∈ gT := gT_pr (i := 18) (by decide +kernel) rfl
theorem wct_J6_267 : Cond.constant RJ6 267 (252645135) ∈ gT := gT_c4 (i := 190) (by decide +kernel) rfl
theorem wct_J6_266 : Cond.constant RJ6 266 (858993459) ∈ gT := gT_c4 (i := 189) (by decide +kernel) rfl
theorem wct_J6_265 : Cond.constant RJ6 265 (1431655765) ∈ gT := gT_c4 (i := 188) (by decide +kernel) rfl
theorem wco_X1_pointsJudged : Cond.code yX1_pointsJudged cX1_pointsJudged 4 (some .int) ∈ gT := gT_c4 (i := 194) (by decide +kernel) rfl
theorem mf_X1_pointsJudged : gMf yX1_pointsJudged cX1_pointsJudged 4 (some .int) 2 := ⟨wco_X1_pointsJudged, win_X1, ⟨by decide +kernel, by decide +kernel⟩, by decide +kernel⟩
theorem wml_X1_232 : Cond.methodLink RX1 232 yX1_pointsJudged ∈ gT := gT_c4 (i := 191) (by decide +kernel) rfl
theorem wim_X1_pointsJudged : Cond.instanceMethod yX1_pointsJudged ∈ gT := gT_c4 (i := 193) (by decide +kernel) rfl
theorem wse_X1_X1_pointsJudged_X1_pointsJudged : Cond.selects RX1 yX1_pointsJudged yX1_pointsJudged ∈ gT := gT_pr (i := 22) (by decide +kernel) rfl
theorem wml_X1_235 : Cond.methodLink RX1 235 Lib.Math.abs.name ∈ gT := gT_c4 (i := 195) (by decide +kernel) rfl
theorem wst_math_abs : Cond.static Lib.Math.abs.name ∈ gT := gT_c4 (i := 196) (by decide +kernel) rfl
theorem wco_math_abs : Cond.code Lib.Math.abs.name Lib.Math.abs.code 1 (some .int) ∈ gT := gT_c4 (i := 197) (by decide +kernel) rfl
theorem wco_J6_bitCount_0f7a4 : Cond.code yJ6_bitCount_0f7a4 cJ6_bitCount_0f7a4 1 (some .int) ∈ gT := gT_c4 (i := 187) (by decide +kernel) rfl
theorem win_J6 : Cond.initialized RJ6 ∈ gT := gT_c1 (i := 21) (by decide +kernel) rfl
theorem mf_J6_bitCount_0f7a4 : gMf yJ6_bitCount_0f7a4 cJ6_bitCount_0f7a4 1 (some .int) 1 := ⟨wco_J6_bitCount_0f7a4, win_J6, ⟨by decide +kernel, by decide +kernel⟩, by decide +kernel⟩
theorem wml_X1_227 : Cond.methodLink RX1 227 yJ6_bitCount_0f7a4 ∈ gT := gT_c4 (i := 185) (by decide +kernel) rfl
theorem wst_J6_bitCount_0f7a4 : Cond.static yJ6_bitCount_0f7a4 ∈ gT := gT_c4 (i := 186) (by decide +kernel) rfl
theorem wml_X2_7 : Cond.methodLink RX2 7 yX9_begin ∈ gT := gT_c5 (i := 44) (by decide +kernel) rfl
theorem wsu_X2 : Cond.superclass RX2 RX8 ∈ gT := gT_c4 (i := 3) (by decide +kernel) rfl
theorem wsu_X8 : Cond.superclass RX8 RX6 ∈ gT := gT_c4 (i := 12) (by decide +kernel) rfl
theorem wml_X2_13 : Cond.methodLink RX2 13 ⟨"PenaltyGrid$Term", "weighs", "(ILPenaltyGrid$Trace;)I"⟩ ∈ gT := gT_c5 (i := 45) (by decide +kernel) rfl
theorem wsm_X8_weighs_X6 : Cond.sameMethod RX8 "PenaltyGrid$Paper" "weighs" "(ILPenaltyGrid$Trace;)I" ∈ gT := gT_c5 (i := 46) (by decide +kernel) rfl
theorem gg_X6_13 : ∀ t ∈ [0, 2, 3, 4, 7, 9], gFldG RX6 13 t 1 ∧ gIsR (gFt t 1) = false := List.forall_mem_cons.mpr ⟨⟨gf_X6_13_0.g, rfl⟩, List.forall_mem_cons.mpr ⟨⟨gf_X6_13_2.g, rfl⟩, List.forall_mem_cons.mpr ⟨⟨gf_X6_13_3.g, rfl⟩, List.forall_mem_cons.mpr ⟨⟨gf_X6_13_4.g, rfl⟩, List.forall_mem_cons.mpr ⟨⟨gf_X6_13_7.g, rfl⟩, List.forall_mem_cons.mpr ⟨⟨gf_X6_13_9.g, rfl⟩, fun _ h => absurd h List.not_mem_nil⟩⟩⟩⟩⟩⟩
theorem wfl_X6_26 : Cond.fieldLink RX6 26 "PenaltyGrid$Trace" "isParted" "Z" ∈ gT := gT_c1 (i := 198) (by decide +kernel) rfl
theorem gf_X6_26_8 : gFld RX6 26 8 2 := ⟨RX9, TX9, 3, "PenaltyGrid$Trace", cls_8, by decide, wfl_X6_26, Or.inl rfl, Or.inl rfl⟩
theorem gp_X6_26 {nm : String} : ∀ t ∈ [8], gFld RX6 26 t 2 ∧ gFt t 2 = .boolean ∧ (nm = "<init>" ∨ ∀ (C : String) (T : u_T) (N : Nat), vwCl[t]? = some (C, T, N) → (T 2).2.2.2 = false) := List.forall_mem_cons.mpr ⟨⟨gf_X6_26_8, rfl, Or.inr (fun _ _ _ h => by cases h; rfl)⟩, fun _ h => absurd h List.not_mem_nil⟩
theorem wco_X6_parts : Cond.code yX6_parts cX6_parts 4 (some .int) ∈ gT := gT_c5 (i := 97) (by decide +kernel) rfl
theorem mf_X6_parts : gMf yX6_parts cX6_parts 4 (some .int) 2 := ⟨wco_X6_parts, win_X6, ⟨by decide +kernel, by decide +kernel⟩, by decide +kernel⟩
theorem wml_X2_17 : Cond.methodLink RX2 17 ⟨"PenaltyGrid$Term", "parts", "(ILPenaltyGrid$Trace;)I"⟩ ∈ gT := gT_c5 (i := 86) (by decide +kernel) rfl
theorem wsm_X8_parts_X6 : Cond.sameMethod RX8 "PenaltyGrid$Paper" "parts" "(ILPenaltyGrid$Trace;)I" ∈ gT := gT_c5 (i := 87) (by decide +kernel) rfl
theorem wim_X6_parts : Cond.instanceMethod yX6_parts ∈ gT := gT_c5 (i := 80) (by decide +kernel) rfl
theorem wml_X3_21 : Cond.methodLink RX3 21 yX9_begin ∈ gT := gT_c5 (i := 92) (by decide +kernel) rfl
theorem wsu_X3 : Cond.superclass RX3 RX6 ∈ gT := gT_c2 (i := 144) (by decide +kernel) rfl
theorem wml_X3_27 : Cond.methodLink RX3 27 yX6_parts ∈ gT := gT_c5 (i := 93) (by decide +kernel) rfl
theorem wsm_X6_parts_X6 : Cond.sameMethod RX6 "PenaltyGrid$Paper" "parts" "(ILPenaltyGrid$Trace;)I" ∈ gT := gT_c5 (i := 81) (by decide +kernel) rfl
theorem wco_X0_weighs : Cond.code yX0_weighs cX0_weighs 3 (some .int) ∈ gT := gT_c5 (i := 35) (by decide +kernel) rfl
theorem mf_X0_weighs : gMf yX0_weighs cX0_weighs 3 (some .int) 2 := ⟨wco_X0_weighs, win_X0, ⟨by decide +kernel, by decide +kernel⟩, by decide +kernel⟩
theorem wml_X6_22 : Cond.methodLink RX6 22 yX6_weighs ∈ gT := gT_c5 (i := 78) (by decide +kernel) rfl
theorem wse_X0_X6_weighs_X0_weighs : Cond.selects RX0 yX6_weighs yX0_weighs ∈ gT := gT_c5 (i := 33) (by decide +kernel) rfl
theorem wim_X0_weighs : Cond.instanceMethod yX0_weighs ∈ gT := gT_c5 (i := 34) (by decide +kernel) rfl
theorem wnp_X6_weighs : (parseMethodDescriptor (yX6_weighs : MethodName).desc).map (fun d => d.parameters.length) = some 2 := by decide +kernel
theorem wco_X2_weighs : Cond.code yX2_weighs cX2_weighs 3 (some .int) ∈ gT := gT_c5 (i := 43) (by decide +kernel) rfl
theorem mf_X2_weighs : gMf yX2_weighs cX2_weighs 3 (some .int) 2 := ⟨wco_X2_weighs, win_X2, ⟨by decide +kernel, by decide +kernel⟩, by decide +kernel⟩
theorem wse_X2_X6_weighs_X2_weighs : Cond.selects RX2 yX6_weighs yX2_weighs ∈ gT := gT_c5 (i := 41) (by decide +kernel) rfl
theorem wim_X2_weighs : Cond.instanceMethod yX2_weighs ∈ gT := gT_c5 (i := 42) (by decide +kernel) rfl
theorem wse_X3_X6_weighs_X6_weighs : Cond.selects RX3 yX6_weighs yX6_weighs ∈ gT := gT_c5 (i := 48) (by decide +kernel) rfl
theorem wse_X4_X6_weighs_X6_weighs : Cond.selects RX4 yX6_weighs yX6_weighs ∈ gT := gT_c5 (i := 49) (by decide +kernel) rfl
theorem wse_X8_X6_weighs_X6_weighs : Cond.selects RX8 yX6_weighs yX6_weighs ∈ gT := gT_c5 (i := 50) (by decide +kernel) rfl
theorem wse_X10_X6_weighs_X0_weighs : Cond.selects RX10 yX6_weighs yX0_weighs ∈ gT := gT_c5 (i := 51) (by decide +kernel) rfl
theorem wml_X8_23 : Cond.methodLink RX8 23 yX9_begin ∈ gT := gT_c5 (i := 61) (by decide +kernel) rfl
theorem wco_X6_bars : Cond.code yX6_bars cX6_bars 3 (some .int) ∈ gT := gT_c5 (i := 77) (by decide +kernel) rfl
theorem mf_X6_bars : gMf yX6_bars cX6_bars 3 (some .int) 2 := ⟨wco_X6_bars, win_X6, ⟨by decide +kernel, by decide +kernel⟩, by decide +kernel⟩
theorem wml_X8_29 : Cond.methodLink RX8 29 yX6_bars ∈ gT := gT_c5 (i := 62) (by decide +kernel) rfl
theorem wsm_X6_bars_X6 : Cond.sameMethod RX6 "PenaltyGrid$Paper" "bars" "(ILPenaltyGrid$Trace;)I" ∈ gT := gT_c5 (i := 56) (by decide +kernel) rfl
theorem wim_X6_bars : Cond.instanceMethod yX6_bars ∈ gT := gT_c5 (i := 55) (by decide +kernel) rfl
theorem wml_X10_7 : Cond.methodLink RX10 7 yX9_begin ∈ gT := gT_c5 (i := 69) (by decide +kernel) rfl
theorem wsu_X10 : Cond.superclass RX10 RX0 ∈ gT := gT_c2 (i := 101) (by decide +kernel) rfl
theorem wml_X10_13 : Cond.methodLink RX10 13 ⟨"PenaltyGrid$Deed", "bars", "(ILPenaltyGrid$Trace;)I"⟩ ∈ gT := gT_c5 (i := 70) (by decide +kernel) rfl
theorem wsm_X0_bars_X6 : Cond.sameMethod RX0 "PenaltyGrid$Paper" "bars" "(ILPenaltyGrid$Trace;)I" ∈ gT := gT_c5 (i := 71) (by decide +kernel) rfl
theorem wml_X10_17 : Cond.methodLink RX10 17 ⟨"PenaltyGrid$YoungDeed", "weighs", "(ILPenaltyGrid$Trace;)I"⟩ ∈ gT := gT_c5 (i := 73) (by decide +kernel) rfl
theorem wsm_X10_weighs_X0 : Cond.sameMethod RX10 "PenaltyGrid$Deed" "weighs" "(ILPenaltyGrid$Trace;)I" ∈ gT := gT_c5 (i := 74) (by decide +kernel) rfl
theorem wse_X10_X10_weighs_X0_weighs : Cond.selects RX10 ⟨"PenaltyGrid$YoungDeed", "weighs", "(ILPenaltyGrid$Trace;)I"⟩ yX0_weighs ∈ gT := gT_c5 (i := 76) (by decide +kernel) rfl
theorem wnp_X10_weighs : (parseMethodDescriptor (⟨"PenaltyGrid$YoungDeed", "weighs", "(ILPenaltyGrid$Trace;)I"⟩ : MethodName).desc).map (fun d => d.parameters.length) = some 2 := by decide +kernel
theorem wml_X6_30 : Cond.methodLink RX6 30 yX6_bars ∈ gT := gT_c5 (i := 118) (by decide +kernel) rfl
theorem wse_X0_X6_bars_X6_bars : Cond.selects RX0 yX6_bars yX6_bars ∈ gT := gT_c5 (i := 57) (by decide +kernel) rfl
theorem wnp_X6_bars : (parseMethodDescriptor (yX6_bars : MethodName).desc).map (fun d => d.parameters.length) = some 2 := by decide +kernel
theorem wco_X8_bars : Cond.code yX8_bars cX8_bars 3 (some .int) ∈ gT := gT_c5 (i := 60) (by decide +kernel) rfl
theorem mf_X8_bars : gMf yX8_bars cX8_bars 3 (some .int) 2 := ⟨wco_X8_bars, win_X8, ⟨by decide +kernel, by decide +kernel⟩, by decide +kernel⟩
theorem wse_X2_X6_bars_X8_bars : Cond.selects RX2 yX6_bars yX8_bars ∈ gT := gT_c5 (i := 58) (by decide +kernel) rfl
theorem wim_X8_bars : Cond.instanceMethod yX8_bars ∈ gT := gT_c5 (i := 59) (by decide +kernel) rfl
theorem wse_X3_X6_bars_X6_bars : Cond.selects RX3 yX6_bars yX6_bars ∈ gT := gT_c5 (i := 63) (by decide +kernel) rfl
theorem wse_X4_X6_bars_X6_bars : Cond.selects RX4 yX6_bars yX6_bars ∈ gT := gT_c5 (i := 64) (by decide +kernel) rfl
theorem wse_X8_X6_bars_X8_bars : Cond.selects RX8 yX6_bars yX8_bars ∈ gT := gT_c5 (i := 65) (by decide +kernel) rfl
theorem wco_X10_bars : Cond.code yX10_bars cX10_bars 3 (some .int) ∈ gT := gT_c5 (i := 68) (by decide +kernel) rfl
theorem mf_X10_bars : gMf yX10_bars cX10_bars 3 (some .int) 2 := ⟨wco_X10_bars, win_X10, ⟨by decide +kernel, by decide +kernel⟩, by decide +kernel⟩
theorem wse_X10_X6_bars_X10_bars : Cond.selects RX10 yX6_bars yX10_bars ∈ gT := gT_c5 (i := 66) (by decide +kernel) rfl
theorem wim_X10_bars : Cond.instanceMethod yX10_bars ∈ gT := gT_c5 (i := 67) (by decide +kernel) rfl
theorem wco_X6_tells : Cond.code yX6_tells cX6_tells 3 (some .int) ∈ gT := gT_c5 (i := 117) (by decide +kernel) rfl
theorem mf_X6_tells : gMf yX6_tells cX6_tells 3 (some .int) 2 := ⟨wco_X6_tells, win_X6, ⟨by decide +kernel, by decide +kernel⟩, by decide +kernel⟩
theorem wml_X3_31 : Cond.methodLink RX3 31 yX6_tells ∈ gT := gT_c5 (i := 106) (by decide +kernel) rfl
theorem wsm_X6_tells_X6 : Cond.sameMethod RX6 "PenaltyGrid$Paper" "tells" "(ILPenaltyGrid$Trace;)I" ∈ gT := gT_c5 (i := 100) (by decide +kernel) rfl
theorem wim_X6_tells : Cond.instanceMethod yX6_tells ∈ gT := gT_c5 (i := 99) (by decide +kernel) rfl
theorem wml_X4_79 : Cond.methodLink RX4 79 yX9_begin ∈ gT := gT_c5 (i := 110) (by decide +kernel) rfl
theorem wsu_X4 : Cond.superclass RX4 RX6 ∈ gT := gT_c3 (i := 132) (by decide +kernel) rfl
theorem wml_X4_85 : Cond.methodLink RX4 85 yX6_tells ∈ gT := gT_c5 (i := 111) (by decide +kernel) rfl
theorem wml_X4_89 : Cond.methodLink RX4 89 ⟨"PenaltyGrid$Law", "weighs", "(ILPenaltyGrid$Trace;)I"⟩ ∈ gT := gT_c5 (i := 112) (by decide +kernel) rfl
theorem wsm_X4_weighs_X6 : Cond.sameMethod RX4 "PenaltyGrid$Paper" "weighs" "(ILPenaltyGrid$Trace;)I" ∈ gT := gT_c5 (i := 113) (by decide +kernel) rfl
theorem wse_X4_X4_weighs_X6_weighs : Cond.selects RX4 ⟨"PenaltyGrid$Law", "weighs", "(ILPenaltyGrid$Trace;)I"⟩ yX6_weighs ∈ gT := gT_c5 (i := 114) (by decide +kernel) rfl
theorem wnp_X4_weighs : (parseMethodDescriptor (⟨"PenaltyGrid$Law", "weighs", "(ILPenaltyGrid$Trace;)I"⟩ : MethodName).desc).map (fun d => d.parameters.length) = some 2 := by decide +kernel
theorem wfl_X5_11 : Cond.fieldLink RX5 11 "PenaltyGrid$LawReader" "tapeCount" "I" ∈ gT := gT_c1 (i := 137) (by decide +kernel) rfl
theorem gf_X5_11_5 : gFld RX5 11 5 0 := ⟨RX5, TX5, 13, "PenaltyGrid$LawReader", cls_5, by decide, wfl_X5_11, Or.inl rfl, Or.inl rfl⟩
theorem gp_X5_11 {nm : String} : ∀ t ∈ [5], gFld RX5 11 t 0 ∧ gFt t 0 = .int ∧ (nm = "<init>" ∨ ∀ (C : String) (T : u_T) (N : Nat), vwCl[t]? = some (C, T, N) → (T 0).2.2.2 = false) := List.forall_mem_cons.mpr ⟨⟨gf_X5_11_5, rfl, Or.inr (fun _ _ _ h => by cases h; rfl)⟩, fun _ h => absurd h List.not_mem_nil⟩
theorem wfl_X5_15 : Cond.fieldLink RX5 15 "PenaltyGrid$LawReader" "lines" "I" ∈ gT := gT_c1 (i := 140) (by decide +kernel) rfl
theorem gf_X5_15_5 : gFld RX5 15 5 1 := ⟨RX5, TX5, 13, "PenaltyGrid$LawReader", cls_5, by decide, wfl_X5_15, Or.inl rfl, Or.inl rfl⟩
theorem gp_X5_15 {nm : String} : ∀ t ∈ [5], gFld RX5 15 t 1 ∧ gFt t 1 = .int ∧ (nm = "<init>" ∨ ∀ (C : String) (T : u_T) (N : Nat), vwCl[t]? = some (C, T, N) → (T 1).2.2.2 = false) := List.forall_mem_cons.mpr ⟨⟨gf_X5_15_5, rfl, Or.inr (fun _ _ _ h => by cases h; rfl)⟩, fun _ h => absurd h List.not_mem_nil⟩
theorem wfl_X5_21 : Cond.fieldLink RX5 21 "PenaltyGrid$LawReader" "sorts" "[I" ∈ gT := gT_c1 (i := 143) (by decide +kernel) rfl
theorem gf_X5_21_5 : gFld RX5 21 5 3 := ⟨RX5, TX5, 13, "PenaltyGrid$LawReader", cls_5, by decide, wfl_X5_21, Or.inl rfl, Or.inr ⟨rfl, rfl⟩⟩
theorem gp_X5_21 : ∀ t ∈ [5], gFld RX5 21 t 3 ∧ gIsR (gFt t 3) = true ∧ ("<init>" = "<init>" ∨ ∀ (C : String) (T : u_T) (N : Nat), vwCl[t]? = some (C, T, N) → (T 3).2.2.2 = false) := List.forall_mem_cons.mpr ⟨⟨gf_X5_21_5, rfl, Or.inl rfl⟩, fun _ h => absurd h List.not_mem_nil⟩
theorem wfl_X5_25 : Cond.fieldLink RX5 25 "PenaltyGrid$LawReader" "condStart" "[I" ∈ gT := gT_c1 (i := 145) (by decide +kernel) rfl
theorem gf_X5_25_5 : gFld RX5 25 5 4 := ⟨RX5, TX5, 13, "PenaltyGrid$LawReader", cls_5, by decide, wfl_X5_25, Or.inl rfl, Or.inr ⟨rfl, rfl⟩⟩
theorem gp_X5_25 : ∀ t ∈ [5], gFld RX5 25 t 4 ∧ gIsR (gFt t 4) = true ∧ ("<init>" = "<init>" ∨ ∀ (C : String) (T : u_T) (N : Nat), vwCl[t]? = some (C, T, N) → (T 4).2.2.2 = false) := List.forall_mem_cons.mpr ⟨⟨gf_X5_25_5, rfl, Or.inl rfl⟩, fun _ h => absurd h List.not_mem_nil⟩
theorem wfl_X5_28 : Cond.fieldLink RX5 28 "PenaltyGrid$LawReader" "condEnd" "[I" ∈ gT := gT_c1 (i := 147) (by decide +kernel) rfl
theorem gf_X5_28_5 : gFld RX5 28 5 5 := ⟨RX5, TX5, 13, "PenaltyGrid$LawReader", cls_5, by decide, wfl_X5_28, Or.inl rfl, Or.inr ⟨rfl, rfl⟩⟩
theorem gp_X5_28 : ∀ t ∈ [5], gFld RX5 28 t 5 ∧ gIsR (gFt t 5) = true ∧ ("<init>" = "<init>" ∨ ∀ (C : String) (T : u_T) (N : Nat), vwCl[t]? = some (C, T, N) → (T 5).2.2.2 = false) := List.forall_mem_cons.mpr ⟨⟨gf_X5_28_5, rfl, Or.inl rfl⟩, fun _ h => absurd h List.not_mem_nil⟩
theorem gp_X5_31 : ∀ t ∈ [5], gFld RX5 31 t 6 ∧ gIsR (gFt t 6) = true ∧ ("<init>" = "<init>" ∨ ∀ (C : String) (T : u_T) (N : Nat), vwCl[t]? = some (C, T, N) → (T 6).2.2.2 = false) := List.forall_mem_cons.mpr ⟨⟨gf_X5_31_5, rfl, Or.inl rfl⟩, fun _ h => absurd h List.not_mem_nil⟩
theorem gp_X5_34 : ∀ t ∈ [5], gFld RX5 34 t 7 ∧ gIsR (gFt t 7) = true ∧ ("<init>" = "<init>" ∨ ∀ (C : String) (T : u_T) (N : Nat), vwCl[t]? = some (C, T, N) → (T 7).2.2.2 = false) := List.forall_mem_cons.mpr ⟨⟨gf_X5_34_5, rfl, Or.inl rfl⟩, fun _ h => absurd h List.not_mem_nil⟩
theorem wfl_X5_37 : Cond.fieldLink RX5 37 "PenaltyGrid$LawReader" "tape" "[B" ∈ gT := gT_c1 (i := 152) (by decide +kernel) rfl
theorem gf_X5_37_5 : gFld RX5 37 5 8 := ⟨RX5, TX5, 13, "PenaltyGrid$LawReader", cls_5, by decide, wfl_X5_37, Or.inl rfl, Or.inr ⟨rfl, rfl⟩⟩
theorem gp_X5_37 : ∀ t ∈ [5], gFld RX5 37 t 8 ∧ gIsR (gFt t 8) = true ∧ ("<init>" = "<init>" ∨ ∀ (C : String) (T : u_T) (N : Nat), vwCl[t]? = some (C, T, N) → (T 8).2.2.2 = false) := List.forall_mem_cons.mpr ⟨⟨gf_X5_37_5, rfl, Or.inl rfl⟩, fun _ h => absurd h List.not_mem_nil⟩
theorem gp_X5_41 : ∀ t ∈ [5], gFld RX5 41 t 9 ∧ gIsR (gFt t 9) = true ∧ ("<init>" = "<init>" ∨ ∀ (C : String) (T : u_T) (N : Nat), vwCl[t]? = some (C, T, N) → (T 9).2.2.2 = false) := List.forall_mem_cons.mpr ⟨⟨gf_X5_41_5, rfl, Or.inl rfl⟩, fun _ h => absurd h List.not_mem_nil⟩
theorem wfl_X5_44 : Cond.fieldLink RX5 44 "PenaltyGrid$LawReader" "tokenPlace" "[I" ∈ gT := gT_c1 (i := 154) (by decide +kernel) rfl
theorem gf_X5_44_5 : gFld RX5 44 5 10 := ⟨RX5, TX5, 13, "PenaltyGrid$LawReader", cls_5, by decide, wfl_X5_44, Or.inl rfl, Or.inr ⟨rfl, rfl⟩⟩
theorem gp_X5_44 : ∀ t ∈ [5], gFld RX5 44 t 10 ∧ gIsR (gFt t 10) = true ∧ ("<init>" = "<init>" ∨ ∀ (C : String) (T : u_T) (N : Nat), vwCl[t]? = some (C, T, N) → (T 10).2.2.2 = false) := List.forall_mem_cons.mpr ⟨⟨gf_X5_44_5, rfl, Or.inl rfl⟩, fun _ h => absurd h List.not_mem_nil⟩
theorem gp_X5_47 {nm : String} : ∀ t ∈ [5], gFld RX5 47 t 11 ∧ gFt t 11 = .int ∧ (nm = "<init>" ∨ ∀ (C : String) (T : u_T) (N : Nat), vwCl[t]? = some (C, T, N) → (T 11).2.2.2 = false) := List.forall_mem_cons.mpr ⟨⟨gf_X5_47_5, rfl, Or.inr (fun _ _ _ h => by cases h; rfl)⟩, fun _ h => absurd h List.not_mem_nil⟩
theorem wac_byte : Cond.arrayClass .byte ∈ gT := gT_c1 (i := 184) (by decide +kernel) rfl
theorem wml_X5_5 : Cond.methodLink RX5 5 ⟨"java/lang/Object", "<init>", "()V"⟩ ∈ gT := gT_c1 (i := 136) (by decide +kernel) rfl
theorem gg_X5_11 : ∀ t ∈ [5], gFldG RX5 11 t 0 ∧ gIsR (gFt t 0) = false := List.forall_mem_cons.mpr ⟨⟨gf_X5_11_5.g, rfl⟩, fun _ h => absurd h List.not_mem_nil⟩
theorem gg_X5_37 : ∀ t ∈ [5], gFldG RX5 37 t 8 ∧ gIsR (gFt t 8) = true := List.forall_mem_cons.mpr ⟨⟨gf_X5_37_5.g, rfl⟩, fun _ h => absurd h List.not_mem_nil⟩
theorem gg_X5_44 : ∀ t ∈ [5], gFldG RX5 44 t 10 ∧ gIsR (gFt t 10) = true := List.forall_mem_cons.mpr ⟨⟨gf_X5_44_5.g, rfl⟩, fun _ h => absurd h List.not_mem_nil⟩
theorem wml_X5_85 : Cond.methodLink RX5 85 yJ0_charAt_5068e ∈ gT := gT_c2 (i := 212) (by decide +kernel) rfl
theorem wml_X5_80 : Cond.methodLink RX5 80 yJ0_length_8abf5 ∈ gT := gT_c2 (i := 202) (by decide +kernel) rfl
theorem wco_X5_sortAt : Cond.code yX5_sortAt cX5_sortAt 3 (some .int) ∈ gT := gT_c2 (i := 192) (by decide +kernel) rfl
theorem mf_X5_sortAt : gMf yX5_sortAt cX5_sortAt 3 (some .int) 1 := ⟨wco_X5_sortAt, win_X5, ⟨by decide +kernel, by decide +kernel⟩, by decide +kernel⟩
theorem wml_X5_64 : Cond.methodLink RX5 64 yX5_sortAt ∈ gT := gT_c2 (i := 189) (by decide +kernel) rfl
theorem wim_X5_sortAt : Cond.instanceMethod yX5_sortAt ∈ gT := gT_c2 (i := 191) (by decide +kernel) rfl
theorem wse_X5_X5_sortAt_X5_sortAt : Cond.selects RX5 yX5_sortAt yX5_sortAt ∈ gT := gT_pr (i := 2) (by decide +kernel) rfl
theorem wco_X5_numberAt : Cond.code yX5_numberAt cX5_numberAt 4 (some .int) ∈ gT := gT_c3 (i := 13) (by decide +kernel) rfl
theorem mf_X5_numberAt : gMf yX5_numberAt cX5_numberAt 4 (some .int) 1 := ⟨wco_X5_numberAt, win_X5, ⟨by decide +kernel, by decide +kernel⟩, by decide +kernel⟩
theorem wml_X5_75 : Cond.methodLink RX5 75 yX5_numberAt ∈ gT := gT_c3 (i := 10) (by decide +kernel) rfl
theorem wim_X5_numberAt : Cond.instanceMethod yX5_numberAt ∈ gT := gT_c3 (i := 12) (by decide +kernel) rfl
theorem wse_X5_X5_numberAt_X5_numberAt : Cond.selects RX5 yX5_numberAt yX5_numberAt ∈ gT := gT_pr (i := 5) (by decide +kernel) rfl
theorem wco_X5_addToken : Cond.code yX5_addToken cX5_addToken 3 none ∈ gT := gT_c2 (i := 196) (by decide +kernel) rfl
theorem mf_X5_addToken : gMf yX5_addToken cX5_addToken 3 none 2 := ⟨wco_X5_addToken, win_X5, ⟨by decide +kernel, by decide +kernel⟩, by decide +kernel⟩
theorem wml_X5_68 : Cond.methodLink RX5 68 yX5_addToken ∈ gT := gT_c2 (i := 193) (by decide +kernel) rfl
theorem wim_X5_addToken : Cond.instanceMethod yX5_addToken ∈ gT := gT_c2 (i := 195) (by decide +kernel) rfl
theorem wse_X5_X5_addToken_X5_addToken : Cond.selects RX5 yX5_addToken yX5_addToken ∈ gT := gT_pr (i := 3) (by decide +kernel) rfl
theorem wco_X5_wordAt : Cond.code yX5_wordAt cX5_wordAt 7 (some .int) ∈ gT := gT_c2 (i := 200) (by decide +kernel) rfl
theorem mf_X5_wordAt : gMf yX5_wordAt cX5_wordAt 7 (some .int) 1 := ⟨wco_X5_wordAt, win_X5, ⟨by decide +kernel, by decide +kernel⟩, by decide +kernel⟩
theorem wml_X5_72 : Cond.methodLink RX5 72 yX5_wordAt ∈ gT := gT_c2 (i := 197) (by decide +kernel) rfl
theorem wim_X5_wordAt : Cond.instanceMethod yX5_wordAt ∈ gT := gT_c2 (i := 199) (by decide +kernel) rfl
theorem wse_X5_X5_wordAt_X5_wordAt : Cond.selects RX5 yX5_wordAt yX5_wordAt ∈ gT := gT_pr (i := 4) (by decide +kernel) rfl
theorem gg_X5_15 : ∀ t ∈ [5], gFldG RX5 15 t 1 ∧ gIsR (gFt t 1) = false := List.forall_mem_cons.mpr ⟨⟨gf_X5_15_5.g, rfl⟩, fun _ h => absurd h List.not_mem_nil⟩
theorem gg_X5_28 : ∀ t ∈ [5], gFldG RX5 28 t 5 ∧ gIsR (gFt t 5) = true := List.forall_mem_cons.mpr ⟨⟨gf_X5_28_5.g, rfl⟩, fun _ h => absurd h List.not_mem_nil⟩
theorem wco_X5_takeNumber : Cond.code yX5_takeNumber cX5_takeNumber 5 (some .boolean) ∈ gT := gT_c3 (i := 25) (by decide +kernel) rfl
theorem mf_X5_takeNumber : gMf yX5_takeNumber cX5_takeNumber 5 (some .boolean) 3 := ⟨wco_X5_takeNumber, win_X5, ⟨by decide +kernel, by decide +kernel⟩, by decide +kernel⟩
theorem wml_X5_89 : Cond.methodLink RX5 89 yX5_takeNumber ∈ gT := gT_c3 (i := 22) (by decide +kernel) rfl
theorem wim_X5_takeNumber : Cond.instanceMethod yX5_takeNumber ∈ gT := gT_c3 (i := 24) (by decide +kernel) rfl
theorem wse_X5_X5_takeNumber_X5_takeNumber : Cond.selects RX5 yX5_takeNumber yX5_takeNumber ∈ gT := gT_pr (i := 8) (by decide +kernel) rfl
theorem gg_X5_21 : ∀ t ∈ [5], gFldG RX5 21 t 3 ∧ gIsR (gFt t 3) = true := List.forall_mem_cons.mpr ⟨⟨gf_X5_21_5.g, rfl⟩, fun _ h => absurd h List.not_mem_nil⟩
theorem gg_X5_25 : ∀ t ∈ [5], gFldG RX5 25 t 4 ∧ gIsR (gFt t 4) = true := List.forall_mem_cons.mpr ⟨⟨gf_X5_25_5.g, rfl⟩, fun _ h => absurd h List.not_mem_nil⟩
theorem wml_X5_97 : Cond.methodLink RX5 97 yX5_number ∈ gT := gT_c3 (i := 30) (by decide +kernel) rfl
theorem wco_X5_readLine : Cond.code yX5_readLine cX5_readLine 3 (some .boolean) ∈ gT := gT_c3 (i := 21) (by decide +kernel) rfl
theorem mf_X5_readLine : gMf yX5_readLine cX5_readLine 3 (some .boolean) 0 := ⟨wco_X5_readLine, win_X5, ⟨by decide +kernel, by decide +kernel⟩, by decide +kernel⟩
theorem wml_X5_60 : Cond.methodLink RX5 60 yX5_readLine ∈ gT := gT_c3 (i := 18) (by decide +kernel) rfl
theorem wim_X5_readLine : Cond.instanceMethod yX5_readLine ∈ gT := gT_c3 (i := 20) (by decide +kernel) rfl
theorem wse_X5_X5_readLine_X5_readLine : Cond.selects RX5 yX5_readLine yX5_readLine ∈ gT := gT_pr (i := 7) (by decide +kernel) rfl
theorem wco_X5_cutTape : Cond.code yX5_cutTape cX5_cutTape 4 none ∈ gT := gT_c2 (i := 188) (by decide +kernel) rfl
theorem mf_X5_cutTape : gMf yX5_cutTape cX5_cutTape 4 none 0 := ⟨wco_X5_cutTape, win_X5, ⟨by decide +kernel, by decide +kernel⟩, by decide +kernel⟩
theorem wml_X5_53 : Cond.methodLink RX5 53 yX5_cutTape ∈ gT := gT_c2 (i := 185) (by decide +kernel) rfl
theorem wim_X5_cutTape : Cond.instanceMethod yX5_cutTape ∈ gT := gT_c2 (i := 187) (by decide +kernel) rfl
theorem wse_X5_X5_cutTape_X5_cutTape : Cond.selects RX5 yX5_cutTape yX5_cutTape ∈ gT := gT_pr (i := 1) (by decide +kernel) rfl
theorem gp_X9_9 : ∀ t ∈ [8], gFld RX9 9 t 0 ∧ gIsR (gFt t 0) = true ∧ ("<init>" = "<init>" ∨ ∀ (C : String) (T : u_T) (N : Nat), vwCl[t]? = some (C, T, N) → (T 0).2.2.2 = false) := List.forall_mem_cons.mpr ⟨⟨gf_X9_9_8, rfl, Or.inl rfl⟩, fun _ h => absurd h List.not_mem_nil⟩
theorem wfl_X9_19 : Cond.fieldLink RX9 19 "PenaltyGrid$Trace" "isParted" "Z" ∈ gT := gT_c1 (i := 197) (by decide +kernel) rfl
theorem gf_X9_19_8 : gFld RX9 19 8 2 := ⟨RX9, TX9, 3, "PenaltyGrid$Trace", cls_8, by decide, wfl_X9_19, Or.inl rfl, Or.inl rfl⟩
theorem gp_X9_19 {nm : String} : ∀ t ∈ [8], gFld RX9 19 t 2 ∧ gFt t 2 = .boolean ∧ (nm = "<init>" ∨ ∀ (C : String) (T : u_T) (N : Nat), vwCl[t]? = some (C, T, N) → (T 2).2.2.2 = false) := List.forall_mem_cons.mpr ⟨⟨gf_X9_19_8, rfl, Or.inr (fun _ _ _ h => by cases h; rfl)⟩, fun _ h => absurd h List.not_mem_nil⟩
theorem wml_X9_3 : Cond.methodLink RX9 3 ⟨"java/lang/Object", "<init>", "()V"⟩ ∈ gT := gT_c1 (i := 192) (by decide +kernel) rfl
theorem wco_X1_init : Cond.code yX1_init cX1_init 1 none ∈ gT := gT_c1 (i := 34) (by decide +kernel) rfl
theorem mf_X1_init : gMf yX1_init cX1_init 1 none 0 := ⟨wco_X1_init, win_X1, ⟨by decide +kernel, by decide +kernel⟩, by decide +kernel⟩
theorem wnest_X11_9 : Cond.methodLinkNest RX11 9 yX1_init "PenaltyGrid" ∈ gNest := List.mem_of_getElem? (i := 0) rfl
theorem wim_X1_init : Cond.instanceMethod yX1_init ∈ gT := gT_c1 (i := 33) (by decide +kernel) rfl
theorem wly_X11_0 : u_lay RX11 TX11 0 ∈ gT := gT_c1 (i := 227) (by decide +kernel) rfl
theorem wly_X11_1 : u_lay RX11 TX11 1 ∈ gT := gT_c1 (i := 229) (by decide +kernel) rfl
theorem wly_X11_2 : u_lay RX11 TX11 2 ∈ gT := gT_c1 (i := 231) (by decide +kernel) rfl
theorem wly_X11_3 : u_lay RX11 TX11 3 ∈ gT := gT_c1 (i := 233) (by decide +kernel) rfl
theorem wly_X11_4 : u_lay RX11 TX11 4 ∈ gT := gT_c1 (i := 235) (by decide +kernel) rfl
theorem wly_X11_5 : u_lay RX11 TX11 5 ∈ gT := gT_c1 (i := 237) (by decide +kernel) rfl
theorem wly_X11_6 : u_lay RX11 TX11 6 ∈ gT := gT_c1 (i := 239) (by decide +kernel) rfl
theorem wly_X11_7 : u_lay RX11 TX11 7 ∈ gT := gT_c2 (i := 1) (by decide +kernel) rfl
theorem wly_X11_8 : u_lay RX11 TX11 8 ∈ gT := gT_c2 (i := 3) (by decide +kernel) rfl
theorem wly_X11_9 : u_lay RX11 TX11 9 ∈ gT := gT_c2 (i := 5) (by decide +kernel) rfl
theorem wly_X11_10 : u_lay RX11 TX11 10 ∈ gT := gT_c2 (i := 7) (by decide +kernel) rfl
theorem wly_X11_11 : u_lay RX11 TX11 11 ∈ gT := gT_c2 (i := 9) (by decide +kernel) rfl
theorem wly_X11_12 : u_lay RX11 TX11 12 ∈ gT := gT_c2 (i := 11) (by decide +kernel) rfl
theorem wly_X11_13 : u_lay RX11 TX11 13 ∈ gT := gT_c2 (i := 13) (by decide +kernel) rfl
theorem wly_X11_14 : u_lay RX11 TX11 14 ∈ gT := gT_c2 (i := 15) (by decide +kernel) rfl
theorem wly_X11 : ∀ k, k < 15 → u_lay RX11 TX11 k ∈ gT := fun k hk => match k, hk with
  | 0, _ => wly_X11_0
  | 1, _ => wly_X11_1
  | 2, _ => wly_X11_2
  | 3, _ => wly_X11_3
  | 4, _ => wly_X11_4
  | 5, _ => wly_X11_5
  | 6, _ => wly_X11_6
  | 7, _ => wly_X11_7
  | 8, _ => wly_X11_8
  | 9, _ => wly_X11_9
  | 10, _ => wly_X11_10
  | 11, _ => wly_X11_11
  | 12, _ => wly_X11_12
  | 13, _ => wly_X11_13
  | 14, _ => wly_X11_14
  | k + 15, hk => absurd hk (by omega)
theorem cls_10 : gCls 10 RX11 TX11 15 := ⟨rfl, fun w hw => by
  obtain ⟨k, hk, rfl⟩ := List.mem_map.mp hw
  exact wly_X11 k (List.mem_range.mp hk), tyX11_ok, nmX11, by decide⟩
theorem wfl_X11_10 : Cond.fieldLink RX11 10 "PenaltyGrid" "docket" "LPenaltyGrid$Docket;" ∈ gT := gT_c1 (i := 212) (by decide +kernel) rfl
theorem gf_X11_10_10 : gFld RX11 10 10 0 := ⟨RX11, TX11, 15, "PenaltyGrid", cls_10, by decide, wfl_X11_10, Or.inl rfl, Or.inr ⟨rfl, rfl⟩⟩
theorem gp_X11_10 : ∀ t ∈ [10], gFld RX11 10 t 0 ∧ gIsR (gFt t 0) = true ∧ ("<init>" = "<init>" ∨ ∀ (C : String) (T : u_T) (N : Nat), vwCl[t]? = some (C, T, N) → (T 0).2.2.2 = false) := List.forall_mem_cons.mpr ⟨⟨gf_X11_10_10, rfl, Or.inl rfl⟩, fun _ h => absurd h List.not_mem_nil⟩
theorem wfl_X11_16 : Cond.fieldLink RX11 16 "PenaltyGrid" "kept" "LPenaltyGrid$Docket;" ∈ gT := gT_c1 (i := 213) (by decide +kernel) rfl
theorem gf_X11_16_10 : gFld RX11 16 10 1 := ⟨RX11, TX11, 15, "PenaltyGrid", cls_10, by decide, wfl_X11_16, Or.inl rfl, Or.inr ⟨rfl, rfl⟩⟩
theorem gp_X11_16 : ∀ t ∈ [10], gFld RX11 16 t 1 ∧ gIsR (gFt t 1) = true ∧ ("<init>" = "<init>" ∨ ∀ (C : String) (T : u_T) (N : Nat), vwCl[t]? = some (C, T, N) → (T 1).2.2.2 = false) := List.forall_mem_cons.mpr ⟨⟨gf_X11_16_10, rfl, Or.inl rfl⟩, fun _ h => absurd h List.not_mem_nil⟩
theorem wfl_X11_19 : Cond.fieldLink RX11 19 "PenaltyGrid" "isKept" "Z" ∈ gT := gT_c1 (i := 214) (by decide +kernel) rfl
theorem gf_X11_19_10 : gFld RX11 19 10 2 := ⟨RX11, TX11, 15, "PenaltyGrid", cls_10, by decide, wfl_X11_19, Or.inl rfl, Or.inl rfl⟩
theorem gp_X11_19 {nm : String} : ∀ t ∈ [10], gFld RX11 19 t 2 ∧ gFt t 2 = .boolean ∧ (nm = "<init>" ∨ ∀ (C : String) (T : u_T) (N : Nat), vwCl[t]? = some (C, T, N) → (T 2).2.2.2 = false) := List.forall_mem_cons.mpr ⟨⟨gf_X11_19_10, rfl, Or.inr (fun _ _ _ h => by cases h; rfl)⟩, fun _ h => absurd h List.not_mem_nil⟩
theorem wco_X5_init : Cond.code yX5_init cX5_init 1 none ∈ gT := gT_c1 (i := 135) (by decide +kernel) rfl
theorem mf_X5_init : gMf yX5_init cX5_init 1 none 0 := ⟨wco_X5_init, win_X5, ⟨by decide +kernel, by decide +kernel⟩, by decide +kernel⟩
theorem wnest_X11_25 : Cond.methodLinkNest RX11 25 yX5_init "PenaltyGrid" ∈ gNest := List.mem_of_getElem? (i := 2) rfl
theorem wim_X5_init : Cond.instanceMethod yX5_init ∈ gT := gT_c1 (i := 134) (by decide +kernel) rfl
theorem wfl_X11_26 : Cond.fieldLink RX11 26 "PenaltyGrid" "reader" "LPenaltyGrid$LawReader;" ∈ gT := gT_c1 (i := 215) (by decide +kernel) rfl
theorem gf_X11_26_10 : gFld RX11 26 10 3 := ⟨RX11, TX11, 15, "PenaltyGrid", cls_10, by decide, wfl_X11_26, Or.inl rfl, Or.inr ⟨rfl, rfl⟩⟩
theorem gp_X11_26 : ∀ t ∈ [10], gFld RX11 26 t 3 ∧ gIsR (gFt t 3) = true ∧ ("<init>" = "<init>" ∨ ∀ (C : String) (T : u_T) (N : Nat), vwCl[t]? = some (C, T, N) → (T 3).2.2.2 = false) := List.forall_mem_cons.mpr ⟨⟨gf_X11_26_10, rfl, Or.inl rfl⟩, fun _ h => absurd h List.not_mem_nil⟩
theorem wnest_X11_32 : Cond.methodLinkNest RX11 32 yX7_init "PenaltyGrid" ∈ gNest := List.mem_of_getElem? (i := 3) rfl
theorem wfl_X11_33 : Cond.fieldLink RX11 33 "PenaltyGrid" "proof" "LPenaltyGrid$Rows;" ∈ gT := gT_c1 (i := 216) (by decide +kernel) rfl
theorem gf_X11_33_10 : gFld RX11 33 10 4 := ⟨RX11, TX11, 15, "PenaltyGrid", cls_10, by decide, wfl_X11_33, Or.inl rfl, Or.inr ⟨rfl, rfl⟩⟩
theorem gp_X11_33 : ∀ t ∈ [10], gFld RX11 33 t 4 ∧ gIsR (gFt t 4) = true ∧ ("<init>" = "<init>" ∨ ∀ (C : String) (T : u_T) (N : Nat), vwCl[t]? = some (C, T, N) → (T 4).2.2.2 = false) := List.forall_mem_cons.mpr ⟨⟨gf_X11_33_10, rfl, Or.inl rfl⟩, fun _ h => absurd h List.not_mem_nil⟩
theorem wco_X9_init : Cond.code yX9_init cX9_init 1 none ∈ gT := gT_c1 (i := 191) (by decide +kernel) rfl
theorem mf_X9_init : gMf yX9_init cX9_init 1 none 0 := ⟨wco_X9_init, win_X9, ⟨by decide +kernel, by decide +kernel⟩, by decide +kernel⟩
theorem wnest_X11_39 : Cond.methodLinkNest RX11 39 yX9_init "PenaltyGrid" ∈ gNest := List.mem_of_getElem? (i := 4) rfl
theorem wim_X9_init : Cond.instanceMethod yX9_init ∈ gT := gT_c1 (i := 190) (by decide +kernel) rfl
theorem wfl_X11_40 : Cond.fieldLink RX11 40 "PenaltyGrid" "bodies" "LPenaltyGrid$Trace;" ∈ gT := gT_c1 (i := 217) (by decide +kernel) rfl
theorem gf_X11_40_10 : gFld RX11 40 10 5 := ⟨RX11, TX11, 15, "PenaltyGrid", cls_10, by decide, wfl_X11_40, Or.inl rfl, Or.inr ⟨rfl, rfl⟩⟩
theorem gp_X11_40 : ∀ t ∈ [10], gFld RX11 40 t 5 ∧ gIsR (gFt t 5) = true ∧ ("<init>" = "<init>" ∨ ∀ (C : String) (T : u_T) (N : Nat), vwCl[t]? = some (C, T, N) → (T 5).2.2.2 = false) := List.forall_mem_cons.mpr ⟨⟨gf_X11_40_10, rfl, Or.inl rfl⟩, fun _ h => absurd h List.not_mem_nil⟩
theorem wfl_X11_46 : Cond.fieldLink RX11 46 "PenaltyGrid" "sheetItems" "[[I" ∈ gT := gT_c1 (i := 218) (by decide +kernel) rfl
theorem gf_X11_46_10 : gFld RX11 46 10 6 := ⟨RX11, TX11, 15, "PenaltyGrid", cls_10, by decide, wfl_X11_46, Or.inl rfl, Or.inr ⟨rfl, rfl⟩⟩
theorem gp_X11_46 : ∀ t ∈ [10], gFld RX11 46 t 6 ∧ gIsR (gFt t 6) = true ∧ ("<init>" = "<init>" ∨ ∀ (C : String) (T : u_T) (N : Nat), vwCl[t]? = some (C, T, N) → (T 6).2.2.2 = false) := List.forall_mem_cons.mpr ⟨⟨gf_X11_46_10, rfl, Or.inl rfl⟩, fun _ h => absurd h List.not_mem_nil⟩
theorem wfl_X11_49 : Cond.fieldLink RX11 49 "PenaltyGrid" "sheetSort" "[I" ∈ gT := gT_c1 (i := 219) (by decide +kernel) rfl
theorem gf_X11_49_10 : gFld RX11 49 10 7 := ⟨RX11, TX11, 15, "PenaltyGrid", cls_10, by decide, wfl_X11_49, Or.inl rfl, Or.inr ⟨rfl, rfl⟩⟩
theorem gp_X11_49 : ∀ t ∈ [10], gFld RX11 49 t 7 ∧ gIsR (gFt t 7) = true ∧ ("<init>" = "<init>" ∨ ∀ (C : String) (T : u_T) (N : Nat), vwCl[t]? = some (C, T, N) → (T 7).2.2.2 = false) := List.forall_mem_cons.mpr ⟨⟨gf_X11_49_10, rfl, Or.inl rfl⟩, fun _ h => absurd h List.not_mem_nil⟩
theorem wfl_X11_53 : Cond.fieldLink RX11 53 "PenaltyGrid" "sheetSize" "[I" ∈ gT := gT_c1 (i := 220) (by decide +kernel) rfl
theorem gf_X11_53_10 : gFld RX11 53 10 8 := ⟨RX11, TX11, 15, "PenaltyGrid", cls_10, by decide, wfl_X11_53, Or.inl rfl, Or.inr ⟨rfl, rfl⟩⟩
theorem gp_X11_53 : ∀ t ∈ [10], gFld RX11 53 t 8 ∧ gIsR (gFt t 8) = true ∧ ("<init>" = "<init>" ∨ ∀ (C : String) (T : u_T) (N : Nat), vwCl[t]? = some (C, T, N) → (T 8).2.2.2 = false) := List.forall_mem_cons.mpr ⟨⟨gf_X11_53_10, rfl, Or.inl rfl⟩, fun _ h => absurd h List.not_mem_nil⟩
theorem wfl_X11_56 : Cond.fieldLink RX11 56 "PenaltyGrid" "shelfHolds" "[I" ∈ gT := gT_c1 (i := 221) (by decide +kernel) rfl
theorem gf_X11_56_10 : gFld RX11 56 10 9 := ⟨RX11, TX11, 15, "PenaltyGrid", cls_10, by decide, wfl_X11_56, Or.inl rfl, Or.inr ⟨rfl, rfl⟩⟩
theorem gp_X11_56 : ∀ t ∈ [10], gFld RX11 56 t 9 ∧ gIsR (gFt t 9) = true ∧ ("<init>" = "<init>" ∨ ∀ (C : String) (T : u_T) (N : Nat), vwCl[t]? = some (C, T, N) → (T 9).2.2.2 = false) := List.forall_mem_cons.mpr ⟨⟨gf_X11_56_10, rfl, Or.inl rfl⟩, fun _ h => absurd h List.not_mem_nil⟩
theorem wfl_X11_59 : Cond.fieldLink RX11 59 "PenaltyGrid" "shelfNumber" "[I" ∈ gT := gT_c1 (i := 222) (by decide +kernel) rfl
theorem gf_X11_59_10 : gFld RX11 59 10 10 := ⟨RX11, TX11, 15, "PenaltyGrid", cls_10, by decide, wfl_X11_59, Or.inl rfl, Or.inr ⟨rfl, rfl⟩⟩
theorem gp_X11_59 : ∀ t ∈ [10], gFld RX11 59 t 10 ∧ gIsR (gFt t 10) = true ∧ ("<init>" = "<init>" ∨ ∀ (C : String) (T : u_T) (N : Nat), vwCl[t]? = some (C, T, N) → (T 10).2.2.2 = false) := List.forall_mem_cons.mpr ⟨⟨gf_X11_59_10, rfl, Or.inl rfl⟩, fun _ h => absurd h List.not_mem_nil⟩
theorem wfl_X11_62 : Cond.fieldLink RX11 62 "PenaltyGrid" "shelfSort" "[I" ∈ gT := gT_c1 (i := 223) (by decide +kernel) rfl
theorem gf_X11_62_10 : gFld RX11 62 10 11 := ⟨RX11, TX11, 15, "PenaltyGrid", cls_10, by decide, wfl_X11_62, Or.inl rfl, Or.inr ⟨rfl, rfl⟩⟩
theorem gp_X11_62 : ∀ t ∈ [10], gFld RX11 62 t 11 ∧ gIsR (gFt t 11) = true ∧ ("<init>" = "<init>" ∨ ∀ (C : String) (T : u_T) (N : Nat), vwCl[t]? = some (C, T, N) → (T 11).2.2.2 = false) := List.forall_mem_cons.mpr ⟨⟨gf_X11_62_10, rfl, Or.inl rfl⟩, fun _ h => absurd h List.not_mem_nil⟩
theorem wfl_X11_65 : Cond.fieldLink RX11 65 "PenaltyGrid" "shelfSize" "[I" ∈ gT := gT_c1 (i := 224) (by decide +kernel) rfl
theorem gf_X11_65_10 : gFld RX11 65 10 12 := ⟨RX11, TX11, 15, "PenaltyGrid", cls_10, by decide, wfl_X11_65, Or.inl rfl, Or.inr ⟨rfl, rfl⟩⟩
theorem gp_X11_65 : ∀ t ∈ [10], gFld RX11 65 t 12 ∧ gIsR (gFt t 12) = true ∧ ("<init>" = "<init>" ∨ ∀ (C : String) (T : u_T) (N : Nat), vwCl[t]? = some (C, T, N) → (T 12).2.2.2 = false) := List.forall_mem_cons.mpr ⟨⟨gf_X11_65_10, rfl, Or.inl rfl⟩, fun _ h => absurd h List.not_mem_nil⟩
theorem wfl_X11_68 : Cond.fieldLink RX11 68 "PenaltyGrid" "drawnMonths" "[I" ∈ gT := gT_c1 (i := 225) (by decide +kernel) rfl
theorem gf_X11_68_10 : gFld RX11 68 10 13 := ⟨RX11, TX11, 15, "PenaltyGrid", cls_10, by decide, wfl_X11_68, Or.inl rfl, Or.inr ⟨rfl, rfl⟩⟩
theorem gp_X11_68 : ∀ t ∈ [10], gFld RX11 68 t 13 ∧ gIsR (gFt t 13) = true ∧ ("<init>" = "<init>" ∨ ∀ (C : String) (T : u_T) (N : Nat), vwCl[t]? = some (C, T, N) → (T 13).2.2.2 = false) := List.forall_mem_cons.mpr ⟨⟨gf_X11_68_10, rfl, Or.inl rfl⟩, fun _ h => absurd h List.not_mem_nil⟩
theorem wfl_X11_71 : Cond.fieldLink RX11 71 "PenaltyGrid" "halfSums" "[I" ∈ gT := gT_c1 (i := 226) (by decide +kernel) rfl
theorem gf_X11_71_10 : gFld RX11 71 10 14 := ⟨RX11, TX11, 15, "PenaltyGrid", cls_10, by decide, wfl_X11_71, Or.inl rfl, Or.inr ⟨rfl, rfl⟩⟩
theorem gp_X11_71 : ∀ t ∈ [10], gFld RX11 71 t 14 ∧ gIsR (gFt t 14) = true ∧ ("<init>" = "<init>" ∨ ∀ (C : String) (T : u_T) (N : Nat), vwCl[t]? = some (C, T, N) → (T 14).2.2.2 = false) := List.forall_mem_cons.mpr ⟨⟨gf_X11_71_10, rfl, Or.inl rfl⟩, fun _ h => absurd h List.not_mem_nil⟩
theorem gg_X11_49 : ∀ t ∈ [10], gFldG RX11 49 t 7 ∧ gIsR (gFt t 7) = true := List.forall_mem_cons.mpr ⟨⟨gf_X11_49_10.g, rfl⟩, fun _ h => absurd h List.not_mem_nil⟩
theorem wml_X11_74 : Cond.methodLink RX11 74 yJ7_fill_53178 ∈ gT := gT_c1 (i := 209) (by decide +kernel) rfl
theorem gg_X11_56 : ∀ t ∈ [10], gFldG RX11 56 t 9 ∧ gIsR (gFt t 9) = true := List.forall_mem_cons.mpr ⟨⟨gf_X11_56_10.g, rfl⟩, fun _ h => absurd h List.not_mem_nil⟩
theorem wck_X11_44 : Cond.classLink RX11 44 "[[I" ∈ gT := gT_c1 (i := 207) (by decide +kernel) rfl
theorem wck_X11_37 : Cond.classLink RX11 37 RX9 ∈ gT := gT_c1 (i := 187) (by decide +kernel) rfl
theorem wis_X9 : Cond.instantiable RX9 3 ∈ gT := gT_c1 (i := 188) (by decide +kernel) rfl
theorem wck_X11_30 : Cond.classLink RX11 30 RX7 ∈ gT := gT_c1 (i := 185) (by decide +kernel) rfl
theorem wck_X11_23 : Cond.classLink RX11 23 RX5 ∈ gT := gT_c1 (i := 131) (by decide +kernel) rfl
theorem wis_X5 : Cond.instantiable RX5 13 ∈ gT := gT_c1 (i := 132) (by decide +kernel) rfl
theorem wck_X11_7 : Cond.classLink RX11 7 RX1 ∈ gT := gT_c1 (i := 30) (by decide +kernel) rfl
theorem wis_X1 : Cond.instantiable RX1 19 ∈ gT := gT_c1 (i := 31) (by decide +kernel) rfl
theorem wml_X11_1 : Cond.methodLink RX11 1 ⟨"java/lang/Object", "<init>", "()V"⟩ ∈ gT := gT_c1 (i := 27) (by decide +kernel) rfl
theorem gg_X11_10 : ∀ t ∈ [10], gFldG RX11 10 t 0 ∧ gIsR (gFt t 0) = true := List.forall_mem_cons.mpr ⟨⟨gf_X11_10_10.g, rfl⟩, fun _ h => absurd h List.not_mem_nil⟩
theorem wfl_X11_80 : Cond.fieldLink RX11 80 "PenaltyGrid$Docket" "today" "I" ∈ gT := gT_c1 (i := 61) (by decide +kernel) rfl
theorem gf_X11_80_1 : gFld RX11 80 1 0 := ⟨RX1, TX1, 19, "PenaltyGrid$Docket", cls_1, by decide, wfl_X11_80, Or.inl rfl, Or.inl rfl⟩
theorem gg_X11_80 : ∀ t ∈ [1], gFldG RX11 80 t 0 ∧ gIsR (gFt t 0) = false := List.forall_mem_cons.mpr ⟨⟨gf_X11_80_1.g, rfl⟩, fun _ h => absurd h List.not_mem_nil⟩
theorem gp_X11_80 {nm : String} : ∀ t ∈ [1], gFld RX11 80 t 0 ∧ gFt t 0 = .int ∧ (nm = "<init>" ∨ ∀ (C : String) (T : u_T) (N : Nat), vwCl[t]? = some (C, T, N) → (T 0).2.2.2 = false) := List.forall_mem_cons.mpr ⟨⟨gf_X11_80_1, rfl, Or.inr (fun _ _ _ h => by cases h; rfl)⟩, fun _ h => absurd h List.not_mem_nil⟩
theorem wfl_X11_84 : Cond.fieldLink RX11 84 "PenaltyGrid$Docket" "persons" "I" ∈ gT := gT_c1 (i := 63) (by decide +kernel) rfl
theorem gf_X11_84_1 : gFld RX11 84 1 1 := ⟨RX1, TX1, 19, "PenaltyGrid$Docket", cls_1, by decide, wfl_X11_84, Or.inl rfl, Or.inl rfl⟩
theorem gg_X11_84 : ∀ t ∈ [1], gFldG RX11 84 t 1 ∧ gIsR (gFt t 1) = false := List.forall_mem_cons.mpr ⟨⟨gf_X11_84_1.g, rfl⟩, fun _ h => absurd h List.not_mem_nil⟩
theorem wco_X1_addPerson : Cond.code yX1_addPerson cX1_addPerson 2 (some .int) ∈ gT := gT_c2 (i := 29) (by decide +kernel) rfl
theorem mf_X1_addPerson : gMf yX1_addPerson cX1_addPerson 2 (some .int) 1 := ⟨wco_X1_addPerson, win_X1, ⟨by decide +kernel, by decide +kernel⟩, by decide +kernel⟩
theorem wml_X11_87 : Cond.methodLink RX11 87 yX1_addPerson ∈ gT := gT_c2 (i := 26) (by decide +kernel) rfl
theorem wim_X1_addPerson : Cond.instanceMethod yX1_addPerson ∈ gT := gT_c2 (i := 27) (by decide +kernel) rfl
theorem wse_X1_X1_addPerson_X1_addPerson : Cond.selects RX1 yX1_addPerson yX1_addPerson ∈ gT := gT_c2 (i := 28) (by decide +kernel) rfl
theorem wco_X1_isPerson : Cond.code yX1_isPerson cX1_isPerson 2 (some .boolean) ∈ gT := gT_c2 (i := 37) (by decide +kernel) rfl
theorem mf_X1_isPerson : gMf yX1_isPerson cX1_isPerson 2 (some .boolean) 1 := ⟨wco_X1_isPerson, win_X1, ⟨by decide +kernel, by decide +kernel⟩, by decide +kernel⟩
theorem wml_X11_91 : Cond.methodLink RX11 91 yX1_isPerson ∈ gT := gT_c2 (i := 34) (by decide +kernel) rfl
theorem wim_X1_isPerson : Cond.instanceMethod yX1_isPerson ∈ gT := gT_c2 (i := 35) (by decide +kernel) rfl
theorem wse_X1_X1_isPerson_X1_isPerson : Cond.selects RX1 yX1_isPerson yX1_isPerson ∈ gT := gT_c2 (i := 36) (by decide +kernel) rfl
theorem wco_X11_isDay : Cond.code yX11_isDay cX11_isDay 1 (some .boolean) ∈ gT := gT_c2 (i := 40) (by decide +kernel) rfl
theorem win_X11 : Cond.initialized RX11 ∈ gT := gT_c1 (i := 1) (by decide +kernel) rfl
theorem mf_X11_isDay : gMf yX11_isDay cX11_isDay 1 (some .boolean) 1 := ⟨wco_X11_isDay, win_X11, ⟨by decide +kernel, by decide +kernel⟩, by decide +kernel⟩
theorem wml_X11_95 : Cond.methodLink RX11 95 yX11_isDay ∈ gT := gT_c2 (i := 38) (by decide +kernel) rfl
theorem wst_X11_isDay : Cond.static yX11_isDay ∈ gT := gT_c2 (i := 39) (by decide +kernel) rfl
theorem wml_X11_98 : Cond.methodLink RX11 98 yX1_yearsOf ∈ gT := gT_c2 (i := 41) (by decide +kernel) rfl
theorem wfl_X11_102 : Cond.fieldLink RX11 102 "PenaltyGrid$Docket" "deedCount" "I" ∈ gT := gT_c1 (i := 68) (by decide +kernel) rfl
theorem gf_X11_102_1 : gFld RX11 102 1 4 := ⟨RX1, TX1, 19, "PenaltyGrid$Docket", cls_1, by decide, wfl_X11_102, Or.inl rfl, Or.inl rfl⟩
theorem gg_X11_102 : ∀ t ∈ [1], gFldG RX11 102 t 4 ∧ gIsR (gFt t 4) = false := List.forall_mem_cons.mpr ⟨⟨gf_X11_102_1.g, rfl⟩, fun _ h => absurd h List.not_mem_nil⟩
theorem wco_X1_addDeed : Cond.code yX1_addDeed cX1_addDeed 5 (some .int) ∈ gT := gT_c2 (i := 52) (by decide +kernel) rfl
theorem mf_X1_addDeed : gMf yX1_addDeed cX1_addDeed 5 (some .int) 3 := ⟨wco_X1_addDeed, win_X1, ⟨by decide +kernel, by decide +kernel⟩, by decide +kernel⟩
theorem wml_X11_105 : Cond.methodLink RX11 105 yX1_addDeed ∈ gT := gT_c2 (i := 49) (by decide +kernel) rfl
theorem wim_X1_addDeed : Cond.instanceMethod yX1_addDeed ∈ gT := gT_c2 (i := 50) (by decide +kernel) rfl
theorem wse_X1_X1_addDeed_X1_addDeed : Cond.selects RX1 yX1_addDeed yX1_addDeed ∈ gT := gT_c2 (i := 51) (by decide +kernel) rfl
theorem wco_X1_isDeed : Cond.code yX1_isDeed cX1_isDeed 2 (some .boolean) ∈ gT := gT_c2 (i := 117) (by decide +kernel) rfl
theorem mf_X1_isDeed : gMf yX1_isDeed cX1_isDeed 2 (some .boolean) 1 := ⟨wco_X1_isDeed, win_X1, ⟨by decide +kernel, by decide +kernel⟩, by decide +kernel⟩
theorem wml_X11_109 : Cond.methodLink RX11 109 yX1_isDeed ∈ gT := gT_c2 (i := 114) (by decide +kernel) rfl
theorem wim_X1_isDeed : Cond.instanceMethod yX1_isDeed ∈ gT := gT_c2 (i := 115) (by decide +kernel) rfl
theorem wse_X1_X1_isDeed_X1_isDeed : Cond.selects RX1 yX1_isDeed yX1_isDeed ∈ gT := gT_c2 (i := 116) (by decide +kernel) rfl
theorem wco_X11_areFacts : Cond.code yX11_areFacts cX11_areFacts 1 (some .boolean) ∈ gT := gT_c2 (i := 120) (by decide +kernel) rfl
theorem mf_X11_areFacts : gMf yX11_areFacts cX11_areFacts 1 (some .boolean) 1 := ⟨wco_X11_areFacts, win_X11, ⟨by decide +kernel, by decide +kernel⟩, by decide +kernel⟩
theorem wml_X11_112 : Cond.methodLink RX11 112 yX11_areFacts ∈ gT := gT_c2 (i := 118) (by decide +kernel) rfl
theorem wst_X11_areFacts : Cond.static yX11_areFacts ∈ gT := gT_c2 (i := 119) (by decide +kernel) rfl
theorem wfl_X11_115 : Cond.fieldLink RX11 115 "PenaltyGrid$Docket" "findingCount" "I" ∈ gT := gT_c1 (i := 72) (by decide +kernel) rfl
theorem gf_X11_115_1 : gFld RX11 115 1 6 := ⟨RX1, TX1, 19, "PenaltyGrid$Docket", cls_1, by decide, wfl_X11_115, Or.inl rfl, Or.inl rfl⟩
theorem gg_X11_115 : ∀ t ∈ [1], gFldG RX11 115 t 6 ∧ gIsR (gFt t 6) = false := List.forall_mem_cons.mpr ⟨⟨gf_X11_115_1.g, rfl⟩, fun _ h => absurd h List.not_mem_nil⟩
theorem wco_X1_addFinding : Cond.code yX1_addFinding cX1_addFinding 4 (some .int) ∈ gT := gT_c2 (i := 124) (by decide +kernel) rfl
theorem mf_X1_addFinding : gMf yX1_addFinding cX1_addFinding 4 (some .int) 3 := ⟨wco_X1_addFinding, win_X1, ⟨by decide +kernel, by decide +kernel⟩, by decide +kernel⟩
theorem wml_X11_118 : Cond.methodLink RX11 118 yX1_addFinding ∈ gT := gT_c2 (i := 121) (by decide +kernel) rfl
theorem wim_X1_addFinding : Cond.instanceMethod yX1_addFinding ∈ gT := gT_c2 (i := 122) (by decide +kernel) rfl
theorem wse_X1_X1_addFinding_X1_addFinding : Cond.selects RX1 yX1_addFinding yX1_addFinding ∈ gT := gT_c2 (i := 123) (by decide +kernel) rfl
theorem wfl_X11_122 : Cond.fieldLink RX11 122 "PenaltyGrid$Docket" "deeds" "[LPenaltyGrid$Deed;" ∈ gT := gT_c1 (i := 70) (by decide +kernel) rfl
theorem gf_X11_122_1 : gFldG RX11 122 1 5 := ⟨RX1, TX1, 19, "PenaltyGrid$Docket", cls_1, by decide, wfl_X11_122, Or.inl rfl⟩
theorem gg_X11_122 : ∀ t ∈ [1], gFldG RX11 122 t 5 ∧ gIsR (gFt t 5) = true := List.forall_mem_cons.mpr ⟨⟨gf_X11_122_1, rfl⟩, fun _ h => absurd h List.not_mem_nil⟩
theorem wco_X1_termOf : Cond.code yX1_termOf cX1_termOf 4 (some .int) ∈ gT := gT_c2 (i := 164) (by decide +kernel) rfl
theorem mf_X1_termOf : gMf yX1_termOf cX1_termOf 4 (some .int) 2 := ⟨wco_X1_termOf, win_X1, ⟨by decide +kernel, by decide +kernel⟩, by decide +kernel⟩
theorem wml_X11_145 : Cond.methodLink RX11 145 yX1_termOf ∈ gT := gT_c2 (i := 161) (by decide +kernel) rfl
theorem wim_X1_termOf : Cond.instanceMethod yX1_termOf ∈ gT := gT_c2 (i := 162) (by decide +kernel) rfl
theorem wse_X1_X1_termOf_X1_termOf : Cond.selects RX1 yX1_termOf yX1_termOf ∈ gT := gT_c2 (i := 163) (by decide +kernel) rfl
theorem wml_X11_141 : Cond.methodLink RX11 141 yX1_isPleaded ∈ gT := gT_c2 (i := 157) (by decide +kernel) rfl
theorem wml_X11_137 : Cond.methodLink RX11 137 yX1_factsOf ∈ gT := gT_c2 (i := 149) (by decide +kernel) rfl
theorem wfl_X11_134 : Cond.fieldLink RX11 134 "PenaltyGrid$Deed" "day" "I" ∈ gT := gT_c2 (i := 70) (by decide +kernel) rfl
theorem gf_X11_134_0 : gFldG RX11 134 0 3 := ⟨RX0, TX0, 5, "PenaltyGrid$Deed", cls_0, by decide, wfl_X11_134, Or.inl rfl⟩
theorem gf_X11_134_9 : gFldG RX11 134 9 3 := ⟨RX10, TX10, 5, "PenaltyGrid$Deed", cls_9, by decide, wfl_X11_134, Or.inl rfl⟩
theorem gg_X11_134 : ∀ t ∈ [0, 9], gFldG RX11 134 t 3 ∧ gIsR (gFt t 3) = false := List.forall_mem_cons.mpr ⟨⟨gf_X11_134_0, rfl⟩, List.forall_mem_cons.mpr ⟨⟨gf_X11_134_9, rfl⟩, fun _ h => absurd h List.not_mem_nil⟩⟩
theorem wfl_X11_131 : Cond.fieldLink RX11 131 "PenaltyGrid$Deed" "a" "I" ∈ gT := gT_c2 (i := 83) (by decide +kernel) rfl
theorem gf_X11_131_0 : gFldG RX11 131 0 1 := ⟨RX0, TX0, 5, "PenaltyGrid$Deed", cls_0, by decide, wfl_X11_131, Or.inr wsf_X0_a⟩
theorem gf_X11_131_9 : gFldG RX11 131 9 1 := ⟨RX10, TX10, 5, "PenaltyGrid$Deed", cls_9, by decide, wfl_X11_131, Or.inr wsf_X0_a⟩
theorem gg_X11_131 : ∀ t ∈ [0, 9], gFldG RX11 131 t 1 ∧ gIsR (gFt t 1) = false := List.forall_mem_cons.mpr ⟨⟨gf_X11_131_0, rfl⟩, List.forall_mem_cons.mpr ⟨⟨gf_X11_131_9, rfl⟩, fun _ h => absurd h List.not_mem_nil⟩⟩
theorem wfl_X11_126 : Cond.fieldLink RX11 126 "PenaltyGrid$Deed" "person" "I" ∈ gT := gT_c2 (i := 67) (by decide +kernel) rfl
theorem gf_X11_126_0 : gFldG RX11 126 0 2 := ⟨RX0, TX0, 5, "PenaltyGrid$Deed", cls_0, by decide, wfl_X11_126, Or.inl rfl⟩
theorem gf_X11_126_9 : gFldG RX11 126 9 2 := ⟨RX10, TX10, 5, "PenaltyGrid$Deed", cls_9, by decide, wfl_X11_126, Or.inl rfl⟩
theorem gg_X11_126 : ∀ t ∈ [0, 9], gFldG RX11 126 t 2 ∧ gIsR (gFt t 2) = false := List.forall_mem_cons.mpr ⟨⟨gf_X11_126_0, rfl⟩, List.forall_mem_cons.mpr ⟨⟨gf_X11_126_9, rfl⟩, fun _ h => absurd h List.not_mem_nil⟩⟩
theorem gg_X11_26 : ∀ t ∈ [10], gFldG RX11 26 t 3 ∧ gIsR (gFt t 3) = true := List.forall_mem_cons.mpr ⟨⟨gf_X11_26_10.g, rfl⟩, fun _ h => absurd h List.not_mem_nil⟩
theorem wfl_X11_148 : Cond.fieldLink RX11 148 "PenaltyGrid$LawReader" "tapeCount" "I" ∈ gT := gT_c1 (i := 138) (by decide +kernel) rfl
theorem gf_X11_148_5 : gFld RX11 148 5 0 := ⟨RX5, TX5, 13, "PenaltyGrid$LawReader", cls_5, by decide, wfl_X11_148, Or.inl rfl, Or.inl rfl⟩
theorem gg_X11_148 : ∀ t ∈ [5], gFldG RX11 148 t 0 ∧ gIsR (gFt t 0) = false := List.forall_mem_cons.mpr ⟨⟨gf_X11_148_5.g, rfl⟩, fun _ h => absurd h List.not_mem_nil⟩
theorem wco_X5_addByte : Cond.code yX5_addByte cX5_addByte 2 none ∈ gT := gT_c2 (i := 176) (by decide +kernel) rfl
theorem mf_X5_addByte : gMf yX5_addByte cX5_addByte 2 none 1 := ⟨wco_X5_addByte, win_X5, ⟨by decide +kernel, by decide +kernel⟩, by decide +kernel⟩
theorem wml_X11_151 : Cond.methodLink RX11 151 yX5_addByte ∈ gT := gT_c2 (i := 173) (by decide +kernel) rfl
theorem wim_X5_addByte : Cond.instanceMethod yX5_addByte ∈ gT := gT_c2 (i := 174) (by decide +kernel) rfl
theorem wse_X5_X5_addByte_X5_addByte : Cond.selects RX5 yX5_addByte yX5_addByte ∈ gT := gT_c2 (i := 175) (by decide +kernel) rfl
theorem wco_X5_readText : Cond.code yX5_readText cX5_readText 2 (some .boolean) ∈ gT := gT_c2 (i := 184) (by decide +kernel) rfl
theorem mf_X5_readText : gMf yX5_readText cX5_readText 2 (some .boolean) 0 := ⟨wco_X5_readText, win_X5, ⟨by decide +kernel, by decide +kernel⟩, by decide +kernel⟩
theorem wml_X11_155 : Cond.methodLink RX11 155 yX5_readText ∈ gT := gT_c2 (i := 181) (by decide +kernel) rfl
theorem wim_X5_readText : Cond.instanceMethod yX5_readText ∈ gT := gT_c2 (i := 182) (by decide +kernel) rfl
theorem wse_X5_X5_readText_X5_readText : Cond.selects RX5 yX5_readText yX5_readText ∈ gT := gT_c2 (i := 183) (by decide +kernel) rfl
theorem wco_X5_fault : Cond.code yX5_fault cX5_fault 1 (some .int) ∈ gT := gT_c3 (i := 59) (by decide +kernel) rfl
theorem mf_X5_fault : gMf yX5_fault cX5_fault 1 (some .int) 0 := ⟨wco_X5_fault, win_X5, ⟨by decide +kernel, by decide +kernel⟩, by decide +kernel⟩
theorem wml_X11_159 : Cond.methodLink RX11 159 yX5_fault ∈ gT := gT_c3 (i := 56) (by decide +kernel) rfl
theorem wim_X5_fault : Cond.instanceMethod yX5_fault ∈ gT := gT_c3 (i := 57) (by decide +kernel) rfl
theorem wse_X5_X5_fault_X5_fault : Cond.selects RX5 yX5_fault yX5_fault ∈ gT := gT_c3 (i := 58) (by decide +kernel) rfl
theorem gp_X11_148 {nm : String} : ∀ t ∈ [5], gFld RX11 148 t 0 ∧ gFt t 0 = .int ∧ (nm = "<init>" ∨ ∀ (C : String) (T : u_T) (N : Nat), vwCl[t]? = some (C, T, N) → (T 0).2.2.2 = false) := List.forall_mem_cons.mpr ⟨⟨gf_X11_148_5, rfl, Or.inr (fun _ _ _ h => by cases h; rfl)⟩, fun _ h => absurd h List.not_mem_nil⟩
theorem wfl_X11_163 : Cond.fieldLink RX11 163 "PenaltyGrid$Docket" "lawCount" "I" ∈ gT := gT_c1 (i := 76) (by decide +kernel) rfl
theorem gf_X11_163_1 : gFld RX11 163 1 8 := ⟨RX1, TX1, 19, "PenaltyGrid$Docket", cls_1, by decide, wfl_X11_163, Or.inl rfl, Or.inl rfl⟩
theorem gg_X11_163 : ∀ t ∈ [1], gFldG RX11 163 t 8 ∧ gIsR (gFt t 8) = false := List.forall_mem_cons.mpr ⟨⟨gf_X11_163_1.g, rfl⟩, fun _ h => absurd h List.not_mem_nil⟩
theorem wco_X1_addLaw : Cond.code yX1_addLaw cX1_addLaw 2 (some .int) ∈ gT := gT_c3 (i := 63) (by decide +kernel) rfl
theorem mf_X1_addLaw : gMf yX1_addLaw cX1_addLaw 2 (some .int) 1 := ⟨wco_X1_addLaw, win_X1, ⟨by decide +kernel, by decide +kernel⟩, by decide +kernel⟩
theorem wml_X11_166 : Cond.methodLink RX11 166 yX1_addLaw ∈ gT := gT_c3 (i := 60) (by decide +kernel) rfl
theorem wim_X1_addLaw : Cond.instanceMethod yX1_addLaw ∈ gT := gT_c3 (i := 61) (by decide +kernel) rfl
theorem wse_X1_X1_addLaw_X1_addLaw : Cond.selects RX1 yX1_addLaw yX1_addLaw ∈ gT := gT_c3 (i := 62) (by decide +kernel) rfl
theorem wco_X1_isLaw : Cond.code yX1_isLaw cX1_isLaw 2 (some .boolean) ∈ gT := gT_c3 (i := 140) (by decide +kernel) rfl
theorem mf_X1_isLaw : gMf yX1_isLaw cX1_isLaw 2 (some .boolean) 1 := ⟨wco_X1_isLaw, win_X1, ⟨by decide +kernel, by decide +kernel⟩, by decide +kernel⟩
theorem wml_X11_170 : Cond.methodLink RX11 170 yX1_isLaw ∈ gT := gT_c3 (i := 137) (by decide +kernel) rfl
theorem wim_X1_isLaw : Cond.instanceMethod yX1_isLaw ∈ gT := gT_c3 (i := 138) (by decide +kernel) rfl
theorem wse_X1_X1_isLaw_X1_isLaw : Cond.selects RX1 yX1_isLaw yX1_isLaw ∈ gT := gT_c3 (i := 139) (by decide +kernel) rfl
theorem wfl_X11_173 : Cond.fieldLink RX11 173 "PenaltyGrid$Docket" "laws" "[LPenaltyGrid$Law;" ∈ gT := gT_c1 (i := 78) (by decide +kernel) rfl
theorem gf_X11_173_1 : gFldG RX11 173 1 9 := ⟨RX1, TX1, 19, "PenaltyGrid$Docket", cls_1, by decide, wfl_X11_173, Or.inl rfl⟩
theorem gg_X11_173 : ∀ t ∈ [1], gFldG RX11 173 t 9 ∧ gIsR (gFt t 9) = true := List.forall_mem_cons.mpr ⟨⟨gf_X11_173_1, rfl⟩, fun _ h => absurd h List.not_mem_nil⟩
theorem wfl_X11_177 : Cond.fieldLink RX11 177 "PenaltyGrid$Law" "a" "I" ∈ gT := gT_c2 (i := 84) (by decide +kernel) rfl
theorem gf_X11_177_4 : gFldG RX11 177 4 1 := ⟨RX4, TX4, 14, "PenaltyGrid$Law", cls_4, by decide, wfl_X11_177, Or.inr wsf_X4_a⟩
theorem gg_X11_177 : ∀ t ∈ [4], gFldG RX11 177 t 1 ∧ gIsR (gFt t 1) = false := List.forall_mem_cons.mpr ⟨⟨gf_X11_177_4, rfl⟩, fun _ h => absurd h List.not_mem_nil⟩
theorem wfl_X11_184 : Cond.fieldLink RX11 184 "PenaltyGrid$Law" "sorts" "[I" ∈ gT := gT_c3 (i := 94) (by decide +kernel) rfl
theorem gf_X11_184_4 : gFldG RX11 184 4 4 := ⟨RX4, TX4, 14, "PenaltyGrid$Law", cls_4, by decide, wfl_X11_184, Or.inl rfl⟩
theorem gg_X11_184 : ∀ t ∈ [4], gFldG RX11 184 t 4 ∧ gIsR (gFt t 4) = true := List.forall_mem_cons.mpr ⟨⟨gf_X11_184_4, rfl⟩, fun _ h => absurd h List.not_mem_nil⟩
theorem wfl_X11_181 : Cond.fieldLink RX11 181 "PenaltyGrid$Law" "looksBack" "Z" ∈ gT := gT_c3 (i := 91) (by decide +kernel) rfl
theorem gf_X11_181_4 : gFldG RX11 181 4 3 := ⟨RX4, TX4, 14, "PenaltyGrid$Law", cls_4, by decide, wfl_X11_181, Or.inl rfl⟩
theorem gg_X11_181 : ∀ t ∈ [4], gFldG RX11 181 t 3 ∧ gIsR (gFt t 3) = false := List.forall_mem_cons.mpr ⟨⟨gf_X11_181_4, rfl⟩, fun _ h => absurd h List.not_mem_nil⟩
theorem wfl_X11_180 : Cond.fieldLink RX11 180 "PenaltyGrid$Law" "day" "I" ∈ gT := gT_c3 (i := 88) (by decide +kernel) rfl
theorem gf_X11_180_4 : gFldG RX11 180 4 2 := ⟨RX4, TX4, 14, "PenaltyGrid$Law", cls_4, by decide, wfl_X11_180, Or.inl rfl⟩
theorem gg_X11_180 : ∀ t ∈ [4], gFldG RX11 180 t 2 ∧ gIsR (gFt t 2) = false := List.forall_mem_cons.mpr ⟨⟨gf_X11_180_4, rfl⟩, fun _ h => absurd h List.not_mem_nil⟩
theorem wml_X11_187 : Cond.methodLink RX11 187 yX1_lawOf ∈ gT := gT_c3 (i := 145) (by decide +kernel) rfl
theorem wfl_X11_191 : Cond.fieldLink RX11 191 "PenaltyGrid$Law" "n" "I" ∈ gT := gT_c2 (i := 75) (by decide +kernel) rfl
theorem wsf_X4_n : Cond.sameField "PenaltyGrid$Law" "PenaltyGrid$Paper" "n" "I" ∈ gT := gT_c2 (i := 76) (by decide +kernel) rfl
theorem gf_X11_191_4 : gFldG RX11 191 4 0 := ⟨RX4, TX4, 14, "PenaltyGrid$Law", cls_4, by decide, wfl_X11_191, Or.inr wsf_X4_n⟩
theorem gg_X11_191 : ∀ t ∈ [4], gFldG RX11 191 t 0 ∧ gIsR (gFt t 0) = false := List.forall_mem_cons.mpr ⟨⟨gf_X11_191_4, rfl⟩, fun _ h => absurd h List.not_mem_nil⟩
theorem wco_X11_isCase : Cond.code yX11_isCase cX11_isCase 4 (some .boolean) ∈ gT := gT_c3 (i := 156) (by decide +kernel) rfl
theorem mf_X11_isCase : gMf yX11_isCase cX11_isCase 4 (some .boolean) 3 := ⟨wco_X11_isCase, win_X11, ⟨by decide +kernel, by decide +kernel⟩, by decide +kernel⟩
theorem wml_X11_194 : Cond.methodLink RX11 194 yX11_isCase ∈ gT := gT_c3 (i := 153) (by decide +kernel) rfl
theorem wim_X11_isCase : Cond.instanceMethod yX11_isCase ∈ gT := gT_c3 (i := 155) (by decide +kernel) rfl
theorem wse_X11_X11_isCase_X11_isCase : Cond.selects RX11 yX11_isCase yX11_isCase ∈ gT := gT_pr (i := 14) (by decide +kernel) rfl
theorem wml_X11_198 : Cond.methodLink RX11 198 yX1_pointsBy ∈ gT := gT_c3 (i := 157) (by decide +kernel) rfl
theorem wco_X1_graveBy : Cond.code yX1_graveBy cX1_graveBy 4 (some .int) ∈ gT := gT_c3 (i := 168) (by decide +kernel) rfl
theorem mf_X1_graveBy : gMf yX1_graveBy cX1_graveBy 4 (some .int) 3 := ⟨wco_X1_graveBy, win_X1, ⟨by decide +kernel, by decide +kernel⟩, by decide +kernel⟩
theorem wml_X11_202 : Cond.methodLink RX11 202 yX1_graveBy ∈ gT := gT_c3 (i := 165) (by decide +kernel) rfl
theorem wim_X1_graveBy : Cond.instanceMethod yX1_graveBy ∈ gT := gT_c3 (i := 166) (by decide +kernel) rfl
theorem wse_X1_X1_graveBy_X1_graveBy : Cond.selects RX1 yX1_graveBy yX1_graveBy ∈ gT := gT_c3 (i := 167) (by decide +kernel) rfl
theorem wml_X11_205 : Cond.methodLink RX11 205 yX1_rangeBy ∈ gT := gT_c3 (i := 195) (by decide +kernel) rfl
theorem wco_X11_isCourt : Cond.code yX11_isCourt cX11_isCourt 1 (some .boolean) ∈ gT := gT_c3 (i := 210) (by decide +kernel) rfl
theorem mf_X11_isCourt : gMf yX11_isCourt cX11_isCourt 1 (some .boolean) 1 := ⟨wco_X11_isCourt, win_X11, ⟨by decide +kernel, by decide +kernel⟩, by decide +kernel⟩
theorem wml_X11_208 : Cond.methodLink RX11 208 yX11_isCourt ∈ gT := gT_c3 (i := 208) (by decide +kernel) rfl
theorem wst_X11_isCourt : Cond.static yX11_isCourt ∈ gT := gT_c3 (i := 209) (by decide +kernel) rfl
theorem wfl_X11_211 : Cond.fieldLink RX11 211 "PenaltyGrid$Docket" "termCount" "I" ∈ gT := gT_c1 (i := 80) (by decide +kernel) rfl
theorem gf_X11_211_1 : gFld RX11 211 1 10 := ⟨RX1, TX1, 19, "PenaltyGrid$Docket", cls_1, by decide, wfl_X11_211, Or.inl rfl, Or.inl rfl⟩
theorem gg_X11_211 : ∀ t ∈ [1], gFldG RX11 211 t 10 ∧ gIsR (gFt t 10) = false := List.forall_mem_cons.mpr ⟨⟨gf_X11_211_1.g, rfl⟩, fun _ h => absurd h List.not_mem_nil⟩
theorem wco_X1_addTerm : Cond.code yX1_addTerm cX1_addTerm 5 (some .int) ∈ gT := gT_c3 (i := 214) (by decide +kernel) rfl
theorem mf_X1_addTerm : gMf yX1_addTerm cX1_addTerm 5 (some .int) 4 := ⟨wco_X1_addTerm, win_X1, ⟨by decide +kernel, by decide +kernel⟩, by decide +kernel⟩
theorem wml_X11_214 : Cond.methodLink RX11 214 yX1_addTerm ∈ gT := gT_c3 (i := 211) (by decide +kernel) rfl
theorem wim_X1_addTerm : Cond.instanceMethod yX1_addTerm ∈ gT := gT_c3 (i := 212) (by decide +kernel) rfl
theorem wse_X1_X1_addTerm_X1_addTerm : Cond.selects RX1 yX1_addTerm yX1_addTerm ∈ gT := gT_c3 (i := 213) (by decide +kernel) rfl
theorem wco_X1_isTerm : Cond.code yX1_isTerm cX1_isTerm 2 (some .boolean) ∈ gT := gT_c4 (i := 20) (by decide +kernel) rfl
theorem mf_X1_isTerm : gMf yX1_isTerm cX1_isTerm 2 (some .boolean) 1 := ⟨wco_X1_isTerm, win_X1, ⟨by decide +kernel, by decide +kernel⟩, by decide +kernel⟩
theorem wml_X11_218 : Cond.methodLink RX11 218 yX1_isTerm ∈ gT := gT_c4 (i := 17) (by decide +kernel) rfl
theorem wim_X1_isTerm : Cond.instanceMethod yX1_isTerm ∈ gT := gT_c4 (i := 18) (by decide +kernel) rfl
theorem wse_X1_X1_isTerm_X1_isTerm : Cond.selects RX1 yX1_isTerm yX1_isTerm ∈ gT := gT_c4 (i := 19) (by decide +kernel) rfl
theorem wml_X11_221 : Cond.methodLink RX11 221 yX1_stands ∈ gT := gT_c4 (i := 21) (by decide +kernel) rfl
theorem wfl_X11_225 : Cond.fieldLink RX11 225 "PenaltyGrid$Docket" "unwound" "[I" ∈ gT := gT_c1 (i := 84) (by decide +kernel) rfl
theorem gf_X11_225_1 : gFldG RX11 225 1 12 := ⟨RX1, TX1, 19, "PenaltyGrid$Docket", cls_1, by decide, wfl_X11_225, Or.inl rfl⟩
theorem gg_X11_225 : ∀ t ∈ [1], gFldG RX11 225 t 12 ∧ gIsR (gFt t 12) = true := List.forall_mem_cons.mpr ⟨⟨gf_X11_225_1, rfl⟩, fun _ h => absurd h List.not_mem_nil⟩
theorem wco_X1_standing : Cond.code yX1_standing cX1_standing 4 (some .int) ∈ gT := gT_c4 (i := 25) (by decide +kernel) rfl
theorem mf_X1_standing : gMf yX1_standing cX1_standing 4 (some .int) 1 := ⟨wco_X1_standing, win_X1, ⟨by decide +kernel, by decide +kernel⟩, by decide +kernel⟩
theorem wml_X11_228 : Cond.methodLink RX11 228 yX1_standing ∈ gT := gT_c4 (i := 22) (by decide +kernel) rfl
theorem wim_X1_standing : Cond.instanceMethod yX1_standing ∈ gT := gT_c4 (i := 23) (by decide +kernel) rfl
theorem wse_X1_X1_standing_X1_standing : Cond.selects RX1 yX1_standing yX1_standing ∈ gT := gT_c4 (i := 24) (by decide +kernel) rfl
theorem wfl_X11_231 : Cond.fieldLink RX11 231 "PenaltyGrid$Docket" "terms" "[LPenaltyGrid$Term;" ∈ gT := gT_c1 (i := 82) (by decide +kernel) rfl
theorem gf_X11_231_1 : gFldG RX11 231 1 11 := ⟨RX1, TX1, 19, "PenaltyGrid$Docket", cls_1, by decide, wfl_X11_231, Or.inl rfl⟩
theorem gg_X11_231 : ∀ t ∈ [1], gFldG RX11 231 t 11 ∧ gIsR (gFt t 11) = true := List.forall_mem_cons.mpr ⟨⟨gf_X11_231_1, rfl⟩, fun _ h => absurd h List.not_mem_nil⟩
theorem wco_X1_isAmiss : Cond.code yX1_isAmiss cX1_isAmiss 5 (some .boolean) ∈ gT := gT_c4 (i := 33) (by decide +kernel) rfl
theorem mf_X1_isAmiss : gMf yX1_isAmiss cX1_isAmiss 5 (some .boolean) 2 := ⟨wco_X1_isAmiss, win_X1, ⟨by decide +kernel, by decide +kernel⟩, by decide +kernel⟩
theorem wml_X11_235 : Cond.methodLink RX11 235 yX1_isAmiss ∈ gT := gT_c4 (i := 30) (by decide +kernel) rfl
theorem wim_X1_isAmiss : Cond.instanceMethod yX1_isAmiss ∈ gT := gT_c4 (i := 31) (by decide +kernel) rfl
theorem wse_X1_X1_isAmiss_X1_isAmiss : Cond.selects RX1 yX1_isAmiss yX1_isAmiss ∈ gT := gT_c4 (i := 32) (by decide +kernel) rfl
theorem wfl_X11_239 : Cond.fieldLink RX11 239 "PenaltyGrid$Docket" "heldCount" "I" ∈ gT := gT_c1 (i := 86) (by decide +kernel) rfl
theorem gf_X11_239_1 : gFld RX11 239 1 13 := ⟨RX1, TX1, 19, "PenaltyGrid$Docket", cls_1, by decide, wfl_X11_239, Or.inl rfl, Or.inl rfl⟩
theorem gg_X11_239 : ∀ t ∈ [1], gFldG RX11 239 t 13 ∧ gIsR (gFt t 13) = false := List.forall_mem_cons.mpr ⟨⟨gf_X11_239_1.g, rfl⟩, fun _ h => absurd h List.not_mem_nil⟩
theorem wco_X1_addHeld : Cond.code yX1_addHeld cX1_addHeld 4 (some .int) ∈ gT := gT_c4 (i := 43) (by decide +kernel) rfl
theorem mf_X1_addHeld : gMf yX1_addHeld cX1_addHeld 4 (some .int) 3 := ⟨wco_X1_addHeld, win_X1, ⟨by decide +kernel, by decide +kernel⟩, by decide +kernel⟩
theorem wml_X11_242 : Cond.methodLink RX11 242 yX1_addHeld ∈ gT := gT_c4 (i := 40) (by decide +kernel) rfl
theorem wim_X1_addHeld : Cond.instanceMethod yX1_addHeld ∈ gT := gT_c4 (i := 41) (by decide +kernel) rfl
theorem wse_X1_X1_addHeld_X1_addHeld : Cond.selects RX1 yX1_addHeld yX1_addHeld ∈ gT := gT_c4 (i := 42) (by decide +kernel) rfl
theorem wml_X11_245 : Cond.methodLink RX11 245 yX1_creditOf ∈ gT := gT_c4 (i := 48) (by decide +kernel) rfl
theorem wfl_X11_248 : Cond.fieldLink RX11 248 "PenaltyGrid$Docket" "goodDays" "[I" ∈ gT := gT_c1 (i := 66) (by decide +kernel) rfl
theorem gf_X11_248_1 : gFldG RX11 248 1 3 := ⟨RX1, TX1, 19, "PenaltyGrid$Docket", cls_1, by decide, wfl_X11_248, Or.inl rfl⟩
theorem gg_X11_248 : ∀ t ∈ [1], gFldG RX11 248 t 3 ∧ gIsR (gFt t 3) = true := List.forall_mem_cons.mpr ⟨⟨gf_X11_248_1, rfl⟩, fun _ h => absurd h List.not_mem_nil⟩
theorem wco_X1_releaseOf : Cond.code yX1_releaseOf cX1_releaseOf 4 (some .int) ∈ gT := gT_c4 (i := 73) (by decide +kernel) rfl
theorem mf_X1_releaseOf : gMf yX1_releaseOf cX1_releaseOf 4 (some .int) 2 := ⟨wco_X1_releaseOf, win_X1, ⟨by decide +kernel, by decide +kernel⟩, by decide +kernel⟩
theorem wml_X11_251 : Cond.methodLink RX11 251 yX1_releaseOf ∈ gT := gT_c4 (i := 70) (by decide +kernel) rfl
theorem wim_X1_releaseOf : Cond.instanceMethod yX1_releaseOf ∈ gT := gT_c4 (i := 71) (by decide +kernel) rfl
theorem wse_X1_X1_releaseOf_X1_releaseOf : Cond.selects RX1 yX1_releaseOf yX1_releaseOf ∈ gT := gT_c4 (i := 72) (by decide +kernel) rfl
theorem wml_X11_254 : Cond.methodLink RX11 254 yX1_firstPassed ∈ gT := gT_c4 (i := 112) (by decide +kernel) rfl
theorem gg_X11_33 : ∀ t ∈ [10], gFldG RX11 33 t 4 ∧ gIsR (gFt t 4) = true := List.forall_mem_cons.mpr ⟨⟨gf_X11_33_10.g, rfl⟩, fun _ h => absurd h List.not_mem_nil⟩
theorem wml_X11_257 : Cond.methodLink RX11 257 yX1_fillTime ∈ gT := gT_c4 (i := 117) (by decide +kernel) rfl
theorem wfl_X11_261 : Cond.fieldLink RX11 261 "PenaltyGrid$Rows" "count" "I" ∈ gT := gT_c1 (i := 52) (by decide +kernel) rfl
theorem gf_X11_261_6 : gFld RX11 261 6 1 := ⟨RX7, TX7, 2, "PenaltyGrid$Rows", cls_6, by decide, wfl_X11_261, Or.inl rfl, Or.inl rfl⟩
theorem gg_X11_261 : ∀ t ∈ [6], gFldG RX11 261 t 1 ∧ gIsR (gFt t 1) = false := List.forall_mem_cons.mpr ⟨⟨gf_X11_261_6.g, rfl⟩, fun _ h => absurd h List.not_mem_nil⟩
theorem wco_X7_isCell : Cond.code yX7_isCell cX7_isCell 3 (some .boolean) ∈ gT := gT_c4 (i := 125) (by decide +kernel) rfl
theorem mf_X7_isCell : gMf yX7_isCell cX7_isCell 3 (some .boolean) 2 := ⟨wco_X7_isCell, win_X7, ⟨by decide +kernel, by decide +kernel⟩, by decide +kernel⟩
theorem wml_X11_264 : Cond.methodLink RX11 264 yX7_isCell ∈ gT := gT_c4 (i := 122) (by decide +kernel) rfl
theorem wim_X7_isCell : Cond.instanceMethod yX7_isCell ∈ gT := gT_c4 (i := 123) (by decide +kernel) rfl
theorem wse_X7_X7_isCell_X7_isCell : Cond.selects RX7 yX7_isCell yX7_isCell ∈ gT := gT_c4 (i := 124) (by decide +kernel) rfl
theorem wml_X11_267 : Cond.methodLink RX11 267 yX7_get ∈ gT := gT_c4 (i := 126) (by decide +kernel) rfl
theorem wml_X11_270 : Cond.methodLink RX11 270 yX7_set ∈ gT := gT_c4 (i := 131) (by decide +kernel) rfl
theorem wml_X11_283 : Cond.methodLink RX11 283 yX7_latestEnd ∈ gT := gT_c4 (i := 140) (by decide +kernel) rfl
theorem wml_X11_286 : Cond.methodLink RX11 286 yX1_beginOf ∈ gT := gT_c4 (i := 141) (by decide +kernel) rfl
theorem wfl_X11_290 : Cond.fieldLink RX11 290 "PenaltyGrid$Term" "a" "I" ∈ gT := gT_c2 (i := 90) (by decide +kernel) rfl
theorem gf_X11_290_7 : gFldG RX11 290 7 1 := ⟨RX8, TX8, 6, "PenaltyGrid$Term", cls_7, by decide, wfl_X11_290, Or.inr wsf_X8_a⟩
theorem gf_X11_290_2 : gFldG RX11 290 2 1 := ⟨RX2, TX2, 6, "PenaltyGrid$Term", cls_2, by decide, wfl_X11_290, Or.inr wsf_X8_a⟩
theorem gg_X11_290 : ∀ t ∈ [7, 2], gFldG RX11 290 t 1 ∧ gIsR (gFt t 1) = false := List.forall_mem_cons.mpr ⟨⟨gf_X11_290_7, rfl⟩, List.forall_mem_cons.mpr ⟨⟨gf_X11_290_2, rfl⟩, fun _ h => absurd h List.not_mem_nil⟩⟩
theorem wfl_X11_277 : Cond.fieldLink RX11 277 "PenaltyGrid$Term" "deed" "LPenaltyGrid$Deed;" ∈ gT := gT_c3 (i := 226) (by decide +kernel) rfl
theorem gf_X11_277_7 : gFldG RX11 277 7 2 := ⟨RX8, TX8, 6, "PenaltyGrid$Term", cls_7, by decide, wfl_X11_277, Or.inl rfl⟩
theorem gf_X11_277_2 : gFldG RX11 277 2 2 := ⟨RX2, TX2, 6, "PenaltyGrid$Term", cls_2, by decide, wfl_X11_277, Or.inl rfl⟩
theorem gg_X11_277 : ∀ t ∈ [7, 2], gFldG RX11 277 t 2 ∧ gIsR (gFt t 2) = true := List.forall_mem_cons.mpr ⟨⟨gf_X11_277_7, rfl⟩, List.forall_mem_cons.mpr ⟨⟨gf_X11_277_2, rfl⟩, fun _ h => absurd h List.not_mem_nil⟩⟩
theorem wco_X11_isRightRow : Cond.code yX11_isRightRow cX11_isRightRow 5 (some .boolean) ∈ gT := gT_c4 (i := 139) (by decide +kernel) rfl
theorem mf_X11_isRightRow : gMf yX11_isRightRow cX11_isRightRow 5 (some .boolean) 1 := ⟨wco_X11_isRightRow, win_X11, ⟨by decide +kernel, by decide +kernel⟩, by decide +kernel⟩
theorem wml_X11_274 : Cond.methodLink RX11 274 yX11_isRightRow ∈ gT := gT_c4 (i := 136) (by decide +kernel) rfl
theorem wim_X11_isRightRow : Cond.instanceMethod yX11_isRightRow ∈ gT := gT_c4 (i := 138) (by decide +kernel) rfl
theorem wse_X11_X11_isRightRow_X11_isRightRow : Cond.selects RX11 yX11_isRightRow yX11_isRightRow ∈ gT := gT_pr (i := 19) (by decide +kernel) rfl
theorem wct_J6_264 : Cond.constant RJ6 264 (65536) ∈ gT := gT_c4 (i := 166) (by decide +kernel) rfl
theorem gg_X11_71 : ∀ t ∈ [10], gFldG RX11 71 t 14 ∧ gIsR (gFt t 14) = true := List.forall_mem_cons.mpr ⟨⟨gf_X11_71_10.g, rfl⟩, fun _ h => absurd h List.not_mem_nil⟩
theorem gg_X11_68 : ∀ t ∈ [10], gFldG RX11 68 t 13 ∧ gIsR (gFt t 13) = true := List.forall_mem_cons.mpr ⟨⟨gf_X11_68_10.g, rfl⟩, fun _ h => absurd h List.not_mem_nil⟩
theorem wco_J6_numberOfTrailingZeros_0f7a4 : Cond.code yJ6_numberOfTrailingZeros_0f7a4 cJ6_numberOfTrailingZeros_0f7a4 2 (some .int) ∈ gT := gT_c4 (i := 165) (by decide +kernel) rfl
theorem mf_J6_numberOfTrailingZeros_0f7a4 : gMf yJ6_numberOfTrailingZeros_0f7a4 cJ6_numberOfTrailingZeros_0f7a4 2 (some .int) 1 := ⟨wco_J6_numberOfTrailingZeros_0f7a4, win_J6, ⟨by decide +kernel, by decide +kernel⟩, by decide +kernel⟩
theorem wml_X11_311 : Cond.methodLink RX11 311 yJ6_numberOfTrailingZeros_0f7a4 ∈ gT := gT_c4 (i := 163) (by decide +kernel) rfl
theorem wst_J6_numberOfTrailingZeros_0f7a4 : Cond.static yJ6_numberOfTrailingZeros_0f7a4 ∈ gT := gT_c4 (i := 164) (by decide +kernel) rfl
theorem wco_X11_nextSet : Cond.code yX11_nextSet cX11_nextSet 2 (some .int) ∈ gT := gT_c4 (i := 172) (by decide +kernel) rfl
theorem mf_X11_nextSet : gMf yX11_nextSet cX11_nextSet 2 (some .int) 1 := ⟨wco_X11_nextSet, win_X11, ⟨by decide +kernel, by decide +kernel⟩, by decide +kernel⟩
theorem wml_X11_308 : Cond.methodLink RX11 308 yX11_nextSet ∈ gT := gT_c4 (i := 170) (by decide +kernel) rfl
theorem wst_X11_nextSet : Cond.static yX11_nextSet ∈ gT := gT_c4 (i := 171) (by decide +kernel) rfl
theorem wco_X11_fillHalfSums : Cond.code yX11_fillHalfSums cX11_fillHalfSums 5 none ∈ gT := gT_c4 (i := 162) (by decide +kernel) rfl
theorem mf_X11_fillHalfSums : gMf yX11_fillHalfSums cX11_fillHalfSums 5 none 1 := ⟨wco_X11_fillHalfSums, win_X11, ⟨by decide +kernel, by decide +kernel⟩, by decide +kernel⟩
theorem wml_X11_304 : Cond.methodLink RX11 304 yX11_fillHalfSums ∈ gT := gT_c4 (i := 159) (by decide +kernel) rfl
theorem wim_X11_fillHalfSums : Cond.instanceMethod yX11_fillHalfSums ∈ gT := gT_c4 (i := 161) (by decide +kernel) rfl
theorem wse_X11_X11_fillHalfSums_X11_fillHalfSums : Cond.selects RX11 yX11_fillHalfSums yX11_fillHalfSums ∈ gT := gT_pr (i := 21) (by decide +kernel) rfl
theorem wco_X11_ways : Cond.code yX11_ways cX11_ways 4 (some .int) ∈ gT := gT_c4 (i := 169) (by decide +kernel) rfl
theorem mf_X11_ways : gMf yX11_ways cX11_ways 4 (some .int) 2 := ⟨wco_X11_ways, win_X11, ⟨by decide +kernel, by decide +kernel⟩, by decide +kernel⟩
theorem wml_X11_301 : Cond.methodLink RX11 301 yX11_ways ∈ gT := gT_c4 (i := 167) (by decide +kernel) rfl
theorem wst_X11_ways : Cond.static yX11_ways ∈ gT := gT_c4 (i := 168) (by decide +kernel) rfl
theorem wco_X11_waysAtLeast : Cond.code yX11_waysAtLeast cX11_waysAtLeast 10 (some .int) ∈ gT := gT_c4 (i := 158) (by decide +kernel) rfl
theorem mf_X11_waysAtLeast : gMf yX11_waysAtLeast cX11_waysAtLeast 10 (some .int) 3 := ⟨wco_X11_waysAtLeast, win_X11, ⟨by decide +kernel, by decide +kernel⟩, by decide +kernel⟩
theorem wml_X11_298 : Cond.methodLink RX11 298 yX11_waysAtLeast ∈ gT := gT_c4 (i := 155) (by decide +kernel) rfl
theorem wim_X11_waysAtLeast : Cond.instanceMethod yX11_waysAtLeast ∈ gT := gT_c4 (i := 157) (by decide +kernel) rfl
theorem wse_X11_X11_waysAtLeast_X11_waysAtLeast : Cond.selects RX11 yX11_waysAtLeast yX11_waysAtLeast ∈ gT := gT_pr (i := 20) (by decide +kernel) rfl
theorem wct_X11_297 : Cond.constant RX11 297 (1000000) ∈ gT := gT_c4 (i := 154) (by decide +kernel) rfl
theorem wco_X8_isDrawn : Cond.code yX8_isDrawn cX8_isDrawn 1 (some .boolean) ∈ gT := gT_c4 (i := 153) (by decide +kernel) rfl
theorem mf_X8_isDrawn : gMf yX8_isDrawn cX8_isDrawn 1 (some .boolean) 0 := ⟨wco_X8_isDrawn, win_X8, ⟨by decide +kernel, by decide +kernel⟩, by decide +kernel⟩
theorem wml_X11_291 : Cond.methodLink RX11 291 yX8_isDrawn ∈ gT := gT_c4 (i := 146) (by decide +kernel) rfl
theorem wsm_X8_isDrawn_X8 : Cond.sameMethod RX8 "PenaltyGrid$Term" "isDrawn" "()Z" ∈ gT := gT_c4 (i := 149) (by decide +kernel) rfl
theorem wse_X8_X8_isDrawn_X8_isDrawn : Cond.selects RX8 yX8_isDrawn yX8_isDrawn ∈ gT := gT_c4 (i := 148) (by decide +kernel) rfl
theorem wim_X8_isDrawn : Cond.instanceMethod yX8_isDrawn ∈ gT := gT_c4 (i := 147) (by decide +kernel) rfl
theorem wnp_X8_isDrawn : (parseMethodDescriptor (yX8_isDrawn : MethodName).desc).map (fun d => d.parameters.length) = some 0 := by decide +kernel
theorem wco_X2_isDrawn : Cond.code yX2_isDrawn cX2_isDrawn 1 (some .boolean) ∈ gT := gT_c4 (i := 152) (by decide +kernel) rfl
theorem mf_X2_isDrawn : gMf yX2_isDrawn cX2_isDrawn 1 (some .boolean) 0 := ⟨wco_X2_isDrawn, win_X2, ⟨by decide +kernel, by decide +kernel⟩, by decide +kernel⟩
theorem wse_X2_X8_isDrawn_X2_isDrawn : Cond.selects RX2 yX8_isDrawn yX2_isDrawn ∈ gT := gT_c4 (i := 150) (by decide +kernel) rfl
theorem wim_X2_isDrawn : Cond.instanceMethod yX2_isDrawn ∈ gT := gT_c4 (i := 151) (by decide +kernel) rfl
theorem wfl_X11_294 : Cond.fieldLink RX11 294 "PenaltyGrid$Term" "court" "I" ∈ gT := gT_c3 (i := 228) (by decide +kernel) rfl
theorem gf_X11_294_7 : gFldG RX11 294 7 3 := ⟨RX8, TX8, 6, "PenaltyGrid$Term", cls_7, by decide, wfl_X11_294, Or.inl rfl⟩
theorem gf_X11_294_2 : gFldG RX11 294 2 3 := ⟨RX2, TX2, 6, "PenaltyGrid$Term", cls_2, by decide, wfl_X11_294, Or.inl rfl⟩
theorem gg_X11_294 : ∀ t ∈ [7, 2], gFldG RX11 294 t 3 ∧ gIsR (gFt t 3) = false := List.forall_mem_cons.mpr ⟨⟨gf_X11_294_7, rfl⟩, List.forall_mem_cons.mpr ⟨⟨gf_X11_294_2, rfl⟩, fun _ h => absurd h List.not_mem_nil⟩⟩
theorem wco_X1_apart : Cond.code yX1_apart cX1_apart 5 (some .int) ∈ gT := gT_c4 (i := 184) (by decide +kernel) rfl
theorem mf_X1_apart : gMf yX1_apart cX1_apart 5 (some .int) 3 := ⟨wco_X1_apart, win_X1, ⟨by decide +kernel, by decide +kernel⟩, by decide +kernel⟩
theorem wml_X11_316 : Cond.methodLink RX11 316 yX1_apart ∈ gT := gT_c4 (i := 181) (by decide +kernel) rfl
theorem wim_X1_apart : Cond.instanceMethod yX1_apart ∈ gT := gT_c4 (i := 182) (by decide +kernel) rfl
theorem wse_X1_X1_apart_X1_apart : Cond.selects RX1 yX1_apart yX1_apart ∈ gT := gT_c4 (i := 183) (by decide +kernel) rfl
theorem wco_X11_isSheet : Cond.code yX11_isSheet cX11_isSheet 1 (some .boolean) ∈ gT := gT_c4 (i := 204) (by decide +kernel) rfl
theorem mf_X11_isSheet : gMf yX11_isSheet cX11_isSheet 1 (some .boolean) 1 := ⟨wco_X11_isSheet, win_X11, ⟨by decide +kernel, by decide +kernel⟩, by decide +kernel⟩
theorem wml_X11_320 : Cond.methodLink RX11 320 yX11_isSheet ∈ gT := gT_c4 (i := 202) (by decide +kernel) rfl
theorem wst_X11_isSheet : Cond.static yX11_isSheet ∈ gT := gT_c4 (i := 203) (by decide +kernel) rfl
theorem wco_X11_isSort : Cond.code yX11_isSort cX11_isSort 1 (some .boolean) ∈ gT := gT_c4 (i := 207) (by decide +kernel) rfl
theorem mf_X11_isSort : gMf yX11_isSort cX11_isSort 1 (some .boolean) 1 := ⟨wco_X11_isSort, win_X11, ⟨by decide +kernel, by decide +kernel⟩, by decide +kernel⟩
theorem wml_X11_323 : Cond.methodLink RX11 323 yX11_isSort ∈ gT := gT_c4 (i := 205) (by decide +kernel) rfl
theorem wst_X11_isSort : Cond.static yX11_isSort ∈ gT := gT_c4 (i := 206) (by decide +kernel) rfl
theorem gg_X11_53 : ∀ t ∈ [10], gFldG RX11 53 t 8 ∧ gIsR (gFt t 8) = true := List.forall_mem_cons.mpr ⟨⟨gf_X11_53_10.g, rfl⟩, fun _ h => absurd h List.not_mem_nil⟩
theorem gg_X11_46 : ∀ t ∈ [10], gFldG RX11 46 t 6 ∧ gIsR (gFt t 6) = true := List.forall_mem_cons.mpr ⟨⟨gf_X11_46_10.g, rfl⟩, fun _ h => absurd h List.not_mem_nil⟩
theorem wco_X11_narrowed : Cond.code yX11_narrowed cX11_narrowed 2 (some .int) ∈ gT := gT_c4 (i := 214) (by decide +kernel) rfl
theorem mf_X11_narrowed : gMf yX11_narrowed cX11_narrowed 2 (some .int) 2 := ⟨wco_X11_narrowed, win_X11, ⟨by decide +kernel, by decide +kernel⟩, by decide +kernel⟩
theorem wml_X11_326 : Cond.methodLink RX11 326 yX11_narrowed ∈ gT := gT_c4 (i := 212) (by decide +kernel) rfl
theorem wst_X11_narrowed : Cond.static yX11_narrowed ∈ gT := gT_c4 (i := 213) (by decide +kernel) rfl
theorem wco_X11_refusalAs : Cond.code yX11_refusalAs cX11_refusalAs 3 (some .int) ∈ gT := gT_c4 (i := 222) (by decide +kernel) rfl
theorem mf_X11_refusalAs : gMf yX11_refusalAs cX11_refusalAs 3 (some .int) 2 := ⟨wco_X11_refusalAs, win_X11, ⟨by decide +kernel, by decide +kernel⟩, by decide +kernel⟩
theorem wml_X11_329 : Cond.methodLink RX11 329 yX11_refusalAs ∈ gT := gT_c4 (i := 219) (by decide +kernel) rfl
theorem wim_X11_refusalAs : Cond.instanceMethod yX11_refusalAs ∈ gT := gT_c4 (i := 221) (by decide +kernel) rfl
theorem wse_X11_X11_refusalAs_X11_refusalAs : Cond.selects RX11 yX11_refusalAs yX11_refusalAs ∈ gT := gT_pr (i := 23) (by decide +kernel) rfl
theorem wco_X1_isFinding : Cond.code yX1_isFinding cX1_isFinding 2 (some .boolean) ∈ gT := gT_c5 (i := 1) (by decide +kernel) rfl
theorem mf_X1_isFinding : gMf yX1_isFinding cX1_isFinding 2 (some .boolean) 1 := ⟨wco_X1_isFinding, win_X1, ⟨by decide +kernel, by decide +kernel⟩, by decide +kernel⟩
theorem wml_X11_375 : Cond.methodLink RX11 375 yX1_isFinding ∈ gT := gT_c4 (i := 238) (by decide +kernel) rfl
theorem wim_X1_isFinding : Cond.instanceMethod yX1_isFinding ∈ gT := gT_c4 (i := 239) (by decide +kernel) rfl
theorem wse_X1_X1_isFinding_X1_isFinding : Cond.selects RX1 yX1_isFinding yX1_isFinding ∈ gT := gT_c5 (i := 0) (by decide +kernel) rfl
theorem gg_X11_62 : ∀ t ∈ [10], gFldG RX11 62 t 11 ∧ gIsR (gFt t 11) = true := List.forall_mem_cons.mpr ⟨⟨gf_X11_62_10.g, rfl⟩, fun _ h => absurd h List.not_mem_nil⟩
theorem gg_X11_65 : ∀ t ∈ [10], gFldG RX11 65 t 12 ∧ gIsR (gFt t 12) = true := List.forall_mem_cons.mpr ⟨⟨gf_X11_65_10.g, rfl⟩, fun _ h => absurd h List.not_mem_nil⟩
theorem wco_X11_isShelf : Cond.code yX11_isShelf cX11_isShelf 1 (some .boolean) ∈ gT := gT_c4 (i := 233) (by decide +kernel) rfl
theorem mf_X11_isShelf : gMf yX11_isShelf cX11_isShelf 1 (some .boolean) 1 := ⟨wco_X11_isShelf, win_X11, ⟨by decide +kernel, by decide +kernel⟩, by decide +kernel⟩
theorem wml_X11_332 : Cond.methodLink RX11 332 yX11_isShelf ∈ gT := gT_c4 (i := 231) (by decide +kernel) rfl
theorem wst_X11_isShelf : Cond.static yX11_isShelf ∈ gT := gT_c4 (i := 232) (by decide +kernel) rfl
theorem wco_X11_isThing : Cond.code yX11_isThing cX11_isThing 3 (some .boolean) ∈ gT := gT_c4 (i := 237) (by decide +kernel) rfl
theorem mf_X11_isThing : gMf yX11_isThing cX11_isThing 3 (some .boolean) 2 := ⟨wco_X11_isThing, win_X11, ⟨by decide +kernel, by decide +kernel⟩, by decide +kernel⟩
theorem wml_X11_335 : Cond.methodLink RX11 335 yX11_isThing ∈ gT := gT_c4 (i := 234) (by decide +kernel) rfl
theorem wim_X11_isThing : Cond.instanceMethod yX11_isThing ∈ gT := gT_c4 (i := 236) (by decide +kernel) rfl
theorem wse_X11_X11_isThing_X11_isThing : Cond.selects RX11 yX11_isThing yX11_isThing ∈ gT := gT_pr (i := 24) (by decide +kernel) rfl
theorem gg_X11_59 : ∀ t ∈ [10], gFldG RX11 59 t 10 ∧ gIsR (gFt t 10) = true := List.forall_mem_cons.mpr ⟨⟨gf_X11_59_10.g, rfl⟩, fun _ h => absurd h List.not_mem_nil⟩
theorem wfl_X11_378 : Cond.fieldLink RX11 378 "PenaltyGrid$Docket" "findings" "[LPenaltyGrid$Finding;" ∈ gT := gT_c1 (i := 74) (by decide +kernel) rfl
theorem gf_X11_378_1 : gFldG RX11 378 1 7 := ⟨RX1, TX1, 19, "PenaltyGrid$Docket", cls_1, by decide, wfl_X11_378, Or.inl rfl⟩
theorem gg_X11_378 : ∀ t ∈ [1], gFldG RX11 378 t 7 ∧ gIsR (gFt t 7) = true := List.forall_mem_cons.mpr ⟨⟨gf_X11_378_1, rfl⟩, fun _ h => absurd h List.not_mem_nil⟩
theorem wck_X11_178 : Cond.classLink RX11 178 RX4 ∈ gT := gT_c5 (i := 21) (by decide +kernel) rfl
theorem wck_X11_386 : Cond.classLink RX11 386 RX2 ∈ gT := gT_c5 (i := 20) (by decide +kernel) rfl
theorem wck_X11_278 : Cond.classLink RX11 278 RX8 ∈ gT := gT_c5 (i := 19) (by decide +kernel) rfl
theorem wck_X11_384 : Cond.classLink RX11 384 RX3 ∈ gT := gT_c5 (i := 18) (by decide +kernel) rfl
theorem wck_X11_382 : Cond.classLink RX11 382 RX10 ∈ gT := gT_c5 (i := 17) (by decide +kernel) rfl
theorem wck_X11_127 : Cond.classLink RX11 127 RX0 ∈ gT := gT_c5 (i := 16) (by decide +kernel) rfl
theorem wco_X11_paperOn : Cond.code yX11_paperOn cX11_paperOn 3 (some (.object "PenaltyGrid$Paper")) ∈ gT := gT_c5 (i := 12) (by decide +kernel) rfl
theorem mf_X11_paperOn : gMf yX11_paperOn cX11_paperOn 3 (some (.object "PenaltyGrid$Paper")) 1 := ⟨wco_X11_paperOn, win_X11, ⟨by decide +kernel, by decide +kernel⟩, by decide +kernel⟩
theorem wml_X11_341 : Cond.methodLink RX11 341 yX11_paperOn ∈ gT := gT_c5 (i := 9) (by decide +kernel) rfl
theorem wim_X11_paperOn : Cond.instanceMethod yX11_paperOn ∈ gT := gT_c5 (i := 11) (by decide +kernel) rfl
theorem wse_X11_X11_paperOn_X11_paperOn : Cond.selects RX11 yX11_paperOn yX11_paperOn ∈ gT := gT_pr (i := 25) (by decide +kernel) rfl
theorem wco_X11_isPaperKind : Cond.code yX11_isPaperKind cX11_isPaperKind 1 (some .boolean) ∈ gT := gT_c5 (i := 8) (by decide +kernel) rfl
theorem mf_X11_isPaperKind : gMf yX11_isPaperKind cX11_isPaperKind 1 (some .boolean) 1 := ⟨wco_X11_isPaperKind, win_X11, ⟨by decide +kernel, by decide +kernel⟩, by decide +kernel⟩
theorem wml_X11_338 : Cond.methodLink RX11 338 yX11_isPaperKind ∈ gT := gT_c5 (i := 6) (by decide +kernel) rfl
theorem wst_X11_isPaperKind : Cond.static yX11_isPaperKind ∈ gT := gT_c5 (i := 7) (by decide +kernel) rfl
theorem wco_X11_isOfKind : Cond.code yX11_isOfKind cX11_isOfKind 2 (some .boolean) ∈ gT := gT_c5 (i := 15) (by decide +kernel) rfl
theorem mf_X11_isOfKind : gMf yX11_isOfKind cX11_isOfKind 2 (some .boolean) 2 := ⟨wco_X11_isOfKind, win_X11, ⟨by decide +kernel, by decide +kernel⟩, by decide +kernel⟩
theorem wml_X11_345 : Cond.methodLink RX11 345 yX11_isOfKind ∈ gT := gT_c5 (i := 13) (by decide +kernel) rfl
theorem wst_X11_isOfKind : Cond.static yX11_isOfKind ∈ gT := gT_c5 (i := 14) (by decide +kernel) rfl
theorem wfl_X11_349 : Cond.fieldLink RX11 349 "PenaltyGrid$Paper" "n" "I" ∈ gT := gT_c2 (i := 77) (by decide +kernel) rfl
theorem gf_X11_349_0 : gFldG RX11 349 0 0 := ⟨RX0, TX0, 5, "PenaltyGrid$Paper", cls_0, by decide, wfl_X11_349, Or.inl rfl⟩
theorem gf_X11_349_2 : gFldG RX11 349 2 0 := ⟨RX2, TX2, 6, "PenaltyGrid$Paper", cls_2, by decide, wfl_X11_349, Or.inl rfl⟩
theorem gf_X11_349_3 : gFldG RX11 349 3 0 := ⟨RX3, TX3, 5, "PenaltyGrid$Paper", cls_3, by decide, wfl_X11_349, Or.inl rfl⟩
theorem gf_X11_349_4 : gFldG RX11 349 4 0 := ⟨RX4, TX4, 14, "PenaltyGrid$Paper", cls_4, by decide, wfl_X11_349, Or.inl rfl⟩
theorem gf_X11_349_7 : gFldG RX11 349 7 0 := ⟨RX8, TX8, 6, "PenaltyGrid$Paper", cls_7, by decide, wfl_X11_349, Or.inl rfl⟩
theorem gf_X11_349_9 : gFldG RX11 349 9 0 := ⟨RX10, TX10, 5, "PenaltyGrid$Paper", cls_9, by decide, wfl_X11_349, Or.inl rfl⟩
theorem gg_X11_349 : ∀ t ∈ [0, 2, 3, 4, 7, 9], gFldG RX11 349 t 0 ∧ gIsR (gFt t 0) = false := List.forall_mem_cons.mpr ⟨⟨gf_X11_349_0, rfl⟩, List.forall_mem_cons.mpr ⟨⟨gf_X11_349_2, rfl⟩, List.forall_mem_cons.mpr ⟨⟨gf_X11_349_3, rfl⟩, List.forall_mem_cons.mpr ⟨⟨gf_X11_349_4, rfl⟩, List.forall_mem_cons.mpr ⟨⟨gf_X11_349_7, rfl⟩, List.forall_mem_cons.mpr ⟨⟨gf_X11_349_9, rfl⟩, fun _ h => absurd h List.not_mem_nil⟩⟩⟩⟩⟩⟩
theorem gg_X11_40 : ∀ t ∈ [10], gFldG RX11 40 t 5 ∧ gIsR (gFt t 5) = true := List.forall_mem_cons.mpr ⟨⟨gf_X11_40_10.g, rfl⟩, fun _ h => absurd h List.not_mem_nil⟩
theorem wfl_X11_368 : Cond.fieldLink RX11 368 "PenaltyGrid$Trace" "isParted" "Z" ∈ gT := gT_c1 (i := 199) (by decide +kernel) rfl
theorem gf_X11_368_8 : gFld RX11 368 8 2 := ⟨RX9, TX9, 3, "PenaltyGrid$Trace", cls_8, by decide, wfl_X11_368, Or.inl rfl, Or.inl rfl⟩
theorem gg_X11_368 : ∀ t ∈ [8], gFldG RX11 368 t 2 ∧ gIsR (gFt t 2) = false := List.forall_mem_cons.mpr ⟨⟨gf_X11_368_8.g, rfl⟩, fun _ h => absurd h List.not_mem_nil⟩
theorem wco_X9_clear : Cond.code yX9_clear cX9_clear 1 none ∈ gT := gT_c5 (i := 29) (by decide +kernel) rfl
theorem mf_X9_clear : gMf yX9_clear cX9_clear 1 none 0 := ⟨wco_X9_clear, win_X9, ⟨by decide +kernel, by decide +kernel⟩, by decide +kernel⟩
theorem wml_X11_352 : Cond.methodLink RX11 352 yX9_clear ∈ gT := gT_c5 (i := 26) (by decide +kernel) rfl
theorem wim_X9_clear : Cond.instanceMethod yX9_clear ∈ gT := gT_c5 (i := 27) (by decide +kernel) rfl
theorem wse_X9_X9_clear_X9_clear : Cond.selects RX9 yX9_clear yX9_clear ∈ gT := gT_c5 (i := 28) (by decide +kernel) rfl
theorem wml_X11_365 : Cond.methodLink RX11 365 yX6_tells ∈ gT := gT_c5 (i := 98) (by decide +kernel) rfl
theorem wse_X0_X6_tells_X6_tells : Cond.selects RX0 yX6_tells yX6_tells ∈ gT := gT_c5 (i := 101) (by decide +kernel) rfl
theorem wnp_X6_tells : (parseMethodDescriptor (yX6_tells : MethodName).desc).map (fun d => d.parameters.length) = some 2 := by decide +kernel
theorem wse_X2_X6_tells_X6_tells : Cond.selects RX2 yX6_tells yX6_tells ∈ gT := gT_c5 (i := 102) (by decide +kernel) rfl
theorem wco_X3_tells : Cond.code yX3_tells cX3_tells 3 (some .int) ∈ gT := gT_c5 (i := 105) (by decide +kernel) rfl
theorem mf_X3_tells : gMf yX3_tells cX3_tells 3 (some .int) 2 := ⟨wco_X3_tells, win_X3, ⟨by decide +kernel, by decide +kernel⟩, by decide +kernel⟩
theorem wse_X3_X6_tells_X3_tells : Cond.selects RX3 yX6_tells yX3_tells ∈ gT := gT_c5 (i := 103) (by decide +kernel) rfl
theorem wim_X3_tells : Cond.instanceMethod yX3_tells ∈ gT := gT_c5 (i := 104) (by decide +kernel) rfl
theorem wco_X4_tells : Cond.code yX4_tells cX4_tells 3 (some .int) ∈ gT := gT_c5 (i := 109) (by decide +kernel) rfl
theorem mf_X4_tells : gMf yX4_tells cX4_tells 3 (some .int) 2 := ⟨wco_X4_tells, win_X4, ⟨by decide +kernel, by decide +kernel⟩, by decide +kernel⟩
theorem wse_X4_X6_tells_X4_tells : Cond.selects RX4 yX6_tells yX4_tells ∈ gT := gT_c5 (i := 107) (by decide +kernel) rfl
theorem wim_X4_tells : Cond.instanceMethod yX4_tells ∈ gT := gT_c5 (i := 108) (by decide +kernel) rfl
theorem wse_X8_X6_tells_X6_tells : Cond.selects RX8 yX6_tells yX6_tells ∈ gT := gT_c5 (i := 115) (by decide +kernel) rfl
theorem wse_X10_X6_tells_X6_tells : Cond.selects RX10 yX6_tells yX6_tells ∈ gT := gT_c5 (i := 116) (by decide +kernel) rfl
theorem wml_X11_362 : Cond.methodLink RX11 362 yX6_parts ∈ gT := gT_c5 (i := 79) (by decide +kernel) rfl
theorem wse_X0_X6_parts_X6_parts : Cond.selects RX0 yX6_parts yX6_parts ∈ gT := gT_c5 (i := 82) (by decide +kernel) rfl
theorem wnp_X6_parts : (parseMethodDescriptor (yX6_parts : MethodName).desc).map (fun d => d.parameters.length) = some 2 := by decide +kernel
theorem wco_X2_parts : Cond.code yX2_parts cX2_parts 3 (some .int) ∈ gT := gT_c5 (i := 85) (by decide +kernel) rfl
theorem mf_X2_parts : gMf yX2_parts cX2_parts 3 (some .int) 2 := ⟨wco_X2_parts, win_X2, ⟨by decide +kernel, by decide +kernel⟩, by decide +kernel⟩
theorem wse_X2_X6_parts_X2_parts : Cond.selects RX2 yX6_parts yX2_parts ∈ gT := gT_c5 (i := 83) (by decide +kernel) rfl
theorem wim_X2_parts : Cond.instanceMethod yX2_parts ∈ gT := gT_c5 (i := 84) (by decide +kernel) rfl
theorem wco_X3_parts : Cond.code yX3_parts cX3_parts 3 (some .int) ∈ gT := gT_c5 (i := 91) (by decide +kernel) rfl
theorem mf_X3_parts : gMf yX3_parts cX3_parts 3 (some .int) 2 := ⟨wco_X3_parts, win_X3, ⟨by decide +kernel, by decide +kernel⟩, by decide +kernel⟩
theorem wse_X3_X6_parts_X3_parts : Cond.selects RX3 yX6_parts yX3_parts ∈ gT := gT_c5 (i := 89) (by decide +kernel) rfl
theorem wim_X3_parts : Cond.instanceMethod yX3_parts ∈ gT := gT_c5 (i := 90) (by decide +kernel) rfl
theorem wse_X4_X6_parts_X6_parts : Cond.selects RX4 yX6_parts yX6_parts ∈ gT := gT_c5 (i := 94) (by decide +kernel) rfl
theorem wse_X8_X6_parts_X6_parts : Cond.selects RX8 yX6_parts yX6_parts ∈ gT := gT_c5 (i := 95) (by decide +kernel) rfl
theorem wse_X10_X6_parts_X6_parts : Cond.selects RX10 yX6_parts yX6_parts ∈ gT := gT_c5 (i := 96) (by decide +kernel) rfl
theorem wml_X11_359 : Cond.methodLink RX11 359 yX6_bars ∈ gT := gT_c5 (i := 54) (by decide +kernel) rfl
theorem wml_X11_355 : Cond.methodLink RX11 355 yX6_weighs ∈ gT := gT_c5 (i := 30) (by decide +kernel) rfl
theorem wfl_X11_371 : Cond.fieldLink RX11 371 "PenaltyGrid$Trace" "count" "I" ∈ gT := gT_c1 (i := 196) (by decide +kernel) rfl
theorem gf_X11_371_8 : gFld RX11 371 8 1 := ⟨RX9, TX9, 3, "PenaltyGrid$Trace", cls_8, by decide, wfl_X11_371, Or.inl rfl, Or.inl rfl⟩
theorem gg_X11_371 : ∀ t ∈ [8], gFldG RX11 371 t 1 ∧ gIsR (gFt t 1) = false := List.forall_mem_cons.mpr ⟨⟨gf_X11_371_8.g, rfl⟩, fun _ h => absurd h List.not_mem_nil⟩
theorem wfl_X11_372 : Cond.fieldLink RX11 372 "PenaltyGrid$Trace" "numbers" "[I" ∈ gT := gT_c1 (i := 194) (by decide +kernel) rfl
theorem gf_X11_372_8 : gFldG RX11 372 8 0 := ⟨RX9, TX9, 3, "PenaltyGrid$Trace", cls_8, by decide, wfl_X11_372, Or.inl rfl⟩
theorem gg_X11_372 : ∀ t ∈ [8], gFldG RX11 372 t 0 ∧ gIsR (gFt t 0) = true := List.forall_mem_cons.mpr ⟨⟨gf_X11_372_8, rfl⟩, fun _ h => absurd h List.not_mem_nil⟩
theorem gg_X11_16 : ∀ t ∈ [10], gFldG RX11 16 t 1 ∧ gIsR (gFt t 1) = true := List.forall_mem_cons.mpr ⟨⟨gf_X11_16_10.g, rfl⟩, fun _ h => absurd h List.not_mem_nil⟩
theorem wco_X1_become : Cond.code yX1_become cX1_become 3 none ∈ gT := gT_c5 (i := 134) (by decide +kernel) rfl
theorem mf_X1_become : gMf yX1_become cX1_become 3 none 1 := ⟨wco_X1_become, win_X1, ⟨by decide +kernel, by decide +kernel⟩, by decide +kernel⟩
theorem wml_X11_388 : Cond.methodLink RX11 388 yX1_become ∈ gT := gT_c5 (i := 131) (by decide +kernel) rfl
theorem wim_X1_become : Cond.instanceMethod yX1_become ∈ gT := gT_c5 (i := 132) (by decide +kernel) rfl
theorem wse_X1_X1_become_X1_become : Cond.selects RX1 yX1_become yX1_become ∈ gT := gT_c5 (i := 133) (by decide +kernel) rfl
theorem gg_X11_19 : ∀ t ∈ [10], gFldG RX11 19 t 2 ∧ gIsR (gFt t 2) = false := List.forall_mem_cons.mpr ⟨⟨gf_X11_19_10.g, rfl⟩, fun _ h => absurd h List.not_mem_nil⟩

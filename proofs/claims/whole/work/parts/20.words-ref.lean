theorem wim_obj : Cond.instanceMethod objectInit ∈ gT := gT_tb (i := 28) (by decide +kernel) rfl
theorem wco_obj : Cond.code objectInit ⟨#[0xb1]⟩ 1 none ∈ gT := gT_tb (i := 29) (by decide +kernel) rfl
theorem wly_X12_0 : u_lay RX12 TX12 0 ∈ gT := gT_tb (i := 1151) (by decide +kernel) rfl
theorem wly_X12_1 : u_lay RX12 TX12 1 ∈ gT := gT_tb (i := 1153) (by decide +kernel) rfl
theorem wly_X12_2 : u_lay RX12 TX12 2 ∈ gT := gT_tb (i := 1155) (by decide +kernel) rfl
theorem wly_X12_3 : u_lay RX12 TX12 3 ∈ gT := gT_tb (i := 1157) (by decide +kernel) rfl
theorem wly_X12_4 : u_lay RX12 TX12 4 ∈ gT := gT_tb (i := 1159) (by decide +kernel) rfl
theorem wly_X12_5 : u_lay RX12 TX12 5 ∈ gT := gT_tb (i := 1161) (by decide +kernel) rfl
theorem wly_X12_6 : u_lay RX12 TX12 6 ∈ gT := gT_tb (i := 1163) (by decide +kernel) rfl
theorem wly_X12_7 : u_lay RX12 TX12 7 ∈ gT := gT_tb (i := 1165) (by decide +kernel) rfl
theorem wly_X12_8 : u_lay RX12 TX12 8 ∈ gT := gT_tb (i := 1167) (by decide +kernel) rfl
theorem wly_X12_9 : u_lay RX12 TX12 9 ∈ gT := gT_tb (i := 1169) (by decide +kernel) rfl
theorem wly_X12_10 : u_lay RX12 TX12 10 ∈ gT := gT_tb (i := 1171) (by decide +kernel) rfl
theorem wly_X12_11 : u_lay RX12 TX12 11 ∈ gT := gT_tb (i := 1173) (by decide +kernel) rfl
theorem wly_X12_12 : u_lay RX12 TX12 12 ∈ gT := gT_tb (i := 1175) (by decide +kernel) rfl
theorem wly_X12_13 : u_lay RX12 TX12 13 ∈ gT := gT_tb (i := 1177) (by decide +kernel) rfl
theorem wly_X12_14 : u_lay RX12 TX12 14 ∈ gT := gT_tb (i := 1179) (by decide +kernel) rfl
theorem wly_X12_15 : u_lay RX12 TX12 15 ∈ gT := gT_tb (i := 1181) (by decide +kernel) rfl
theorem wly_X12_16 : u_lay RX12 TX12 16 ∈ gT := gT_tb (i := 1183) (by decide +kernel) rfl
theorem wly_X12_17 : u_lay RX12 TX12 17 ∈ gT := gT_tb (i := 1185) (by decide +kernel) rfl
theorem wly_X12_18 : u_lay RX12 TX12 18 ∈ gT := gT_tb (i := 1187) (by decide +kernel) rfl
theorem wly_X12_19 : u_lay RX12 TX12 19 ∈ gT := gT_tb (i := 1189) (by decide +kernel) rfl
theorem wly_X12_20 : u_lay RX12 TX12 20 ∈ gT := gT_tb (i := 1191) (by decide +kernel) rfl
theorem wly_X12_21 : u_lay RX12 TX12 21 ∈ gT := gT_tb (i := 1193) (by decide +kernel) rfl
theorem wly_X12_22 : u_lay RX12 TX12 22 ∈ gT := gT_tb (i := 1195) (by decide +kernel) rfl
theorem wly_X12_23 : u_lay RX12 TX12 23 ∈ gT := gT_tb (i := 1197) (by decide +kernel) rfl
theorem wly_X12_24 : u_lay RX12 TX12 24 ∈ gT := gT_tb (i := 1199) (by decide +kernel) rfl
theorem wly_X12_25 : u_lay RX12 TX12 25 ∈ gT := gT_tb (i := 1201) (by decide +kernel) rfl
theorem wly_X12_26 : u_lay RX12 TX12 26 ∈ gT := gT_tb (i := 1203) (by decide +kernel) rfl
theorem wly_X12_27 : u_lay RX12 TX12 27 ∈ gT := gT_tb (i := 1205) (by decide +kernel) rfl
theorem wly_X12_28 : u_lay RX12 TX12 28 ∈ gT := gT_tb (i := 1207) (by decide +kernel) rfl
theorem wly_X12_29 : u_lay RX12 TX12 29 ∈ gT := gT_tb (i := 1209) (by decide +kernel) rfl
theorem wly_X12_30 : u_lay RX12 TX12 30 ∈ gT := gT_tb (i := 1211) (by decide +kernel) rfl
theorem wly_X12_31 : u_lay RX12 TX12 31 ∈ gT := gT_tb (i := 1213) (by decide +kernel) rfl
theorem wly_X12_32 : u_lay RX12 TX12 32 ∈ gT := gT_tb (i := 1215) (by decide +kernel) rfl
theorem wly_X12_33 : u_lay RX12 TX12 33 ∈ gT := gT_tb (i := 1217) (by decide +kernel) rfl
theorem wly_X12_34 : u_lay RX12 TX12 34 ∈ gT := gT_tb (i := 1219) (by decide +kernel) rfl
theorem wly_X12_35 : u_lay RX12 TX12 35 ∈ gT := gT_tb (i := 1221) (by decide +kernel) rfl
theorem wly_X12_36 : u_lay RX12 TX12 36 ∈ gT := gT_tb (i := 1223) (by decide +kernel) rfl
theorem wly_X12_37 : u_lay RX12 TX12 37 ∈ gT := gT_tb (i := 1225) (by decide +kernel) rfl
theorem wly_X12_38 : u_lay RX12 TX12 38 ∈ gT := gT_tb (i := 1227) (by decide +kernel) rfl
theorem wly_X12_39 : u_lay RX12 TX12 39 ∈ gT := gT_tb (i := 1229) (by decide +kernel) rfl
theorem wly_X12_40 : u_lay RX12 TX12 40 ∈ gT := gT_tb (i := 1231) (by decide +kernel) rfl
theorem wly_X12_41 : u_lay RX12 TX12 41 ∈ gT := gT_tb (i := 1233) (by decide +kernel) rfl
theorem wly_X12_42 : u_lay RX12 TX12 42 ∈ gT := gT_tb (i := 1235) (by decide +kernel) rfl
theorem wly_X12_43 : u_lay RX12 TX12 43 ∈ gT := gT_tb (i := 1237) (by decide +kernel) rfl
theorem wly_X12_44 : u_lay RX12 TX12 44 ∈ gT := gT_tb (i := 1239) (by decide +kernel) rfl
theorem wly_X12 : ∀ k, k < 45 → u_lay RX12 TX12 k ∈ gT := fun k hk => match k, hk with
  | 0, _ => wly_X12_0
  | 1, _ => wly_X12_1
  | 2, _ => wly_X12_2
  | 3, _ => wly_X12_3
  | 4, _ => wly_X12_4
  | 5, _ => wly_X12_5
  | 6, _ => wly_X12_6
  | 7, _ => wly_X12_7
  | 8, _ => wly_X12_8
  | 9, _ => wly_X12_9
  | 10, _ => wly_X12_10
  | 11, _ => wly_X12_11
  | 12, _ => wly_X12_12
  | 13, _ => wly_X12_13
  | 14, _ => wly_X12_14
  | 15, _ => wly_X12_15
  | 16, _ => wly_X12_16
  | 17, _ => wly_X12_17
  | 18, _ => wly_X12_18
  | 19, _ => wly_X12_19
  | 20, _ => wly_X12_20
  | 21, _ => wly_X12_21
  | 22, _ => wly_X12_22
  | 23, _ => wly_X12_23
  | 24, _ => wly_X12_24
  | 25, _ => wly_X12_25
  | 26, _ => wly_X12_26
  | 27, _ => wly_X12_27
  | 28, _ => wly_X12_28
  | 29, _ => wly_X12_29
  | 30, _ => wly_X12_30
  | 31, _ => wly_X12_31
  | 32, _ => wly_X12_32
  | 33, _ => wly_X12_33
  | 34, _ => wly_X12_34
  | 35, _ => wly_X12_35
  | 36, _ => wly_X12_36
  | 37, _ => wly_X12_37
  | 38, _ => wly_X12_38
  | 39, _ => wly_X12_39
  | 40, _ => wly_X12_40
  | 41, _ => wly_X12_41
  | 42, _ => wly_X12_42
  | 43, _ => wly_X12_43
  | 44, _ => wly_X12_44
  | k + 45, hk => absurd hk (by omega)
theorem cls_11 : gCls 11 RX12 TX12 45 := ⟨rfl, fun w hw => by
  obtain ⟨k, hk, rfl⟩ := List.mem_map.mp hw
  exact wly_X12 k (List.mem_range.mp hk), tyX12_ok, nmX12, by decide⟩
theorem wfl_X12_7 : Cond.fieldLink RX12 7 "PenaltyGridModel" "numbers" "[I" ∈ gT := gT_tb (i := 1106) (by decide +kernel) rfl
theorem gf_X12_7_11 : gFld RX12 7 11 0 := ⟨RX12, TX12, 45, "PenaltyGridModel", cls_11, by decide, wfl_X12_7, Or.inl rfl, Or.inr ⟨rfl, rfl⟩⟩
theorem gp_X12_7 : ∀ t ∈ [11], gFld RX12 7 t 0 ∧ gIsR (gFt t 0) = true ∧ ("<init>" = "<init>" ∨ ∀ (C : String) (T : u_T) (N : Nat), vwCl[t]? = some (C, T, N) → (T 0).2.2.2 = false) := List.forall_mem_cons.mpr ⟨⟨gf_X12_7_11, rfl, Or.inl rfl⟩, fun _ h => absurd h List.not_mem_nil⟩
theorem wfl_X12_13 : Cond.fieldLink RX12 13 "PenaltyGridModel" "persons" "[I" ∈ gT := gT_tb (i := 1107) (by decide +kernel) rfl
theorem gf_X12_13_11 : gFld RX12 13 11 1 := ⟨RX12, TX12, 45, "PenaltyGridModel", cls_11, by decide, wfl_X12_13, Or.inl rfl, Or.inr ⟨rfl, rfl⟩⟩
theorem gp_X12_13 : ∀ t ∈ [11], gFld RX12 13 t 1 ∧ gIsR (gFt t 1) = true ∧ ("<init>" = "<init>" ∨ ∀ (C : String) (T : u_T) (N : Nat), vwCl[t]? = some (C, T, N) → (T 1).2.2.2 = false) := List.forall_mem_cons.mpr ⟨⟨gf_X12_13_11, rfl, Or.inl rfl⟩, fun _ h => absurd h List.not_mem_nil⟩
theorem wfl_X12_16 : Cond.fieldLink RX12 16 "PenaltyGridModel" "deeds" "[I" ∈ gT := gT_tb (i := 1108) (by decide +kernel) rfl
theorem gf_X12_16_11 : gFld RX12 16 11 2 := ⟨RX12, TX12, 45, "PenaltyGridModel", cls_11, by decide, wfl_X12_16, Or.inl rfl, Or.inr ⟨rfl, rfl⟩⟩
theorem gp_X12_16 : ∀ t ∈ [11], gFld RX12 16 t 2 ∧ gIsR (gFt t 2) = true ∧ ("<init>" = "<init>" ∨ ∀ (C : String) (T : u_T) (N : Nat), vwCl[t]? = some (C, T, N) → (T 2).2.2.2 = false) := List.forall_mem_cons.mpr ⟨⟨gf_X12_16_11, rfl, Or.inl rfl⟩, fun _ h => absurd h List.not_mem_nil⟩
theorem wfl_X12_19 : Cond.fieldLink RX12 19 "PenaltyGridModel" "findings" "[I" ∈ gT := gT_tb (i := 1109) (by decide +kernel) rfl
theorem gf_X12_19_11 : gFld RX12 19 11 3 := ⟨RX12, TX12, 45, "PenaltyGridModel", cls_11, by decide, wfl_X12_19, Or.inl rfl, Or.inr ⟨rfl, rfl⟩⟩
theorem gp_X12_19 : ∀ t ∈ [11], gFld RX12 19 t 3 ∧ gIsR (gFt t 3) = true ∧ ("<init>" = "<init>" ∨ ∀ (C : String) (T : u_T) (N : Nat), vwCl[t]? = some (C, T, N) → (T 3).2.2.2 = false) := List.forall_mem_cons.mpr ⟨⟨gf_X12_19_11, rfl, Or.inl rfl⟩, fun _ h => absurd h List.not_mem_nil⟩
theorem wfl_X12_22 : Cond.fieldLink RX12 22 "PenaltyGridModel" "versions" "[I" ∈ gT := gT_tb (i := 1110) (by decide +kernel) rfl
theorem gf_X12_22_11 : gFld RX12 22 11 4 := ⟨RX12, TX12, 45, "PenaltyGridModel", cls_11, by decide, wfl_X12_22, Or.inl rfl, Or.inr ⟨rfl, rfl⟩⟩
theorem gp_X12_22 : ∀ t ∈ [11], gFld RX12 22 t 4 ∧ gIsR (gFt t 4) = true ∧ ("<init>" = "<init>" ∨ ∀ (C : String) (T : u_T) (N : Nat), vwCl[t]? = some (C, T, N) → (T 4).2.2.2 = false) := List.forall_mem_cons.mpr ⟨⟨gf_X12_22_11, rfl, Or.inl rfl⟩, fun _ h => absurd h List.not_mem_nil⟩
theorem wfl_X12_25 : Cond.fieldLink RX12 25 "PenaltyGridModel" "lines" "[I" ∈ gT := gT_tb (i := 1111) (by decide +kernel) rfl
theorem gf_X12_25_11 : gFld RX12 25 11 5 := ⟨RX12, TX12, 45, "PenaltyGridModel", cls_11, by decide, wfl_X12_25, Or.inl rfl, Or.inr ⟨rfl, rfl⟩⟩
theorem gp_X12_25 : ∀ t ∈ [11], gFld RX12 25 t 5 ∧ gIsR (gFt t 5) = true ∧ ("<init>" = "<init>" ∨ ∀ (C : String) (T : u_T) (N : Nat), vwCl[t]? = some (C, T, N) → (T 5).2.2.2 = false) := List.forall_mem_cons.mpr ⟨⟨gf_X12_25_11, rfl, Or.inl rfl⟩, fun _ h => absurd h List.not_mem_nil⟩
theorem wfl_X12_28 : Cond.fieldLink RX12 28 "PenaltyGridModel" "signs" "[I" ∈ gT := gT_tb (i := 1112) (by decide +kernel) rfl
theorem gf_X12_28_11 : gFld RX12 28 11 6 := ⟨RX12, TX12, 45, "PenaltyGridModel", cls_11, by decide, wfl_X12_28, Or.inl rfl, Or.inr ⟨rfl, rfl⟩⟩
theorem gp_X12_28 : ∀ t ∈ [11], gFld RX12 28 t 6 ∧ gIsR (gFt t 6) = true ∧ ("<init>" = "<init>" ∨ ∀ (C : String) (T : u_T) (N : Nat), vwCl[t]? = some (C, T, N) → (T 6).2.2.2 = false) := List.forall_mem_cons.mpr ⟨⟨gf_X12_28_11, rfl, Or.inl rfl⟩, fun _ h => absurd h List.not_mem_nil⟩
theorem wfl_X12_31 : Cond.fieldLink RX12 31 "PenaltyGridModel" "terms" "[I" ∈ gT := gT_tb (i := 1113) (by decide +kernel) rfl
theorem gf_X12_31_11 : gFld RX12 31 11 7 := ⟨RX12, TX12, 45, "PenaltyGridModel", cls_11, by decide, wfl_X12_31, Or.inl rfl, Or.inr ⟨rfl, rfl⟩⟩
theorem gp_X12_31 : ∀ t ∈ [11], gFld RX12 31 t 7 ∧ gIsR (gFt t 7) = true ∧ ("<init>" = "<init>" ∨ ∀ (C : String) (T : u_T) (N : Nat), vwCl[t]? = some (C, T, N) → (T 7).2.2.2 = false) := List.forall_mem_cons.mpr ⟨⟨gf_X12_31_11, rfl, Or.inl rfl⟩, fun _ h => absurd h List.not_mem_nil⟩
theorem wfl_X12_34 : Cond.fieldLink RX12 34 "PenaltyGridModel" "times" "[I" ∈ gT := gT_tb (i := 1114) (by decide +kernel) rfl
theorem gf_X12_34_11 : gFld RX12 34 11 8 := ⟨RX12, TX12, 45, "PenaltyGridModel", cls_11, by decide, wfl_X12_34, Or.inl rfl, Or.inr ⟨rfl, rfl⟩⟩
theorem gp_X12_34 : ∀ t ∈ [11], gFld RX12 34 t 8 ∧ gIsR (gFt t 8) = true ∧ ("<init>" = "<init>" ∨ ∀ (C : String) (T : u_T) (N : Nat), vwCl[t]? = some (C, T, N) → (T 8).2.2.2 = false) := List.forall_mem_cons.mpr ⟨⟨gf_X12_34_11, rfl, Or.inl rfl⟩, fun _ h => absurd h List.not_mem_nil⟩
theorem wfl_X12_37 : Cond.fieldLink RX12 37 "PenaltyGridModel" "tape" "[I" ∈ gT := gT_tb (i := 1115) (by decide +kernel) rfl
theorem gf_X12_37_11 : gFld RX12 37 11 9 := ⟨RX12, TX12, 45, "PenaltyGridModel", cls_11, by decide, wfl_X12_37, Or.inl rfl, Or.inr ⟨rfl, rfl⟩⟩
theorem gp_X12_37 : ∀ t ∈ [11], gFld RX12 37 t 9 ∧ gIsR (gFt t 9) = true ∧ ("<init>" = "<init>" ∨ ∀ (C : String) (T : u_T) (N : Nat), vwCl[t]? = some (C, T, N) → (T 9).2.2.2 = false) := List.forall_mem_cons.mpr ⟨⟨gf_X12_37_11, rfl, Or.inl rfl⟩, fun _ h => absurd h List.not_mem_nil⟩
theorem wfl_X12_40 : Cond.fieldLink RX12 40 "PenaltyGridModel" "freshLines" "[I" ∈ gT := gT_tb (i := 1122) (by decide +kernel) rfl
theorem gf_X12_40_11 : gFld RX12 40 11 16 := ⟨RX12, TX12, 45, "PenaltyGridModel", cls_11, by decide, wfl_X12_40, Or.inl rfl, Or.inr ⟨rfl, rfl⟩⟩
theorem gp_X12_40 : ∀ t ∈ [11], gFld RX12 40 t 16 ∧ gIsR (gFt t 16) = true ∧ ("<init>" = "<init>" ∨ ∀ (C : String) (T : u_T) (N : Nat), vwCl[t]? = some (C, T, N) → (T 16).2.2.2 = false) := List.forall_mem_cons.mpr ⟨⟨gf_X12_40_11, rfl, Or.inl rfl⟩, fun _ h => absurd h List.not_mem_nil⟩
theorem wfl_X12_43 : Cond.fieldLink RX12 43 "PenaltyGridModel" "freshSigns" "[I" ∈ gT := gT_tb (i := 1123) (by decide +kernel) rfl
theorem gf_X12_43_11 : gFld RX12 43 11 17 := ⟨RX12, TX12, 45, "PenaltyGridModel", cls_11, by decide, wfl_X12_43, Or.inl rfl, Or.inr ⟨rfl, rfl⟩⟩
theorem gp_X12_43 : ∀ t ∈ [11], gFld RX12 43 t 17 ∧ gIsR (gFt t 17) = true ∧ ("<init>" = "<init>" ∨ ∀ (C : String) (T : u_T) (N : Nat), vwCl[t]? = some (C, T, N) → (T 17).2.2.2 = false) := List.forall_mem_cons.mpr ⟨⟨gf_X12_43_11, rfl, Or.inl rfl⟩, fun _ h => absurd h List.not_mem_nil⟩
theorem wfl_X12_46 : Cond.fieldLink RX12 46 "PenaltyGridModel" "waiting" "[I" ∈ gT := gT_tb (i := 1124) (by decide +kernel) rfl
theorem gf_X12_46_11 : gFld RX12 46 11 18 := ⟨RX12, TX12, 45, "PenaltyGridModel", cls_11, by decide, wfl_X12_46, Or.inl rfl, Or.inr ⟨rfl, rfl⟩⟩
theorem gp_X12_46 : ∀ t ∈ [11], gFld RX12 46 t 18 ∧ gIsR (gFt t 18) = true ∧ ("<init>" = "<init>" ∨ ∀ (C : String) (T : u_T) (N : Nat), vwCl[t]? = some (C, T, N) → (T 18).2.2.2 = false) := List.forall_mem_cons.mpr ⟨⟨gf_X12_46_11, rfl, Or.inl rfl⟩, fun _ h => absurd h List.not_mem_nil⟩
theorem wfl_X12_49 : Cond.fieldLink RX12 49 "PenaltyGridModel" "pleaded" "[I" ∈ gT := gT_tb (i := 1127) (by decide +kernel) rfl
theorem gf_X12_49_11 : gFld RX12 49 11 21 := ⟨RX12, TX12, 45, "PenaltyGridModel", cls_11, by decide, wfl_X12_49, Or.inl rfl, Or.inr ⟨rfl, rfl⟩⟩
theorem gp_X12_49 : ∀ t ∈ [11], gFld RX12 49 t 21 ∧ gIsR (gFt t 21) = true ∧ ("<init>" = "<init>" ∨ ∀ (C : String) (T : u_T) (N : Nat), vwCl[t]? = some (C, T, N) → (T 21).2.2.2 = false) := List.forall_mem_cons.mpr ⟨⟨gf_X12_49_11, rfl, Or.inl rfl⟩, fun _ h => absurd h List.not_mem_nil⟩
theorem wfl_X12_52 : Cond.fieldLink RX12 52 "PenaltyGridModel" "stack" "[I" ∈ gT := gT_tb (i := 1128) (by decide +kernel) rfl
theorem gf_X12_52_11 : gFld RX12 52 11 22 := ⟨RX12, TX12, 45, "PenaltyGridModel", cls_11, by decide, wfl_X12_52, Or.inl rfl, Or.inr ⟨rfl, rfl⟩⟩
theorem gp_X12_52 : ∀ t ∈ [11], gFld RX12 52 t 22 ∧ gIsR (gFt t 22) = true ∧ ("<init>" = "<init>" ∨ ∀ (C : String) (T : u_T) (N : Nat), vwCl[t]? = some (C, T, N) → (T 22).2.2.2 = false) := List.forall_mem_cons.mpr ⟨⟨gf_X12_52_11, rfl, Or.inl rfl⟩, fun _ h => absurd h List.not_mem_nil⟩
theorem wfl_X12_55 : Cond.fieldLink RX12 55 "PenaltyGridModel" "timeTerm" "[I" ∈ gT := gT_tb (i := 1130) (by decide +kernel) rfl
theorem gf_X12_55_11 : gFld RX12 55 11 24 := ⟨RX12, TX12, 45, "PenaltyGridModel", cls_11, by decide, wfl_X12_55, Or.inl rfl, Or.inr ⟨rfl, rfl⟩⟩
theorem gp_X12_55 : ∀ t ∈ [11], gFld RX12 55 t 24 ∧ gIsR (gFt t 24) = true ∧ ("<init>" = "<init>" ∨ ∀ (C : String) (T : u_T) (N : Nat), vwCl[t]? = some (C, T, N) → (T 24).2.2.2 = false) := List.forall_mem_cons.mpr ⟨⟨gf_X12_55_11, rfl, Or.inl rfl⟩, fun _ h => absurd h List.not_mem_nil⟩
theorem wfl_X12_58 : Cond.fieldLink RX12 58 "PenaltyGridModel" "begins" "[I" ∈ gT := gT_tb (i := 1131) (by decide +kernel) rfl
theorem gf_X12_58_11 : gFld RX12 58 11 25 := ⟨RX12, TX12, 45, "PenaltyGridModel", cls_11, by decide, wfl_X12_58, Or.inl rfl, Or.inr ⟨rfl, rfl⟩⟩
theorem gp_X12_58 : ∀ t ∈ [11], gFld RX12 58 t 25 ∧ gIsR (gFt t 25) = true ∧ ("<init>" = "<init>" ∨ ∀ (C : String) (T : u_T) (N : Nat), vwCl[t]? = some (C, T, N) → (T 25).2.2.2 = false) := List.forall_mem_cons.mpr ⟨⟨gf_X12_58_11, rfl, Or.inl rfl⟩, fun _ h => absurd h List.not_mem_nil⟩
theorem wfl_X12_61 : Cond.fieldLink RX12 61 "PenaltyGridModel" "ends" "[I" ∈ gT := gT_tb (i := 1132) (by decide +kernel) rfl
theorem gf_X12_61_11 : gFld RX12 61 11 26 := ⟨RX12, TX12, 45, "PenaltyGridModel", cls_11, by decide, wfl_X12_61, Or.inl rfl, Or.inr ⟨rfl, rfl⟩⟩
theorem gp_X12_61 : ∀ t ∈ [11], gFld RX12 61 t 26 ∧ gIsR (gFt t 26) = true ∧ ("<init>" = "<init>" ∨ ∀ (C : String) (T : u_T) (N : Nat), vwCl[t]? = some (C, T, N) → (T 26).2.2.2 = false) := List.forall_mem_cons.mpr ⟨⟨gf_X12_61_11, rfl, Or.inl rfl⟩, fun _ h => absurd h List.not_mem_nil⟩
theorem wfl_X12_64 : Cond.fieldLink RX12 64 "PenaltyGridModel" "rows" "[I" ∈ gT := gT_tb (i := 1134) (by decide +kernel) rfl
theorem gf_X12_64_11 : gFld RX12 64 11 28 := ⟨RX12, TX12, 45, "PenaltyGridModel", cls_11, by decide, wfl_X12_64, Or.inl rfl, Or.inr ⟨rfl, rfl⟩⟩
theorem gp_X12_64 : ∀ t ∈ [11], gFld RX12 64 t 28 ∧ gIsR (gFt t 28) = true ∧ ("<init>" = "<init>" ∨ ∀ (C : String) (T : u_T) (N : Nat), vwCl[t]? = some (C, T, N) → (T 28).2.2.2 = false) := List.forall_mem_cons.mpr ⟨⟨gf_X12_64_11, rfl, Or.inl rfl⟩, fun _ h => absurd h List.not_mem_nil⟩
theorem wfl_X12_68 : Cond.fieldLink RX12 68 "PenaltyGridModel" "ways" "[I" ∈ gT := gT_tb (i := 1135) (by decide +kernel) rfl
theorem gf_X12_68_11 : gFld RX12 68 11 29 := ⟨RX12, TX12, 45, "PenaltyGridModel", cls_11, by decide, wfl_X12_68, Or.inl rfl, Or.inr ⟨rfl, rfl⟩⟩
theorem gp_X12_68 : ∀ t ∈ [11], gFld RX12 68 t 29 ∧ gIsR (gFt t 29) = true ∧ ("<init>" = "<init>" ∨ ∀ (C : String) (T : u_T) (N : Nat), vwCl[t]? = some (C, T, N) → (T 29).2.2.2 = false) := List.forall_mem_cons.mpr ⟨⟨gf_X12_68_11, rfl, Or.inl rfl⟩, fun _ h => absurd h List.not_mem_nil⟩
theorem wfl_X12_71 : Cond.fieldLink RX12 71 "PenaltyGridModel" "sorts" "[I" ∈ gT := gT_tb (i := 1136) (by decide +kernel) rfl
theorem gf_X12_71_11 : gFld RX12 71 11 30 := ⟨RX12, TX12, 45, "PenaltyGridModel", cls_11, by decide, wfl_X12_71, Or.inl rfl, Or.inr ⟨rfl, rfl⟩⟩
theorem gp_X12_71 : ∀ t ∈ [11], gFld RX12 71 t 30 ∧ gIsR (gFt t 30) = true ∧ ("<init>" = "<init>" ∨ ∀ (C : String) (T : u_T) (N : Nat), vwCl[t]? = some (C, T, N) → (T 30).2.2.2 = false) := List.forall_mem_cons.mpr ⟨⟨gf_X12_71_11, rfl, Or.inl rfl⟩, fun _ h => absurd h List.not_mem_nil⟩
theorem wfl_X12_74 : Cond.fieldLink RX12 74 "PenaltyGridModel" "sizes" "[I" ∈ gT := gT_tb (i := 1137) (by decide +kernel) rfl
theorem gf_X12_74_11 : gFld RX12 74 11 31 := ⟨RX12, TX12, 45, "PenaltyGridModel", cls_11, by decide, wfl_X12_74, Or.inl rfl, Or.inr ⟨rfl, rfl⟩⟩
theorem gp_X12_74 : ∀ t ∈ [11], gFld RX12 74 t 31 ∧ gIsR (gFt t 31) = true ∧ ("<init>" = "<init>" ∨ ∀ (C : String) (T : u_T) (N : Nat), vwCl[t]? = some (C, T, N) → (T 31).2.2.2 = false) := List.forall_mem_cons.mpr ⟨⟨gf_X12_74_11, rfl, Or.inl rfl⟩, fun _ h => absurd h List.not_mem_nil⟩
theorem wfl_X12_77 : Cond.fieldLink RX12 77 "PenaltyGridModel" "sheets" "[I" ∈ gT := gT_tb (i := 1138) (by decide +kernel) rfl
theorem gf_X12_77_11 : gFld RX12 77 11 32 := ⟨RX12, TX12, 45, "PenaltyGridModel", cls_11, by decide, wfl_X12_77, Or.inl rfl, Or.inr ⟨rfl, rfl⟩⟩
theorem gp_X12_77 : ∀ t ∈ [11], gFld RX12 77 t 32 ∧ gIsR (gFt t 32) = true ∧ ("<init>" = "<init>" ∨ ∀ (C : String) (T : u_T) (N : Nat), vwCl[t]? = some (C, T, N) → (T 32).2.2.2 = false) := List.forall_mem_cons.mpr ⟨⟨gf_X12_77_11, rfl, Or.inl rfl⟩, fun _ h => absurd h List.not_mem_nil⟩
theorem wfl_X12_80 : Cond.fieldLink RX12 80 "PenaltyGridModel" "onShelf" "[I" ∈ gT := gT_tb (i := 1139) (by decide +kernel) rfl
theorem gf_X12_80_11 : gFld RX12 80 11 33 := ⟨RX12, TX12, 45, "PenaltyGridModel", cls_11, by decide, wfl_X12_80, Or.inl rfl, Or.inr ⟨rfl, rfl⟩⟩
theorem gp_X12_80 : ∀ t ∈ [11], gFld RX12 80 t 33 ∧ gIsR (gFt t 33) = true ∧ ("<init>" = "<init>" ∨ ∀ (C : String) (T : u_T) (N : Nat), vwCl[t]? = some (C, T, N) → (T 33).2.2.2 = false) := List.forall_mem_cons.mpr ⟨⟨gf_X12_80_11, rfl, Or.inl rfl⟩, fun _ h => absurd h List.not_mem_nil⟩
theorem wfl_X12_83 : Cond.fieldLink RX12 83 "PenaltyGridModel" "itsNumber" "[I" ∈ gT := gT_tb (i := 1140) (by decide +kernel) rfl
theorem gf_X12_83_11 : gFld RX12 83 11 34 := ⟨RX12, TX12, 45, "PenaltyGridModel", cls_11, by decide, wfl_X12_83, Or.inl rfl, Or.inr ⟨rfl, rfl⟩⟩
theorem gp_X12_83 : ∀ t ∈ [11], gFld RX12 83 t 34 ∧ gIsR (gFt t 34) = true ∧ ("<init>" = "<init>" ∨ ∀ (C : String) (T : u_T) (N : Nat), vwCl[t]? = some (C, T, N) → (T 34).2.2.2 = false) := List.forall_mem_cons.mpr ⟨⟨gf_X12_83_11, rfl, Or.inl rfl⟩, fun _ h => absurd h List.not_mem_nil⟩
theorem wfl_X12_86 : Cond.fieldLink RX12 86 "PenaltyGridModel" "itsSize" "[I" ∈ gT := gT_tb (i := 1141) (by decide +kernel) rfl
theorem gf_X12_86_11 : gFld RX12 86 11 35 := ⟨RX12, TX12, 45, "PenaltyGridModel", cls_11, by decide, wfl_X12_86, Or.inl rfl, Or.inr ⟨rfl, rfl⟩⟩
theorem gp_X12_86 : ∀ t ∈ [11], gFld RX12 86 t 35 ∧ gIsR (gFt t 35) = true ∧ ("<init>" = "<init>" ∨ ∀ (C : String) (T : u_T) (N : Nat), vwCl[t]? = some (C, T, N) → (T 35).2.2.2 = false) := List.forall_mem_cons.mpr ⟨⟨gf_X12_86_11, rfl, Or.inl rfl⟩, fun _ h => absurd h List.not_mem_nil⟩
theorem wfl_X12_89 : Cond.fieldLink RX12 89 "PenaltyGridModel" "traced" "[I" ∈ gT := gT_tb (i := 1145) (by decide +kernel) rfl
theorem gf_X12_89_11 : gFld RX12 89 11 39 := ⟨RX12, TX12, 45, "PenaltyGridModel", cls_11, by decide, wfl_X12_89, Or.inl rfl, Or.inr ⟨rfl, rfl⟩⟩
theorem gp_X12_89 : ∀ t ∈ [11], gFld RX12 89 t 39 ∧ gIsR (gFt t 39) = true ∧ ("<init>" = "<init>" ∨ ∀ (C : String) (T : u_T) (N : Nat), vwCl[t]? = some (C, T, N) → (T 39).2.2.2 = false) := List.forall_mem_cons.mpr ⟨⟨gf_X12_89_11, rfl, Or.inl rfl⟩, fun _ h => absurd h List.not_mem_nil⟩
theorem wfl_X12_92 : Cond.fieldLink RX12 92 "PenaltyGridModel" "kept" "[I" ∈ gT := gT_tb (i := 1149) (by decide +kernel) rfl
theorem gf_X12_92_11 : gFld RX12 92 11 43 := ⟨RX12, TX12, 45, "PenaltyGridModel", cls_11, by decide, wfl_X12_92, Or.inl rfl, Or.inr ⟨rfl, rfl⟩⟩
theorem gp_X12_92 : ∀ t ∈ [11], gFld RX12 92 t 43 ∧ gIsR (gFt t 43) = true ∧ ("<init>" = "<init>" ∨ ∀ (C : String) (T : u_T) (N : Nat), vwCl[t]? = some (C, T, N) → (T 43).2.2.2 = false) := List.forall_mem_cons.mpr ⟨⟨gf_X12_92_11, rfl, Or.inl rfl⟩, fun _ h => absurd h List.not_mem_nil⟩
theorem wac_int : Cond.arrayClass .int ∈ gT := gT_tb (i := 59) (by decide +kernel) rfl
theorem wct_X12_67 : Cond.constant RX12 67 (65280) ∈ gT := gT_tb (i := 1105) (by decide +kernel) rfl
theorem wml_X12_1 : Cond.methodLink RX12 1 ⟨"java/lang/Object", "<init>", "()V"⟩ ∈ gT := gT_tb (i := 1104) (by decide +kernel) rfl
theorem wco_X12_in : Cond.code yX12_in cX12_in 3 (some .boolean) ∈ gT := gT_tb (i := 1248) (by decide +kernel) rfl
theorem win_X12 : Cond.initialized RX12 ∈ gT := gT_tb (i := 7) (by decide +kernel) rfl
theorem mf_X12_in : gMf yX12_in cX12_in 3 (some .boolean) 3 := ⟨wco_X12_in, win_X12, ⟨by decide +kernel, by decide +kernel⟩, by decide +kernel⟩
theorem wml_X12_95 : Cond.methodLink RX12 95 yX12_in ∈ gT := gT_tb (i := 1246) (by decide +kernel) rfl
theorem wst_X12_in : Cond.static yX12_in ∈ gT := gT_tb (i := 1247) (by decide +kernel) rfl
theorem gg_X12_7 : ∀ t ∈ [11], gFldG RX12 7 t 0 ∧ gIsR (gFt t 0) = true := List.forall_mem_cons.mpr ⟨⟨gf_X12_7_11.g, rfl⟩, fun _ h => absurd h List.not_mem_nil⟩
theorem gg_X12_31 : ∀ t ∈ [11], gFldG RX12 31 t 7 ∧ gIsR (gFt t 7) = true := List.forall_mem_cons.mpr ⟨⟨gf_X12_31_11.g, rfl⟩, fun _ h => absurd h List.not_mem_nil⟩
theorem gg_X12_16 : ∀ t ∈ [11], gFldG RX12 16 t 2 ∧ gIsR (gFt t 2) = true := List.forall_mem_cons.mpr ⟨⟨gf_X12_16_11.g, rfl⟩, fun _ h => absurd h List.not_mem_nil⟩
theorem wco_X12_of : Cond.code yX12_of cX12_of 3 (some .int) ∈ gT := gT_tb (i := 1303) (by decide +kernel) rfl
theorem mf_X12_of : gMf yX12_of cX12_of 3 (some .int) 2 := ⟨wco_X12_of, win_X12, ⟨by decide +kernel, by decide +kernel⟩, by decide +kernel⟩
theorem wml_X12_99 : Cond.methodLink RX12 99 yX12_of ∈ gT := gT_tb (i := 1300) (by decide +kernel) rfl
theorem wim_X12_of : Cond.instanceMethod yX12_of ∈ gT := gT_tb (i := 1302) (by decide +kernel) rfl
theorem wse_X12_X12_of_X12_of : Cond.selects RX12 yX12_of yX12_of ∈ gT := gT_pr (i := 33) (by decide +kernel) rfl
theorem gg_X12_13 : ∀ t ∈ [11], gFldG RX12 13 t 1 ∧ gIsR (gFt t 1) = true := List.forall_mem_cons.mpr ⟨⟨gf_X12_13_11.g, rfl⟩, fun _ h => absurd h List.not_mem_nil⟩
theorem wco_X12_isPerson : Cond.code yX12_isPerson cX12_isPerson 2 (some .boolean) ∈ gT := gT_tb (i := 1260) (by decide +kernel) rfl
theorem mf_X12_isPerson : gMf yX12_isPerson cX12_isPerson 2 (some .boolean) 1 := ⟨wco_X12_isPerson, win_X12, ⟨by decide +kernel, by decide +kernel⟩, by decide +kernel⟩
theorem wml_X12_103 : Cond.methodLink RX12 103 yX12_isPerson ∈ gT := gT_tb (i := 1257) (by decide +kernel) rfl
theorem wim_X12_isPerson : Cond.instanceMethod yX12_isPerson ∈ gT := gT_tb (i := 1259) (by decide +kernel) rfl
theorem wse_X12_X12_isPerson_X12_isPerson : Cond.selects RX12 yX12_isPerson yX12_isPerson ∈ gT := gT_pr (i := 26) (by decide +kernel) rfl
theorem wco_X12_isDay : Cond.code yX12_isDay cX12_isDay 1 (some .boolean) ∈ gT := gT_tb (i := 1263) (by decide +kernel) rfl
theorem mf_X12_isDay : gMf yX12_isDay cX12_isDay 1 (some .boolean) 1 := ⟨wco_X12_isDay, win_X12, ⟨by decide +kernel, by decide +kernel⟩, by decide +kernel⟩
theorem wml_X12_107 : Cond.methodLink RX12 107 yX12_isDay ∈ gT := gT_tb (i := 1261) (by decide +kernel) rfl
theorem wst_X12_isDay : Cond.static yX12_isDay ∈ gT := gT_tb (i := 1262) (by decide +kernel) rfl
theorem wco_X12_ageOn : Cond.code yX12_ageOn cX12_ageOn 3 (some .int) ∈ gT := gT_tb (i := 1267) (by decide +kernel) rfl
theorem mf_X12_ageOn : gMf yX12_ageOn cX12_ageOn 3 (some .int) 2 := ⟨wco_X12_ageOn, win_X12, ⟨by decide +kernel, by decide +kernel⟩, by decide +kernel⟩
theorem wml_X12_110 : Cond.methodLink RX12 110 yX12_ageOn ∈ gT := gT_tb (i := 1264) (by decide +kernel) rfl
theorem wim_X12_ageOn : Cond.instanceMethod yX12_ageOn ∈ gT := gT_tb (i := 1266) (by decide +kernel) rfl
theorem wse_X12_X12_ageOn_X12_ageOn : Cond.selects RX12 yX12_ageOn yX12_ageOn ∈ gT := gT_pr (i := 27) (by decide +kernel) rfl
theorem wco_X12_dayOf : Cond.code yX12_dayOf cX12_dayOf 2 (some .int) ∈ gT := gT_tb (i := 1433) (by decide +kernel) rfl
theorem mf_X12_dayOf : gMf yX12_dayOf cX12_dayOf 2 (some .int) 1 := ⟨wco_X12_dayOf, win_X12, ⟨by decide +kernel, by decide +kernel⟩, by decide +kernel⟩
theorem wml_X12_113 : Cond.methodLink RX12 113 yX12_dayOf ∈ gT := gT_tb (i := 1430) (by decide +kernel) rfl
theorem wim_X12_dayOf : Cond.instanceMethod yX12_dayOf ∈ gT := gT_tb (i := 1432) (by decide +kernel) rfl
theorem wse_X12_X12_dayOf_X12_dayOf : Cond.selects RX12 yX12_dayOf yX12_dayOf ∈ gT := gT_pr (i := 56) (by decide +kernel) rfl
theorem wco_X12_ageAt : Cond.code yX12_ageAt cX12_ageAt 2 (some .int) ∈ gT := gT_tb (i := 1487) (by decide +kernel) rfl
theorem mf_X12_ageAt : gMf yX12_ageAt cX12_ageAt 2 (some .int) 1 := ⟨wco_X12_ageAt, win_X12, ⟨by decide +kernel, by decide +kernel⟩, by decide +kernel⟩
theorem wml_X12_117 : Cond.methodLink RX12 117 yX12_ageAt ∈ gT := gT_tb (i := 1484) (by decide +kernel) rfl
theorem wim_X12_ageAt : Cond.instanceMethod yX12_ageAt ∈ gT := gT_tb (i := 1486) (by decide +kernel) rfl
theorem wse_X12_X12_ageAt_X12_ageAt : Cond.selects RX12 yX12_ageAt yX12_ageAt ∈ gT := gT_pr (i := 66) (by decide +kernel) rfl
theorem gg_X12_19 : ∀ t ∈ [11], gFldG RX12 19 t 3 ∧ gIsR (gFt t 3) = true := List.forall_mem_cons.mpr ⟨⟨gf_X12_19_11.g, rfl⟩, fun _ h => absurd h List.not_mem_nil⟩
theorem wco_X12_isDeed : Cond.code yX12_isDeed cX12_isDeed 2 (some .boolean) ∈ gT := gT_tb (i := 1279) (by decide +kernel) rfl
theorem mf_X12_isDeed : gMf yX12_isDeed cX12_isDeed 2 (some .boolean) 1 := ⟨wco_X12_isDeed, win_X12, ⟨by decide +kernel, by decide +kernel⟩, by decide +kernel⟩
theorem wml_X12_120 : Cond.methodLink RX12 120 yX12_isDeed ∈ gT := gT_tb (i := 1276) (by decide +kernel) rfl
theorem wim_X12_isDeed : Cond.instanceMethod yX12_isDeed ∈ gT := gT_tb (i := 1278) (by decide +kernel) rfl
theorem wse_X12_X12_isDeed_X12_isDeed : Cond.selects RX12 yX12_isDeed yX12_isDeed ∈ gT := gT_pr (i := 28) (by decide +kernel) rfl
theorem wco_X12_foundOf : Cond.code yX12_foundOf cX12_foundOf 5 (some .int) ∈ gT := gT_tb (i := 1291) (by decide +kernel) rfl
theorem mf_X12_foundOf : gMf yX12_foundOf cX12_foundOf 5 (some .int) 2 := ⟨wco_X12_foundOf, win_X12, ⟨by decide +kernel, by decide +kernel⟩, by decide +kernel⟩
theorem wml_X12_123 : Cond.methodLink RX12 123 yX12_foundOf ∈ gT := gT_tb (i := 1288) (by decide +kernel) rfl
theorem wim_X12_foundOf : Cond.instanceMethod yX12_foundOf ∈ gT := gT_tb (i := 1290) (by decide +kernel) rfl
theorem wse_X12_X12_foundOf_X12_foundOf : Cond.selects RX12 yX12_foundOf yX12_foundOf ∈ gT := gT_pr (i := 30) (by decide +kernel) rfl
theorem wco_X12_stands : Cond.code yX12_stands cX12_stands 3 (some .boolean) ∈ gT := gT_tb (i := 1307) (by decide +kernel) rfl
theorem mf_X12_stands : gMf yX12_stands cX12_stands 3 (some .boolean) 2 := ⟨wco_X12_stands, win_X12, ⟨by decide +kernel, by decide +kernel⟩, by decide +kernel⟩
theorem wml_X12_126 : Cond.methodLink RX12 126 yX12_stands ∈ gT := gT_tb (i := 1304) (by decide +kernel) rfl
theorem wim_X12_stands : Cond.instanceMethod yX12_stands ∈ gT := gT_tb (i := 1306) (by decide +kernel) rfl
theorem wse_X12_X12_stands_X12_stands : Cond.selects RX12 yX12_stands yX12_stands ∈ gT := gT_pr (i := 34) (by decide +kernel) rfl
theorem wco_X12_termOf : Cond.code yX12_termOf cX12_termOf 5 (some .int) ∈ gT := gT_tb (i := 1299) (by decide +kernel) rfl
theorem mf_X12_termOf : gMf yX12_termOf cX12_termOf 5 (some .int) 2 := ⟨wco_X12_termOf, win_X12, ⟨by decide +kernel, by decide +kernel⟩, by decide +kernel⟩
theorem wml_X12_136 : Cond.methodLink RX12 136 yX12_termOf ∈ gT := gT_tb (i := 1296) (by decide +kernel) rfl
theorem wim_X12_termOf : Cond.instanceMethod yX12_termOf ∈ gT := gT_tb (i := 1298) (by decide +kernel) rfl
theorem wse_X12_X12_termOf_X12_termOf : Cond.selects RX12 yX12_termOf yX12_termOf ∈ gT := gT_pr (i := 32) (by decide +kernel) rfl
theorem wco_X12_orNone : Cond.code yX12_orNone cX12_orNone 1 (some .int) ∈ gT := gT_tb (i := 1310) (by decide +kernel) rfl
theorem mf_X12_orNone : gMf yX12_orNone cX12_orNone 1 (some .int) 1 := ⟨wco_X12_orNone, win_X12, ⟨by decide +kernel, by decide +kernel⟩, by decide +kernel⟩
theorem wml_X12_139 : Cond.methodLink RX12 139 yX12_orNone ∈ gT := gT_tb (i := 1308) (by decide +kernel) rfl
theorem wst_X12_orNone : Cond.static yX12_orNone ∈ gT := gT_tb (i := 1309) (by decide +kernel) rfl
theorem wco_X12_isPleaded : Cond.code yX12_isPleaded cX12_isPleaded 4 (some .boolean) ∈ gT := gT_tb (i := 1295) (by decide +kernel) rfl
theorem mf_X12_isPleaded : gMf yX12_isPleaded cX12_isPleaded 4 (some .boolean) 2 := ⟨wco_X12_isPleaded, win_X12, ⟨by decide +kernel, by decide +kernel⟩, by decide +kernel⟩
theorem wml_X12_133 : Cond.methodLink RX12 133 yX12_isPleaded ∈ gT := gT_tb (i := 1292) (by decide +kernel) rfl
theorem wim_X12_isPleaded : Cond.instanceMethod yX12_isPleaded ∈ gT := gT_tb (i := 1294) (by decide +kernel) rfl
theorem wse_X12_X12_isPleaded_X12_isPleaded : Cond.selects RX12 yX12_isPleaded yX12_isPleaded ∈ gT := gT_pr (i := 31) (by decide +kernel) rfl
theorem wco_X12_factsOf : Cond.code yX12_factsOf cX12_factsOf 4 (some .int) ∈ gT := gT_tb (i := 1287) (by decide +kernel) rfl
theorem mf_X12_factsOf : gMf yX12_factsOf cX12_factsOf 4 (some .int) 2 := ⟨wco_X12_factsOf, win_X12, ⟨by decide +kernel, by decide +kernel⟩, by decide +kernel⟩
theorem wml_X12_130 : Cond.methodLink RX12 130 yX12_factsOf ∈ gT := gT_tb (i := 1284) (by decide +kernel) rfl
theorem wim_X12_factsOf : Cond.instanceMethod yX12_factsOf ∈ gT := gT_tb (i := 1286) (by decide +kernel) rfl
theorem wse_X12_X12_factsOf_X12_factsOf : Cond.selects RX12 yX12_factsOf yX12_factsOf ∈ gT := gT_pr (i := 29) (by decide +kernel) rfl
theorem wfl_X12_142 : Cond.fieldLink RX12 142 "PenaltyGridModel" "tapeMany" "I" ∈ gT := gT_tb (i := 1116) (by decide +kernel) rfl
theorem gf_X12_142_11 : gFld RX12 142 11 10 := ⟨RX12, TX12, 45, "PenaltyGridModel", cls_11, by decide, wfl_X12_142, Or.inl rfl, Or.inl rfl⟩
theorem gg_X12_142 : ∀ t ∈ [11], gFldG RX12 142 t 10 ∧ gIsR (gFt t 10) = false := List.forall_mem_cons.mpr ⟨⟨gf_X12_142_11.g, rfl⟩, fun _ h => absurd h List.not_mem_nil⟩
theorem gg_X12_37 : ∀ t ∈ [11], gFldG RX12 37 t 9 ∧ gIsR (gFt t 9) = true := List.forall_mem_cons.mpr ⟨⟨gf_X12_37_11.g, rfl⟩, fun _ h => absurd h List.not_mem_nil⟩
theorem gp_X12_142 {nm : String} : ∀ t ∈ [11], gFld RX12 142 t 10 ∧ gFt t 10 = .int ∧ (nm = "<init>" ∨ ∀ (C : String) (T : u_T) (N : Nat), vwCl[t]? = some (C, T, N) → (T 10).2.2.2 = false) := List.forall_mem_cons.mpr ⟨⟨gf_X12_142_11, rfl, Or.inr (fun _ _ _ h => by cases h; rfl)⟩, fun _ h => absurd h List.not_mem_nil⟩
theorem wcl_X12_146 : Cond.constantLong RX12 146 (255) ∈ gT := gT_tb (i := 1315) (by decide +kernel) rfl
theorem wfl_X12_151 : Cond.fieldLink RX12 151 "PenaltyGridModel" "tokenAt" "I" ∈ gT := gT_tb (i := 1118) (by decide +kernel) rfl
theorem gf_X12_151_11 : gFld RX12 151 11 12 := ⟨RX12, TX12, 45, "PenaltyGridModel", cls_11, by decide, wfl_X12_151, Or.inl rfl, Or.inl rfl⟩
theorem gg_X12_151 : ∀ t ∈ [11], gFldG RX12 151 t 12 ∧ gIsR (gFt t 12) = false := List.forall_mem_cons.mpr ⟨⟨gf_X12_151_11.g, rfl⟩, fun _ h => absurd h List.not_mem_nil⟩
theorem gg_X12_49 : ∀ t ∈ [11], gFldG RX12 49 t 21 ∧ gIsR (gFt t 21) = true := List.forall_mem_cons.mpr ⟨⟨gf_X12_49_11.g, rfl⟩, fun _ h => absurd h List.not_mem_nil⟩
theorem wfl_X12_148 : Cond.fieldLink RX12 148 "PenaltyGridModel" "tokenEnd" "I" ∈ gT := gT_tb (i := 1119) (by decide +kernel) rfl
theorem gf_X12_148_11 : gFld RX12 148 11 13 := ⟨RX12, TX12, 45, "PenaltyGridModel", cls_11, by decide, wfl_X12_148, Or.inl rfl, Or.inl rfl⟩
theorem gg_X12_148 : ∀ t ∈ [11], gFldG RX12 148 t 13 ∧ gIsR (gFt t 13) = false := List.forall_mem_cons.mpr ⟨⟨gf_X12_148_11.g, rfl⟩, fun _ h => absurd h List.not_mem_nil⟩
theorem wfl_X12_154 : Cond.fieldLink RX12 154 "PenaltyGridModel" "tokenValue" "I" ∈ gT := gT_tb (i := 1120) (by decide +kernel) rfl
theorem gf_X12_154_11 : gFld RX12 154 11 14 := ⟨RX12, TX12, 45, "PenaltyGridModel", cls_11, by decide, wfl_X12_154, Or.inl rfl, Or.inl rfl⟩
theorem gp_X12_154 {nm : String} : ∀ t ∈ [11], gFld RX12 154 t 14 ∧ gFt t 14 = .int ∧ (nm = "<init>" ∨ ∀ (C : String) (T : u_T) (N : Nat), vwCl[t]? = some (C, T, N) → (T 14).2.2.2 = false) := List.forall_mem_cons.mpr ⟨⟨gf_X12_154_11, rfl, Or.inr (fun _ _ _ h => by cases h; rfl)⟩, fun _ h => absurd h List.not_mem_nil⟩
theorem gp_X12_148 {nm : String} : ∀ t ∈ [11], gFld RX12 148 t 13 ∧ gFt t 13 = .int ∧ (nm = "<init>" ∨ ∀ (C : String) (T : u_T) (N : Nat), vwCl[t]? = some (C, T, N) → (T 13).2.2.2 = false) := List.forall_mem_cons.mpr ⟨⟨gf_X12_148_11, rfl, Or.inr (fun _ _ _ h => by cases h; rfl)⟩, fun _ h => absurd h List.not_mem_nil⟩
theorem wfl_X12_157 : Cond.fieldLink RX12 157 "PenaltyGridModel" "tokenKind" "I" ∈ gT := gT_tb (i := 1117) (by decide +kernel) rfl
theorem gf_X12_157_11 : gFld RX12 157 11 11 := ⟨RX12, TX12, 45, "PenaltyGridModel", cls_11, by decide, wfl_X12_157, Or.inl rfl, Or.inl rfl⟩
theorem gg_X12_157 : ∀ t ∈ [11], gFldG RX12 157 t 11 ∧ gIsR (gFt t 11) = false := List.forall_mem_cons.mpr ⟨⟨gf_X12_157_11.g, rfl⟩, fun _ h => absurd h List.not_mem_nil⟩
theorem wco_X12_isSeven : Cond.code yX12_isSeven cX12_isSeven 3 (some .boolean) ∈ gT := gT_tb (i := 1333) (by decide +kernel) rfl
theorem mf_X12_isSeven : gMf yX12_isSeven cX12_isSeven 3 (some .boolean) 0 := ⟨wco_X12_isSeven, win_X12, ⟨by decide +kernel, by decide +kernel⟩, by decide +kernel⟩
theorem wml_X12_166 : Cond.methodLink RX12 166 yX12_isSeven ∈ gT := gT_tb (i := 1330) (by decide +kernel) rfl
theorem wim_X12_isSeven : Cond.instanceMethod yX12_isSeven ∈ gT := gT_tb (i := 1332) (by decide +kernel) rfl
theorem wse_X12_X12_isSeven_X12_isSeven : Cond.selects RX12 yX12_isSeven yX12_isSeven ∈ gT := gT_pr (i := 36) (by decide +kernel) rfl
theorem wco_X12_isLetter : Cond.code yX12_isLetter cX12_isLetter 1 (some .boolean) ∈ gT := gT_tb (i := 1326) (by decide +kernel) rfl
theorem mf_X12_isLetter : gMf yX12_isLetter cX12_isLetter 1 (some .boolean) 1 := ⟨wco_X12_isLetter, win_X12, ⟨by decide +kernel, by decide +kernel⟩, by decide +kernel⟩
theorem wml_X12_160 : Cond.methodLink RX12 160 yX12_isLetter ∈ gT := gT_tb (i := 1324) (by decide +kernel) rfl
theorem wst_X12_isLetter : Cond.static yX12_isLetter ∈ gT := gT_tb (i := 1325) (by decide +kernel) rfl
theorem gg_X12_154 : ∀ t ∈ [11], gFldG RX12 154 t 14 ∧ gIsR (gFt t 14) = false := List.forall_mem_cons.mpr ⟨⟨gf_X12_154_11.g, rfl⟩, fun _ h => absurd h List.not_mem_nil⟩
theorem wco_X12_isDigit : Cond.code yX12_isDigit cX12_isDigit 1 (some .boolean) ∈ gT := gT_tb (i := 1329) (by decide +kernel) rfl
theorem mf_X12_isDigit : gMf yX12_isDigit cX12_isDigit 1 (some .boolean) 1 := ⟨wco_X12_isDigit, win_X12, ⟨by decide +kernel, by decide +kernel⟩, by decide +kernel⟩
theorem wml_X12_163 : Cond.methodLink RX12 163 yX12_isDigit ∈ gT := gT_tb (i := 1327) (by decide +kernel) rfl
theorem wst_X12_isDigit : Cond.static yX12_isDigit ∈ gT := gT_tb (i := 1328) (by decide +kernel) rfl
theorem gp_X12_151 {nm : String} : ∀ t ∈ [11], gFld RX12 151 t 12 ∧ gFt t 12 = .int ∧ (nm = "<init>" ∨ ∀ (C : String) (T : u_T) (N : Nat), vwCl[t]? = some (C, T, N) → (T 12).2.2.2 = false) := List.forall_mem_cons.mpr ⟨⟨gf_X12_151_11, rfl, Or.inr (fun _ _ _ h => by cases h; rfl)⟩, fun _ h => absurd h List.not_mem_nil⟩
theorem gp_X12_157 {nm : String} : ∀ t ∈ [11], gFld RX12 157 t 11 ∧ gFt t 11 = .int ∧ (nm = "<init>" ∨ ∀ (C : String) (T : u_T) (N : Nat), vwCl[t]? = some (C, T, N) → (T 11).2.2.2 = false) := List.forall_mem_cons.mpr ⟨⟨gf_X12_157_11, rfl, Or.inr (fun _ _ _ h => by cases h; rfl)⟩, fun _ h => absurd h List.not_mem_nil⟩
theorem wfl_X12_170 : Cond.fieldLink RX12 170 "PenaltyGridModel" "fault" "I" ∈ gT := gT_tb (i := 1121) (by decide +kernel) rfl
theorem gf_X12_170_11 : gFld RX12 170 11 15 := ⟨RX12, TX12, 45, "PenaltyGridModel", cls_11, by decide, wfl_X12_170, Or.inl rfl, Or.inl rfl⟩
theorem gg_X12_170 : ∀ t ∈ [11], gFldG RX12 170 t 15 ∧ gIsR (gFt t 15) = false := List.forall_mem_cons.mpr ⟨⟨gf_X12_170_11.g, rfl⟩, fun _ h => absurd h List.not_mem_nil⟩
theorem gp_X12_170 {nm : String} : ∀ t ∈ [11], gFld RX12 170 t 15 ∧ gFt t 15 = .int ∧ (nm = "<init>" ∨ ∀ (C : String) (T : u_T) (N : Nat), vwCl[t]? = some (C, T, N) → (T 15).2.2.2 = false) := List.forall_mem_cons.mpr ⟨⟨gf_X12_170_11, rfl, Or.inr (fun _ _ _ h => by cases h; rfl)⟩, fun _ h => absurd h List.not_mem_nil⟩
theorem wco_X12_wrong : Cond.code yX12_wrong cX12_wrong 1 none ∈ gT := gT_tb (i := 1359) (by decide +kernel) rfl
theorem mf_X12_wrong : gMf yX12_wrong cX12_wrong 1 none 0 := ⟨wco_X12_wrong, win_X12, ⟨by decide +kernel, by decide +kernel⟩, by decide +kernel⟩
theorem wml_X12_179 : Cond.methodLink RX12 179 yX12_wrong ∈ gT := gT_tb (i := 1356) (by decide +kernel) rfl
theorem wim_X12_wrong : Cond.instanceMethod yX12_wrong ∈ gT := gT_tb (i := 1358) (by decide +kernel) rfl
theorem wse_X12_X12_wrong_X12_wrong : Cond.selects RX12 yX12_wrong yX12_wrong ∈ gT := gT_pr (i := 41) (by decide +kernel) rfl
theorem wco_X12_isGood : Cond.code yX12_isGood cX12_isGood 1 (some .boolean) ∈ gT := gT_tb (i := 1337) (by decide +kernel) rfl
theorem mf_X12_isGood : gMf yX12_isGood cX12_isGood 1 (some .boolean) 0 := ⟨wco_X12_isGood, win_X12, ⟨by decide +kernel, by decide +kernel⟩, by decide +kernel⟩
theorem wml_X12_173 : Cond.methodLink RX12 173 yX12_isGood ∈ gT := gT_tb (i := 1334) (by decide +kernel) rfl
theorem wim_X12_isGood : Cond.instanceMethod yX12_isGood ∈ gT := gT_tb (i := 1336) (by decide +kernel) rfl
theorem wse_X12_X12_isGood_X12_isGood : Cond.selects RX12 yX12_isGood yX12_isGood ∈ gT := gT_pr (i := 37) (by decide +kernel) rfl
theorem wco_X12_advance : Cond.code yX12_advance cX12_advance 2 none ∈ gT := gT_tb (i := 1323) (by decide +kernel) rfl
theorem mf_X12_advance : gMf yX12_advance cX12_advance 2 none 0 := ⟨wco_X12_advance, win_X12, ⟨by decide +kernel, by decide +kernel⟩, by decide +kernel⟩
theorem wml_X12_176 : Cond.methodLink RX12 176 yX12_advance ∈ gT := gT_tb (i := 1320) (by decide +kernel) rfl
theorem wim_X12_advance : Cond.instanceMethod yX12_advance ∈ gT := gT_tb (i := 1322) (by decide +kernel) rfl
theorem wse_X12_X12_advance_X12_advance : Cond.selects RX12 yX12_advance yX12_advance ∈ gT := gT_pr (i := 35) (by decide +kernel) rfl
theorem gg_X12_43 : ∀ t ∈ [11], gFldG RX12 43 t 17 ∧ gIsR (gFt t 17) = true := List.forall_mem_cons.mpr ⟨⟨gf_X12_43_11.g, rfl⟩, fun _ h => absurd h List.not_mem_nil⟩
theorem wfl_X12_182 : Cond.fieldLink RX12 182 "PenaltyGridModel" "freshMany" "I" ∈ gT := gT_tb (i := 1125) (by decide +kernel) rfl
theorem gf_X12_182_11 : gFld RX12 182 11 19 := ⟨RX12, TX12, 45, "PenaltyGridModel", cls_11, by decide, wfl_X12_182, Or.inl rfl, Or.inl rfl⟩
theorem gg_X12_182 : ∀ t ∈ [11], gFldG RX12 182 t 19 ∧ gIsR (gFt t 19) = false := List.forall_mem_cons.mpr ⟨⟨gf_X12_182_11.g, rfl⟩, fun _ h => absurd h List.not_mem_nil⟩
theorem gp_X12_182 {nm : String} : ∀ t ∈ [11], gFld RX12 182 t 19 ∧ gFt t 19 = .int ∧ (nm = "<init>" ∨ ∀ (C : String) (T : u_T) (N : Nat), vwCl[t]? = some (C, T, N) → (T 19).2.2.2 = false) := List.forall_mem_cons.mpr ⟨⟨gf_X12_182_11, rfl, Or.inr (fun _ _ _ h => by cases h; rfl)⟩, fun _ h => absurd h List.not_mem_nil⟩
theorem wfl_X12_185 : Cond.fieldLink RX12 185 "PenaltyGridModel" "waits" "I" ∈ gT := gT_tb (i := 1126) (by decide +kernel) rfl
theorem gf_X12_185_11 : gFld RX12 185 11 20 := ⟨RX12, TX12, 45, "PenaltyGridModel", cls_11, by decide, wfl_X12_185, Or.inl rfl, Or.inl rfl⟩
theorem gg_X12_185 : ∀ t ∈ [11], gFldG RX12 185 t 20 ∧ gIsR (gFt t 20) = false := List.forall_mem_cons.mpr ⟨⟨gf_X12_185_11.g, rfl⟩, fun _ h => absurd h List.not_mem_nil⟩
theorem gg_X12_46 : ∀ t ∈ [11], gFldG RX12 46 t 18 ∧ gIsR (gFt t 18) = true := List.forall_mem_cons.mpr ⟨⟨gf_X12_46_11.g, rfl⟩, fun _ h => absurd h List.not_mem_nil⟩
theorem gp_X12_185 {nm : String} : ∀ t ∈ [11], gFld RX12 185 t 20 ∧ gFt t 20 = .int ∧ (nm = "<init>" ∨ ∀ (C : String) (T : u_T) (N : Nat), vwCl[t]? = some (C, T, N) → (T 20).2.2.2 = false) := List.forall_mem_cons.mpr ⟨⟨gf_X12_185_11, rfl, Or.inr (fun _ _ _ h => by cases h; rfl)⟩, fun _ h => absurd h List.not_mem_nil⟩
theorem wco_X12_emit : Cond.code yX12_emit cX12_emit 2 none ∈ gT := gT_tb (i := 1396) (by decide +kernel) rfl
theorem mf_X12_emit : gMf yX12_emit cX12_emit 2 none 1 := ⟨wco_X12_emit, win_X12, ⟨by decide +kernel, by decide +kernel⟩, by decide +kernel⟩
theorem wml_X12_188 : Cond.methodLink RX12 188 yX12_emit ∈ gT := gT_tb (i := 1393) (by decide +kernel) rfl
theorem wim_X12_emit : Cond.instanceMethod yX12_emit ∈ gT := gT_tb (i := 1395) (by decide +kernel) rfl
theorem wse_X12_X12_emit_X12_emit : Cond.selects RX12 yX12_emit yX12_emit ∈ gT := gT_pr (i := 49) (by decide +kernel) rfl
theorem wco_X12_isWord : Cond.code yX12_isWord cX12_isWord 2 (some .boolean) ∈ gT := gT_tb (i := 1350) (by decide +kernel) rfl
theorem mf_X12_isWord : gMf yX12_isWord cX12_isWord 2 (some .boolean) 1 := ⟨wco_X12_isWord, win_X12, ⟨by decide +kernel, by decide +kernel⟩, by decide +kernel⟩
theorem wml_X12_193 : Cond.methodLink RX12 193 yX12_isWord ∈ gT := gT_tb (i := 1347) (by decide +kernel) rfl
theorem wim_X12_isWord : Cond.instanceMethod yX12_isWord ∈ gT := gT_tb (i := 1349) (by decide +kernel) rfl
theorem wse_X12_X12_isWord_X12_isWord : Cond.selects RX12 yX12_isWord yX12_isWord ∈ gT := gT_pr (i := 40) (by decide +kernel) rfl
theorem wct_X12_199 : Cond.constant RX12 199 (13596964) ∈ gT := gT_tb (i := 1392) (by decide +kernel) rfl
theorem wct_X12_198 : Cond.constant RX12 198 (139109) ∈ gT := gT_tb (i := 1391) (by decide +kernel) rfl
theorem wct_X12_197 : Cond.constant RX12 197 (117696460) ∈ gT := gT_tb (i := 1390) (by decide +kernel) rfl
theorem wct_X12_196 : Cond.constant RX12 196 (173279) ∈ gT := gT_tb (i := 1389) (by decide +kernel) rfl
theorem wct_X12_192 : Cond.constant RX12 192 (332713832) ∈ gT := gT_tb (i := 1388) (by decide +kernel) rfl
theorem wco_X12_wantNumber : Cond.code yX12_wantNumber cX12_wantNumber 4 (some .int) ∈ gT := gT_tb (i := 1363) (by decide +kernel) rfl
theorem mf_X12_wantNumber : gMf yX12_wantNumber cX12_wantNumber 4 (some .int) 2 := ⟨wco_X12_wantNumber, win_X12, ⟨by decide +kernel, by decide +kernel⟩, by decide +kernel⟩
theorem wml_X12_202 : Cond.methodLink RX12 202 yX12_wantNumber ∈ gT := gT_tb (i := 1360) (by decide +kernel) rfl
theorem wim_X12_wantNumber : Cond.instanceMethod yX12_wantNumber ∈ gT := gT_tb (i := 1362) (by decide +kernel) rfl
theorem wse_X12_X12_wantNumber_X12_wantNumber : Cond.selects RX12 yX12_wantNumber yX12_wantNumber ∈ gT := gT_pr (i := 42) (by decide +kernel) rfl
theorem wct_X12_201 : Cond.constant RX12 201 (223456) ∈ gT := gT_tb (i := 1405) (by decide +kernel) rfl
theorem wct_X12_200 : Cond.constant RX12 200 (237742039) ∈ gT := gT_tb (i := 1351) (by decide +kernel) rfl
theorem wco_X12_isMark : Cond.code yX12_isMark cX12_isMark 2 (some .boolean) ∈ gT := gT_tb (i := 1379) (by decide +kernel) rfl
theorem mf_X12_isMark : gMf yX12_isMark cX12_isMark 2 (some .boolean) 1 := ⟨wco_X12_isMark, win_X12, ⟨by decide +kernel, by decide +kernel⟩, by decide +kernel⟩
theorem wml_X12_208 : Cond.methodLink RX12 208 yX12_isMark ∈ gT := gT_tb (i := 1376) (by decide +kernel) rfl
theorem wim_X12_isMark : Cond.instanceMethod yX12_isMark ∈ gT := gT_tb (i := 1378) (by decide +kernel) rfl
theorem wse_X12_X12_isMark_X12_isMark : Cond.selects RX12 yX12_isMark yX12_isMark ∈ gT := gT_pr (i := 46) (by decide +kernel) rfl
theorem wco_X12_wantValue : Cond.code yX12_wantValue cX12_wantValue 3 none ∈ gT := gT_tb (i := 1404) (by decide +kernel) rfl
theorem mf_X12_wantValue : gMf yX12_wantValue cX12_wantValue 3 none 0 := ⟨wco_X12_wantValue, win_X12, ⟨by decide +kernel, by decide +kernel⟩, by decide +kernel⟩
theorem wml_X12_205 : Cond.methodLink RX12 205 yX12_wantValue ∈ gT := gT_tb (i := 1401) (by decide +kernel) rfl
theorem wim_X12_wantValue : Cond.instanceMethod yX12_wantValue ∈ gT := gT_tb (i := 1403) (by decide +kernel) rfl
theorem wse_X12_X12_wantValue_X12_wantValue : Cond.selects RX12 yX12_wantValue yX12_wantValue ∈ gT := gT_pr (i := 51) (by decide +kernel) rfl
theorem wco_X12_want : Cond.code yX12_want cX12_want 2 none ∈ gT := gT_tb (i := 1367) (by decide +kernel) rfl
theorem mf_X12_want : gMf yX12_want cX12_want 2 none 1 := ⟨wco_X12_want, win_X12, ⟨by decide +kernel, by decide +kernel⟩, by decide +kernel⟩
theorem wml_X12_218 : Cond.methodLink RX12 218 yX12_want ∈ gT := gT_tb (i := 1364) (by decide +kernel) rfl
theorem wim_X12_want : Cond.instanceMethod yX12_want ∈ gT := gT_tb (i := 1366) (by decide +kernel) rfl
theorem wse_X12_X12_want_X12_want : Cond.selects RX12 yX12_want yX12_want ∈ gT := gT_pr (i := 43) (by decide +kernel) rfl
theorem wco_X12_wantSum : Cond.code yX12_wantSum cX12_wantSum 1 none ∈ gT := gT_tb (i := 1400) (by decide +kernel) rfl
theorem mf_X12_wantSum : gMf yX12_wantSum cX12_wantSum 1 none 0 := ⟨wco_X12_wantSum, win_X12, ⟨by decide +kernel, by decide +kernel⟩, by decide +kernel⟩
theorem wml_X12_215 : Cond.methodLink RX12 215 yX12_wantSum ∈ gT := gT_tb (i := 1397) (by decide +kernel) rfl
theorem wim_X12_wantSum : Cond.instanceMethod yX12_wantSum ∈ gT := gT_tb (i := 1399) (by decide +kernel) rfl
theorem wse_X12_X12_wantSum_X12_wantSum : Cond.selects RX12 yX12_wantSum yX12_wantSum ∈ gT := gT_pr (i := 50) (by decide +kernel) rfl
theorem wco_X12_factHere : Cond.code yX12_factHere cX12_factHere 1 (some .int) ∈ gT := gT_tb (i := 1387) (by decide +kernel) rfl
theorem mf_X12_factHere : gMf yX12_factHere cX12_factHere 1 (some .int) 0 := ⟨wco_X12_factHere, win_X12, ⟨by decide +kernel, by decide +kernel⟩, by decide +kernel⟩
theorem wml_X12_211 : Cond.methodLink RX12 211 yX12_factHere ∈ gT := gT_tb (i := 1384) (by decide +kernel) rfl
theorem wim_X12_factHere : Cond.instanceMethod yX12_factHere ∈ gT := gT_tb (i := 1386) (by decide +kernel) rfl
theorem wse_X12_X12_factHere_X12_factHere : Cond.selects RX12 yX12_factHere yX12_factHere ∈ gT := gT_pr (i := 48) (by decide +kernel) rfl
theorem wco_X12_settle : Cond.code yX12_settle cX12_settle 2 none ∈ gT := gT_tb (i := 1409) (by decide +kernel) rfl
theorem mf_X12_settle : gMf yX12_settle cX12_settle 2 none 1 := ⟨wco_X12_settle, win_X12, ⟨by decide +kernel, by decide +kernel⟩, by decide +kernel⟩
theorem wml_X12_228 : Cond.methodLink RX12 228 yX12_settle ∈ gT := gT_tb (i := 1406) (by decide +kernel) rfl
theorem wim_X12_settle : Cond.instanceMethod yX12_settle ∈ gT := gT_tb (i := 1408) (by decide +kernel) rfl
theorem wse_X12_X12_settle_X12_settle : Cond.selects RX12 yX12_settle yX12_settle ∈ gT := gT_pr (i := 52) (by decide +kernel) rfl
theorem wco_X12_hold : Cond.code yX12_hold cX12_hold 2 none ∈ gT := gT_tb (i := 1375) (by decide +kernel) rfl
theorem mf_X12_hold : gMf yX12_hold cX12_hold 2 none 1 := ⟨wco_X12_hold, win_X12, ⟨by decide +kernel, by decide +kernel⟩, by decide +kernel⟩
theorem wml_X12_222 : Cond.methodLink RX12 222 yX12_hold ∈ gT := gT_tb (i := 1372) (by decide +kernel) rfl
theorem wim_X12_hold : Cond.instanceMethod yX12_hold ∈ gT := gT_tb (i := 1374) (by decide +kernel) rfl
theorem wse_X12_X12_hold_X12_hold : Cond.selects RX12 yX12_hold yX12_hold ∈ gT := gT_pr (i := 45) (by decide +kernel) rfl
theorem wco_X12_wantAsk : Cond.code yX12_wantAsk cX12_wantAsk 3 none ∈ gT := gT_tb (i := 1383) (by decide +kernel) rfl
theorem mf_X12_wantAsk : gMf yX12_wantAsk cX12_wantAsk 3 none 0 := ⟨wco_X12_wantAsk, win_X12, ⟨by decide +kernel, by decide +kernel⟩, by decide +kernel⟩
theorem wml_X12_225 : Cond.methodLink RX12 225 yX12_wantAsk ∈ gT := gT_tb (i := 1380) (by decide +kernel) rfl
theorem wim_X12_wantAsk : Cond.instanceMethod yX12_wantAsk ∈ gT := gT_tb (i := 1382) (by decide +kernel) rfl
theorem wse_X12_X12_wantAsk_X12_wantAsk : Cond.selects RX12 yX12_wantAsk yX12_wantAsk ∈ gT := gT_pr (i := 47) (by decide +kernel) rfl
theorem wct_X12_231 : Cond.constant RX12 231 (4075709) ∈ gT := gT_tb (i := 1346) (by decide +kernel) rfl
theorem wct_X12_235 : Cond.constant RX12 235 (40187) ∈ gT := gT_tb (i := 1355) (by decide +kernel) rfl
theorem wct_X12_234 : Cond.constant RX12 234 (31735670) ∈ gT := gT_tb (i := 1354) (by decide +kernel) rfl
theorem wct_X12_233 : Cond.constant RX12 233 (90302) ∈ gT := gT_tb (i := 1353) (by decide +kernel) rfl
theorem wct_X12_232 : Cond.constant RX12 232 (9596021) ∈ gT := gT_tb (i := 1352) (by decide +kernel) rfl
theorem gg_X12_40 : ∀ t ∈ [11], gFldG RX12 40 t 16 ∧ gIsR (gFt t 16) = true := List.forall_mem_cons.mpr ⟨⟨gf_X12_40_11.g, rfl⟩, fun _ h => absurd h List.not_mem_nil⟩
theorem wco_X12_wantCond : Cond.code yX12_wantCond cX12_wantCond 5 none ∈ gT := gT_tb (i := 1371) (by decide +kernel) rfl
theorem mf_X12_wantCond : gMf yX12_wantCond cX12_wantCond 5 none 0 := ⟨wco_X12_wantCond, win_X12, ⟨by decide +kernel, by decide +kernel⟩, by decide +kernel⟩
theorem wml_X12_239 : Cond.methodLink RX12 239 yX12_wantCond ∈ gT := gT_tb (i := 1368) (by decide +kernel) rfl
theorem wim_X12_wantCond : Cond.instanceMethod yX12_wantCond ∈ gT := gT_tb (i := 1370) (by decide +kernel) rfl
theorem wse_X12_X12_wantCond_X12_wantCond : Cond.selects RX12 yX12_wantCond yX12_wantCond ∈ gT := gT_pr (i := 44) (by decide +kernel) rfl
theorem wco_X12_sortHere : Cond.code yX12_sortHere cX12_sortHere 1 (some .int) ∈ gT := gT_tb (i := 1345) (by decide +kernel) rfl
theorem mf_X12_sortHere : gMf yX12_sortHere cX12_sortHere 1 (some .int) 0 := ⟨wco_X12_sortHere, win_X12, ⟨by decide +kernel, by decide +kernel⟩, by decide +kernel⟩
theorem wml_X12_236 : Cond.methodLink RX12 236 yX12_sortHere ∈ gT := gT_tb (i := 1342) (by decide +kernel) rfl
theorem wim_X12_sortHere : Cond.instanceMethod yX12_sortHere ∈ gT := gT_tb (i := 1344) (by decide +kernel) rfl
theorem wse_X12_X12_sortHere_X12_sortHere : Cond.selects RX12 yX12_sortHere yX12_sortHere ∈ gT := gT_pr (i := 39) (by decide +kernel) rfl
theorem gg_X12_28 : ∀ t ∈ [11], gFldG RX12 28 t 6 ∧ gIsR (gFt t 6) = true := List.forall_mem_cons.mpr ⟨⟨gf_X12_28_11.g, rfl⟩, fun _ h => absurd h List.not_mem_nil⟩
theorem gg_X12_25 : ∀ t ∈ [11], gFldG RX12 25 t 5 ∧ gIsR (gFt t 5) = true := List.forall_mem_cons.mpr ⟨⟨gf_X12_25_11.g, rfl⟩, fun _ h => absurd h List.not_mem_nil⟩
theorem gg_X12_22 : ∀ t ∈ [11], gFldG RX12 22 t 4 ∧ gIsR (gFt t 4) = true := List.forall_mem_cons.mpr ⟨⟨gf_X12_22_11.g, rfl⟩, fun _ h => absurd h List.not_mem_nil⟩
theorem wco_X12_wantLine : Cond.code yX12_wantLine cX12_wantLine 4 none ∈ gT := gT_tb (i := 1341) (by decide +kernel) rfl
theorem mf_X12_wantLine : gMf yX12_wantLine cX12_wantLine 4 none 1 := ⟨wco_X12_wantLine, win_X12, ⟨by decide +kernel, by decide +kernel⟩, by decide +kernel⟩
theorem wml_X12_242 : Cond.methodLink RX12 242 yX12_wantLine ∈ gT := gT_tb (i := 1338) (by decide +kernel) rfl
theorem wim_X12_wantLine : Cond.instanceMethod yX12_wantLine ∈ gT := gT_tb (i := 1340) (by decide +kernel) rfl
theorem wse_X12_X12_wantLine_X12_wantLine : Cond.selects RX12 yX12_wantLine yX12_wantLine ∈ gT := gT_pr (i := 38) (by decide +kernel) rfl
theorem wco_X12_ofLine : Cond.code yX12_ofLine cX12_ofLine 4 (some .int) ∈ gT := gT_tb (i := 1425) (by decide +kernel) rfl
theorem mf_X12_ofLine : gMf yX12_ofLine cX12_ofLine 4 (some .int) 3 := ⟨wco_X12_ofLine, win_X12, ⟨by decide +kernel, by decide +kernel⟩, by decide +kernel⟩
theorem wml_X12_245 : Cond.methodLink RX12 245 yX12_ofLine ∈ gT := gT_tb (i := 1422) (by decide +kernel) rfl
theorem wim_X12_ofLine : Cond.instanceMethod yX12_ofLine ∈ gT := gT_tb (i := 1424) (by decide +kernel) rfl
theorem wse_X12_X12_ofLine_X12_ofLine : Cond.selects RX12 yX12_ofLine yX12_ofLine ∈ gT := gT_pr (i := 55) (by decide +kernel) rfl
theorem wco_X12_isVersion : Cond.code yX12_isVersion cX12_isVersion 2 (some .boolean) ∈ gT := gT_tb (i := 1417) (by decide +kernel) rfl
theorem mf_X12_isVersion : gMf yX12_isVersion cX12_isVersion 2 (some .boolean) 1 := ⟨wco_X12_isVersion, win_X12, ⟨by decide +kernel, by decide +kernel⟩, by decide +kernel⟩
theorem wml_X12_249 : Cond.methodLink RX12 249 yX12_isVersion ∈ gT := gT_tb (i := 1414) (by decide +kernel) rfl
theorem wim_X12_isVersion : Cond.instanceMethod yX12_isVersion ∈ gT := gT_tb (i := 1416) (by decide +kernel) rfl
theorem wse_X12_X12_isVersion_X12_isVersion : Cond.selects RX12 yX12_isVersion yX12_isVersion ∈ gT := gT_pr (i := 53) (by decide +kernel) rfl
theorem wco_X12_looksBack : Cond.code yX12_looksBack cX12_looksBack 4 (some .boolean) ∈ gT := gT_tb (i := 1421) (by decide +kernel) rfl
theorem mf_X12_looksBack : gMf yX12_looksBack cX12_looksBack 4 (some .boolean) 1 := ⟨wco_X12_looksBack, win_X12, ⟨by decide +kernel, by decide +kernel⟩, by decide +kernel⟩
theorem wml_X12_252 : Cond.methodLink RX12 252 yX12_looksBack ∈ gT := gT_tb (i := 1418) (by decide +kernel) rfl
theorem wim_X12_looksBack : Cond.instanceMethod yX12_looksBack ∈ gT := gT_tb (i := 1420) (by decide +kernel) rfl
theorem wse_X12_X12_looksBack_X12_looksBack : Cond.selects RX12 yX12_looksBack yX12_looksBack ∈ gT := gT_pr (i := 54) (by decide +kernel) rfl
theorem wco_X12_lawOf : Cond.code yX12_lawOf cX12_lawOf 7 (some .int) ∈ gT := gT_tb (i := 1437) (by decide +kernel) rfl
theorem mf_X12_lawOf : gMf yX12_lawOf cX12_lawOf 7 (some .int) 2 := ⟨wco_X12_lawOf, win_X12, ⟨by decide +kernel, by decide +kernel⟩, by decide +kernel⟩
theorem wml_X12_255 : Cond.methodLink RX12 255 yX12_lawOf ∈ gT := gT_tb (i := 1434) (by decide +kernel) rfl
theorem wim_X12_lawOf : Cond.instanceMethod yX12_lawOf ∈ gT := gT_tb (i := 1436) (by decide +kernel) rfl
theorem wse_X12_X12_lawOf_X12_lawOf : Cond.selects RX12 yX12_lawOf yX12_lawOf ∈ gT := gT_pr (i := 57) (by decide +kernel) rfl
theorem wco_X12_toldOf : Cond.code yX12_toldOf cX12_toldOf 6 (some .int) ∈ gT := gT_tb (i := 1457) (by decide +kernel) rfl
theorem mf_X12_toldOf : gMf yX12_toldOf cX12_toldOf 6 (some .int) 3 := ⟨wco_X12_toldOf, win_X12, ⟨by decide +kernel, by decide +kernel⟩, by decide +kernel⟩
theorem wml_X12_261 : Cond.methodLink RX12 261 yX12_toldOf ∈ gT := gT_tb (i := 1454) (by decide +kernel) rfl
theorem wim_X12_toldOf : Cond.instanceMethod yX12_toldOf ∈ gT := gT_tb (i := 1456) (by decide +kernel) rfl
theorem wse_X12_X12_toldOf_X12_toldOf : Cond.selects RX12 yX12_toldOf yX12_toldOf ∈ gT := gT_pr (i := 61) (by decide +kernel) rfl
theorem wco_X12_oldOf : Cond.code yX12_oldOf cX12_oldOf 4 (some .int) ∈ gT := gT_tb (i := 1453) (by decide +kernel) rfl
theorem mf_X12_oldOf : gMf yX12_oldOf cX12_oldOf 4 (some .int) 1 := ⟨wco_X12_oldOf, win_X12, ⟨by decide +kernel, by decide +kernel⟩, by decide +kernel⟩
theorem wml_X12_258 : Cond.methodLink RX12 258 yX12_oldOf ∈ gT := gT_tb (i := 1450) (by decide +kernel) rfl
theorem wim_X12_oldOf : Cond.instanceMethod yX12_oldOf ∈ gT := gT_tb (i := 1452) (by decide +kernel) rfl
theorem wse_X12_X12_oldOf_X12_oldOf : Cond.selects RX12 yX12_oldOf yX12_oldOf ∈ gT := gT_pr (i := 60) (by decide +kernel) rfl
theorem wco_X12_isYoung : Cond.code yX12_isYoung cX12_isYoung 2 (some .boolean) ∈ gT := gT_tb (i := 1483) (by decide +kernel) rfl
theorem mf_X12_isYoung : gMf yX12_isYoung cX12_isYoung 2 (some .boolean) 1 := ⟨wco_X12_isYoung, win_X12, ⟨by decide +kernel, by decide +kernel⟩, by decide +kernel⟩
theorem wml_X12_264 : Cond.methodLink RX12 264 yX12_isYoung ∈ gT := gT_tb (i := 1480) (by decide +kernel) rfl
theorem wim_X12_isYoung : Cond.instanceMethod yX12_isYoung ∈ gT := gT_tb (i := 1482) (by decide +kernel) rfl
theorem wse_X12_X12_isYoung_X12_isYoung : Cond.selects RX12 yX12_isYoung yX12_isYoung ∈ gT := gT_pr (i := 65) (by decide +kernel) rfl
theorem gg_X12_52 : ∀ t ∈ [11], gFldG RX12 52 t 22 ∧ gIsR (gFt t 22) = true := List.forall_mem_cons.mpr ⟨⟨gf_X12_52_11.g, rfl⟩, fun _ h => absurd h List.not_mem_nil⟩
theorem wco_X12_joins : Cond.code yX12_joins cX12_joins 1 (some .boolean) ∈ gT := gT_tb (i := 1472) (by decide +kernel) rfl
theorem mf_X12_joins : gMf yX12_joins cX12_joins 1 (some .boolean) 1 := ⟨wco_X12_joins, win_X12, ⟨by decide +kernel, by decide +kernel⟩, by decide +kernel⟩
theorem wml_X12_267 : Cond.methodLink RX12 267 yX12_joins ∈ gT := gT_tb (i := 1470) (by decide +kernel) rfl
theorem wst_X12_joins : Cond.static yX12_joins ∈ gT := gT_tb (i := 1471) (by decide +kernel) rfl
theorem wco_X12_valueOf : Cond.code yX12_valueOf cX12_valueOf 5 (some .int) ∈ gT := gT_tb (i := 1479) (by decide +kernel) rfl
theorem mf_X12_valueOf : gMf yX12_valueOf cX12_valueOf 5 (some .int) 4 := ⟨wco_X12_valueOf, win_X12, ⟨by decide +kernel, by decide +kernel⟩, by decide +kernel⟩
theorem wml_X12_273 : Cond.methodLink RX12 273 yX12_valueOf ∈ gT := gT_tb (i := 1476) (by decide +kernel) rfl
theorem wim_X12_valueOf : Cond.instanceMethod yX12_valueOf ∈ gT := gT_tb (i := 1478) (by decide +kernel) rfl
theorem wse_X12_X12_valueOf_X12_valueOf : Cond.selects RX12 yX12_valueOf yX12_valueOf ∈ gT := gT_pr (i := 64) (by decide +kernel) rfl
theorem wco_X12_joined : Cond.code yX12_joined cX12_joined 3 (some .int) ∈ gT := gT_tb (i := 1475) (by decide +kernel) rfl
theorem mf_X12_joined : gMf yX12_joined cX12_joined 3 (some .int) 3 := ⟨wco_X12_joined, win_X12, ⟨by decide +kernel, by decide +kernel⟩, by decide +kernel⟩
theorem wml_X12_270 : Cond.methodLink RX12 270 yX12_joined ∈ gT := gT_tb (i := 1473) (by decide +kernel) rfl
theorem wst_X12_joined : Cond.static yX12_joined ∈ gT := gT_tb (i := 1474) (by decide +kernel) rfl
theorem wco_X12_holds : Cond.code yX12_holds cX12_holds 10 (some .boolean) ∈ gT := gT_tb (i := 1469) (by decide +kernel) rfl
theorem mf_X12_holds : gMf yX12_holds cX12_holds 10 (some .boolean) 5 := ⟨wco_X12_holds, win_X12, ⟨by decide +kernel, by decide +kernel⟩, by decide +kernel⟩
theorem wml_X12_280 : Cond.methodLink RX12 280 yX12_holds ∈ gT := gT_tb (i := 1466) (by decide +kernel) rfl
theorem wim_X12_holds : Cond.instanceMethod yX12_holds ∈ gT := gT_tb (i := 1468) (by decide +kernel) rfl
theorem wse_X12_X12_holds_X12_holds : Cond.selects RX12 yX12_holds yX12_holds ∈ gT := gT_pr (i := 63) (by decide +kernel) rfl
theorem wco_X12_pointsOf : Cond.code yX12_pointsOf cX12_pointsOf 9 (some .int) ∈ gT := gT_tb (i := 1449) (by decide +kernel) rfl
theorem mf_X12_pointsOf : gMf yX12_pointsOf cX12_pointsOf 9 (some .int) 3 := ⟨wco_X12_pointsOf, win_X12, ⟨by decide +kernel, by decide +kernel⟩, by decide +kernel⟩
theorem wml_X12_277 : Cond.methodLink RX12 277 yX12_pointsOf ∈ gT := gT_tb (i := 1446) (by decide +kernel) rfl
theorem wim_X12_pointsOf : Cond.instanceMethod yX12_pointsOf ∈ gT := gT_tb (i := 1448) (by decide +kernel) rfl
theorem wse_X12_X12_pointsOf_X12_pointsOf : Cond.selects RX12 yX12_pointsOf yX12_pointsOf ∈ gT := gT_pr (i := 59) (by decide +kernel) rfl
theorem wco_X12_graveOf : Cond.code yX12_graveOf cX12_graveOf 8 (some .int) ∈ gT := gT_tb (i := 1465) (by decide +kernel) rfl
theorem mf_X12_graveOf : gMf yX12_graveOf cX12_graveOf 8 (some .int) 3 := ⟨wco_X12_graveOf, win_X12, ⟨by decide +kernel, by decide +kernel⟩, by decide +kernel⟩
theorem wml_X12_284 : Cond.methodLink RX12 284 yX12_graveOf ∈ gT := gT_tb (i := 1462) (by decide +kernel) rfl
theorem wim_X12_graveOf : Cond.instanceMethod yX12_graveOf ∈ gT := gT_tb (i := 1464) (by decide +kernel) rfl
theorem wse_X12_X12_graveOf_X12_graveOf : Cond.selects RX12 yX12_graveOf yX12_graveOf ∈ gT := gT_pr (i := 62) (by decide +kernel) rfl
theorem wco_X12_canAsk : Cond.code yX12_canAsk cX12_canAsk 4 (some .boolean) ∈ gT := gT_tb (i := 1445) (by decide +kernel) rfl
theorem mf_X12_canAsk : gMf yX12_canAsk cX12_canAsk 4 (some .boolean) 3 := ⟨wco_X12_canAsk, win_X12, ⟨by decide +kernel, by decide +kernel⟩, by decide +kernel⟩
theorem wml_X12_287 : Cond.methodLink RX12 287 yX12_canAsk ∈ gT := gT_tb (i := 1442) (by decide +kernel) rfl
theorem wim_X12_canAsk : Cond.instanceMethod yX12_canAsk ∈ gT := gT_tb (i := 1444) (by decide +kernel) rfl
theorem wse_X12_X12_canAsk_X12_canAsk : Cond.selects RX12 yX12_canAsk yX12_canAsk ∈ gT := gT_pr (i := 58) (by decide +kernel) rfl
theorem wco_X12_rangeOf : Cond.code yX12_rangeOf cX12_rangeOf 9 (some .int) ∈ gT := gT_tb (i := 1495) (by decide +kernel) rfl
theorem mf_X12_rangeOf : gMf yX12_rangeOf cX12_rangeOf 9 (some .int) 3 := ⟨wco_X12_rangeOf, win_X12, ⟨by decide +kernel, by decide +kernel⟩, by decide +kernel⟩
theorem wml_X12_290 : Cond.methodLink RX12 290 yX12_rangeOf ∈ gT := gT_tb (i := 1492) (by decide +kernel) rfl
theorem wim_X12_rangeOf : Cond.instanceMethod yX12_rangeOf ∈ gT := gT_tb (i := 1494) (by decide +kernel) rfl
theorem wse_X12_X12_rangeOf_X12_rangeOf : Cond.selects RX12 yX12_rangeOf yX12_rangeOf ∈ gT := gT_pr (i := 67) (by decide +kernel) rfl
theorem wct_X12_293 : Cond.constant RX12 293 (100000) ∈ gT := gT_tb (i := 1500) (by decide +kernel) rfl
theorem wco_X12_isTerm : Cond.code yX12_isTerm cX12_isTerm 2 (some .boolean) ∈ gT := gT_tb (i := 1508) (by decide +kernel) rfl
theorem mf_X12_isTerm : gMf yX12_isTerm cX12_isTerm 2 (some .boolean) 1 := ⟨wco_X12_isTerm, win_X12, ⟨by decide +kernel, by decide +kernel⟩, by decide +kernel⟩
theorem wml_X12_294 : Cond.methodLink RX12 294 yX12_isTerm ∈ gT := gT_tb (i := 1505) (by decide +kernel) rfl
theorem wim_X12_isTerm : Cond.instanceMethod yX12_isTerm ∈ gT := gT_tb (i := 1507) (by decide +kernel) rfl
theorem wse_X12_X12_isTerm_X12_isTerm : Cond.selects RX12 yX12_isTerm yX12_isTerm ∈ gT := gT_pr (i := 68) (by decide +kernel) rfl
theorem wco_X12_standing : Cond.code yX12_standing cX12_standing 4 (some .int) ∈ gT := gT_tb (i := 1512) (by decide +kernel) rfl
theorem mf_X12_standing : gMf yX12_standing cX12_standing 4 (some .int) 1 := ⟨wco_X12_standing, win_X12, ⟨by decide +kernel, by decide +kernel⟩, by decide +kernel⟩
theorem wml_X12_297 : Cond.methodLink RX12 297 yX12_standing ∈ gT := gT_tb (i := 1509) (by decide +kernel) rfl
theorem wim_X12_standing : Cond.instanceMethod yX12_standing ∈ gT := gT_tb (i := 1511) (by decide +kernel) rfl
theorem wse_X12_X12_standing_X12_standing : Cond.selects RX12 yX12_standing yX12_standing ∈ gT := gT_pr (i := 69) (by decide +kernel) rfl
theorem wco_X12_isAmiss : Cond.code yX12_isAmiss cX12_isAmiss 4 (some .boolean) ∈ gT := gT_tb (i := 1520) (by decide +kernel) rfl
theorem mf_X12_isAmiss : gMf yX12_isAmiss cX12_isAmiss 4 (some .boolean) 2 := ⟨wco_X12_isAmiss, win_X12, ⟨by decide +kernel, by decide +kernel⟩, by decide +kernel⟩
theorem wml_X12_300 : Cond.methodLink RX12 300 yX12_isAmiss ∈ gT := gT_tb (i := 1517) (by decide +kernel) rfl
theorem wim_X12_isAmiss : Cond.instanceMethod yX12_isAmiss ∈ gT := gT_tb (i := 1519) (by decide +kernel) rfl
theorem wse_X12_X12_isAmiss_X12_isAmiss : Cond.selects RX12 yX12_isAmiss yX12_isAmiss ∈ gT := gT_pr (i := 70) (by decide +kernel) rfl
theorem wco_X12_runsBeside : Cond.code yX12_runsBeside cX12_runsBeside 8 (some .boolean) ∈ gT := gT_tb (i := 1548) (by decide +kernel) rfl
theorem mf_X12_runsBeside : gMf yX12_runsBeside cX12_runsBeside 8 (some .boolean) 2 := ⟨wco_X12_runsBeside, win_X12, ⟨by decide +kernel, by decide +kernel⟩, by decide +kernel⟩
theorem wml_X12_303 : Cond.methodLink RX12 303 yX12_runsBeside ∈ gT := gT_tb (i := 1545) (by decide +kernel) rfl
theorem wim_X12_runsBeside : Cond.instanceMethod yX12_runsBeside ∈ gT := gT_tb (i := 1547) (by decide +kernel) rfl
theorem wse_X12_X12_runsBeside_X12_runsBeside : Cond.selects RX12 yX12_runsBeside yX12_runsBeside ∈ gT := gT_pr (i := 75) (by decide +kernel) rfl
theorem wfl_X12_306 : Cond.fieldLink RX12 306 "PenaltyGridModel" "timeMany" "I" ∈ gT := gT_tb (i := 1129) (by decide +kernel) rfl
theorem gf_X12_306_11 : gFld RX12 306 11 23 := ⟨RX12, TX12, 45, "PenaltyGridModel", cls_11, by decide, wfl_X12_306, Or.inl rfl, Or.inl rfl⟩
theorem gg_X12_306 : ∀ t ∈ [11], gFldG RX12 306 t 23 ∧ gIsR (gFt t 23) = false := List.forall_mem_cons.mpr ⟨⟨gf_X12_306_11.g, rfl⟩, fun _ h => absurd h List.not_mem_nil⟩
theorem gg_X12_61 : ∀ t ∈ [11], gFldG RX12 61 t 26 ∧ gIsR (gFt t 26) = true := List.forall_mem_cons.mpr ⟨⟨gf_X12_61_11.g, rfl⟩, fun _ h => absurd h List.not_mem_nil⟩
theorem wco_X12_whose : Cond.code yX12_whose cX12_whose 2 (some .int) ∈ gT := gT_tb (i := 1536) (by decide +kernel) rfl
theorem mf_X12_whose : gMf yX12_whose cX12_whose 2 (some .int) 1 := ⟨wco_X12_whose, win_X12, ⟨by decide +kernel, by decide +kernel⟩, by decide +kernel⟩
theorem wml_X12_309 : Cond.methodLink RX12 309 yX12_whose ∈ gT := gT_tb (i := 1533) (by decide +kernel) rfl
theorem wim_X12_whose : Cond.instanceMethod yX12_whose ∈ gT := gT_tb (i := 1535) (by decide +kernel) rfl
theorem wse_X12_X12_whose_X12_whose : Cond.selects RX12 yX12_whose yX12_whose ∈ gT := gT_pr (i := 72) (by decide +kernel) rfl
theorem gg_X12_55 : ∀ t ∈ [11], gFldG RX12 55 t 24 ∧ gIsR (gFt t 24) = true := List.forall_mem_cons.mpr ⟨⟨gf_X12_55_11.g, rfl⟩, fun _ h => absurd h List.not_mem_nil⟩
theorem gg_X12_58 : ∀ t ∈ [11], gFldG RX12 58 t 25 ∧ gIsR (gFt t 25) = true := List.forall_mem_cons.mpr ⟨⟨gf_X12_58_11.g, rfl⟩, fun _ h => absurd h List.not_mem_nil⟩
theorem wco_X12_lastEnd : Cond.code yX12_lastEnd cX12_lastEnd 3 (some .int) ∈ gT := gT_tb (i := 1540) (by decide +kernel) rfl
theorem mf_X12_lastEnd : gMf yX12_lastEnd cX12_lastEnd 3 (some .int) 0 := ⟨wco_X12_lastEnd, win_X12, ⟨by decide +kernel, by decide +kernel⟩, by decide +kernel⟩
theorem wml_X12_312 : Cond.methodLink RX12 312 yX12_lastEnd ∈ gT := gT_tb (i := 1537) (by decide +kernel) rfl
theorem wim_X12_lastEnd : Cond.instanceMethod yX12_lastEnd ∈ gT := gT_tb (i := 1539) (by decide +kernel) rfl
theorem wse_X12_X12_lastEnd_X12_lastEnd : Cond.selects RX12 yX12_lastEnd yX12_lastEnd ∈ gT := gT_pr (i := 73) (by decide +kernel) rfl
theorem wco_X12_beginOf : Cond.code yX12_beginOf cX12_beginOf 4 (some .int) ∈ gT := gT_tb (i := 1544) (by decide +kernel) rfl
theorem mf_X12_beginOf : gMf yX12_beginOf cX12_beginOf 4 (some .int) 3 := ⟨wco_X12_beginOf, win_X12, ⟨by decide +kernel, by decide +kernel⟩, by decide +kernel⟩
theorem wml_X12_315 : Cond.methodLink RX12 315 yX12_beginOf ∈ gT := gT_tb (i := 1541) (by decide +kernel) rfl
theorem wim_X12_beginOf : Cond.instanceMethod yX12_beginOf ∈ gT := gT_tb (i := 1543) (by decide +kernel) rfl
theorem wse_X12_X12_beginOf_X12_beginOf : Cond.selects RX12 yX12_beginOf yX12_beginOf ∈ gT := gT_pr (i := 74) (by decide +kernel) rfl
theorem gp_X12_306 {nm : String} : ∀ t ∈ [11], gFld RX12 306 t 23 ∧ gFt t 23 = .int ∧ (nm = "<init>" ∨ ∀ (C : String) (T : u_T) (N : Nat), vwCl[t]? = some (C, T, N) → (T 23).2.2.2 = false) := List.forall_mem_cons.mpr ⟨⟨gf_X12_306_11, rfl, Or.inr (fun _ _ _ h => by cases h; rfl)⟩, fun _ h => absurd h List.not_mem_nil⟩
theorem gg_X12_34 : ∀ t ∈ [11], gFldG RX12 34 t 8 ∧ gIsR (gFt t 8) = true := List.forall_mem_cons.mpr ⟨⟨gf_X12_34_11.g, rfl⟩, fun _ h => absurd h List.not_mem_nil⟩
theorem wco_X12_heldAhead : Cond.code yX12_heldAhead cX12_heldAhead 7 (some .int) ∈ gT := gT_tb (i := 1556) (by decide +kernel) rfl
theorem mf_X12_heldAhead : gMf yX12_heldAhead cX12_heldAhead 7 (some .int) 2 := ⟨wco_X12_heldAhead, win_X12, ⟨by decide +kernel, by decide +kernel⟩, by decide +kernel⟩
theorem wml_X12_318 : Cond.methodLink RX12 318 yX12_heldAhead ∈ gT := gT_tb (i := 1553) (by decide +kernel) rfl
theorem wim_X12_heldAhead : Cond.instanceMethod yX12_heldAhead ∈ gT := gT_tb (i := 1555) (by decide +kernel) rfl
theorem wse_X12_X12_heldAhead_X12_heldAhead : Cond.selects RX12 yX12_heldAhead yX12_heldAhead ∈ gT := gT_pr (i := 77) (by decide +kernel) rfl
theorem wco_X12_findTime : Cond.code yX12_findTime cX12_findTime 4 none ∈ gT := gT_tb (i := 1532) (by decide +kernel) rfl
theorem mf_X12_findTime : gMf yX12_findTime cX12_findTime 4 none 2 := ⟨wco_X12_findTime, win_X12, ⟨by decide +kernel, by decide +kernel⟩, by decide +kernel⟩
theorem wml_X12_321 : Cond.methodLink RX12 321 yX12_findTime ∈ gT := gT_tb (i := 1529) (by decide +kernel) rfl
theorem wim_X12_findTime : Cond.instanceMethod yX12_findTime ∈ gT := gT_tb (i := 1531) (by decide +kernel) rfl
theorem wse_X12_X12_findTime_X12_findTime : Cond.selects RX12 yX12_findTime yX12_findTime ∈ gT := gT_pr (i := 71) (by decide +kernel) rfl
theorem wco_X12_creditOf : Cond.code yX12_creditOf cX12_creditOf 2 (some .int) ∈ gT := gT_tb (i := 1552) (by decide +kernel) rfl
theorem mf_X12_creditOf : gMf yX12_creditOf cX12_creditOf 2 (some .int) 1 := ⟨wco_X12_creditOf, win_X12, ⟨by decide +kernel, by decide +kernel⟩, by decide +kernel⟩
theorem wml_X12_325 : Cond.methodLink RX12 325 yX12_creditOf ∈ gT := gT_tb (i := 1549) (by decide +kernel) rfl
theorem wim_X12_creditOf : Cond.instanceMethod yX12_creditOf ∈ gT := gT_tb (i := 1551) (by decide +kernel) rfl
theorem wse_X12_X12_creditOf_X12_creditOf : Cond.selects RX12 yX12_creditOf yX12_creditOf ∈ gT := gT_pr (i := 76) (by decide +kernel) rfl
theorem wco_X12_releaseOf : Cond.code yX12_releaseOf cX12_releaseOf 5 (some .int) ∈ gT := gT_tb (i := 1568) (by decide +kernel) rfl
theorem mf_X12_releaseOf : gMf yX12_releaseOf cX12_releaseOf 5 (some .int) 2 := ⟨wco_X12_releaseOf, win_X12, ⟨by decide +kernel, by decide +kernel⟩, by decide +kernel⟩
theorem wml_X12_328 : Cond.methodLink RX12 328 yX12_releaseOf ∈ gT := gT_tb (i := 1565) (by decide +kernel) rfl
theorem wim_X12_releaseOf : Cond.instanceMethod yX12_releaseOf ∈ gT := gT_tb (i := 1567) (by decide +kernel) rfl
theorem wse_X12_X12_releaseOf_X12_releaseOf : Cond.selects RX12 yX12_releaseOf yX12_releaseOf ∈ gT := gT_pr (i := 78) (by decide +kernel) rfl
theorem wfl_X12_331 : Cond.fieldLink RX12 331 "PenaltyGridModel" "rowMany" "I" ∈ gT := gT_tb (i := 1133) (by decide +kernel) rfl
theorem gf_X12_331_11 : gFld RX12 331 11 27 := ⟨RX12, TX12, 45, "PenaltyGridModel", cls_11, by decide, wfl_X12_331, Or.inl rfl, Or.inl rfl⟩
theorem gg_X12_331 : ∀ t ∈ [11], gFldG RX12 331 t 27 ∧ gIsR (gFt t 27) = false := List.forall_mem_cons.mpr ⟨⟨gf_X12_331_11.g, rfl⟩, fun _ h => absurd h List.not_mem_nil⟩
theorem gg_X12_64 : ∀ t ∈ [11], gFldG RX12 64 t 28 ∧ gIsR (gFt t 28) = true := List.forall_mem_cons.mpr ⟨⟨gf_X12_64_11.g, rfl⟩, fun _ h => absurd h List.not_mem_nil⟩
theorem gp_X12_331 {nm : String} : ∀ t ∈ [11], gFld RX12 331 t 27 ∧ gFt t 27 = .int ∧ (nm = "<init>" ∨ ∀ (C : String) (T : u_T) (N : Nat), vwCl[t]? = some (C, T, N) → (T 27).2.2.2 = false) := List.forall_mem_cons.mpr ⟨⟨gf_X12_331_11, rfl, Or.inr (fun _ _ _ h => by cases h; rfl)⟩, fun _ h => absurd h List.not_mem_nil⟩
theorem wco_X12_isRow : Cond.code yX12_isRow cX12_isRow 3 (some .boolean) ∈ gT := gT_tb (i := 1584) (by decide +kernel) rfl
theorem mf_X12_isRow : gMf yX12_isRow cX12_isRow 3 (some .boolean) 2 := ⟨wco_X12_isRow, win_X12, ⟨by decide +kernel, by decide +kernel⟩, by decide +kernel⟩
theorem wml_X12_334 : Cond.methodLink RX12 334 yX12_isRow ∈ gT := gT_tb (i := 1581) (by decide +kernel) rfl
theorem wim_X12_isRow : Cond.instanceMethod yX12_isRow ∈ gT := gT_tb (i := 1583) (by decide +kernel) rfl
theorem wse_X12_X12_isRow_X12_isRow : Cond.selects RX12 yX12_isRow yX12_isRow ∈ gT := gT_pr (i := 79) (by decide +kernel) rfl
theorem gg_X12_68 : ∀ t ∈ [11], gFldG RX12 68 t 29 ∧ gIsR (gFt t 29) = true := List.forall_mem_cons.mpr ⟨⟨gf_X12_68_11.g, rfl⟩, fun _ h => absurd h List.not_mem_nil⟩
theorem wco_X12_isDrawn : Cond.code yX12_isDrawn cX12_isDrawn 3 (some .boolean) ∈ gT := gT_tb (i := 1600) (by decide +kernel) rfl
theorem mf_X12_isDrawn : gMf yX12_isDrawn cX12_isDrawn 3 (some .boolean) 2 := ⟨wco_X12_isDrawn, win_X12, ⟨by decide +kernel, by decide +kernel⟩, by decide +kernel⟩
theorem wml_X12_337 : Cond.methodLink RX12 337 yX12_isDrawn ∈ gT := gT_tb (i := 1597) (by decide +kernel) rfl
theorem wim_X12_isDrawn : Cond.instanceMethod yX12_isDrawn ∈ gT := gT_tb (i := 1599) (by decide +kernel) rfl
theorem wse_X12_X12_isDrawn_X12_isDrawn : Cond.selects RX12 yX12_isDrawn yX12_isDrawn ∈ gT := gT_pr (i := 80) (by decide +kernel) rfl
theorem wco_X12_waysOf : Cond.code yX12_waysOf cX12_waysOf 8 (some .int) ∈ gT := gT_tb (i := 1605) (by decide +kernel) rfl
theorem mf_X12_waysOf : gMf yX12_waysOf cX12_waysOf 8 (some .int) 3 := ⟨wco_X12_waysOf, win_X12, ⟨by decide +kernel, by decide +kernel⟩, by decide +kernel⟩
theorem wml_X12_341 : Cond.methodLink RX12 341 yX12_waysOf ∈ gT := gT_tb (i := 1602) (by decide +kernel) rfl
theorem wim_X12_waysOf : Cond.instanceMethod yX12_waysOf ∈ gT := gT_tb (i := 1604) (by decide +kernel) rfl
theorem wse_X12_X12_waysOf_X12_waysOf : Cond.selects RX12 yX12_waysOf yX12_waysOf ∈ gT := gT_pr (i := 81) (by decide +kernel) rfl
theorem wct_X12_340 : Cond.constant RX12 340 (1000000) ∈ gT := gT_tb (i := 1601) (by decide +kernel) rfl
theorem wco_X12_pointsBy : Cond.code yX12_pointsBy cX12_pointsBy 4 (some .int) ∈ gT := gT_tb (i := 1621) (by decide +kernel) rfl
theorem mf_X12_pointsBy : gMf yX12_pointsBy cX12_pointsBy 4 (some .int) 2 := ⟨wco_X12_pointsBy, win_X12, ⟨by decide +kernel, by decide +kernel⟩, by decide +kernel⟩
theorem wml_X12_344 : Cond.methodLink RX12 344 yX12_pointsBy ∈ gT := gT_tb (i := 1618) (by decide +kernel) rfl
theorem wim_X12_pointsBy : Cond.instanceMethod yX12_pointsBy ∈ gT := gT_tb (i := 1620) (by decide +kernel) rfl
theorem wse_X12_X12_pointsBy_X12_pointsBy : Cond.selects RX12 yX12_pointsBy yX12_pointsBy ∈ gT := gT_pr (i := 83) (by decide +kernel) rfl
theorem wco_X12_unlike : Cond.code yX12_unlike cX12_unlike 7 (some .int) ∈ gT := gT_tb (i := 1617) (by decide +kernel) rfl
theorem mf_X12_unlike : gMf yX12_unlike cX12_unlike 7 (some .int) 3 := ⟨wco_X12_unlike, win_X12, ⟨by decide +kernel, by decide +kernel⟩, by decide +kernel⟩
theorem wml_X12_347 : Cond.methodLink RX12 347 yX12_unlike ∈ gT := gT_tb (i := 1614) (by decide +kernel) rfl
theorem wim_X12_unlike : Cond.instanceMethod yX12_unlike ∈ gT := gT_tb (i := 1616) (by decide +kernel) rfl
theorem wse_X12_X12_unlike_X12_unlike : Cond.selects RX12 yX12_unlike yX12_unlike ∈ gT := gT_pr (i := 82) (by decide +kernel) rfl
theorem gg_X12_77 : ∀ t ∈ [11], gFldG RX12 77 t 32 ∧ gIsR (gFt t 32) = true := List.forall_mem_cons.mpr ⟨⟨gf_X12_77_11.g, rfl⟩, fun _ h => absurd h List.not_mem_nil⟩
theorem gg_X12_71 : ∀ t ∈ [11], gFldG RX12 71 t 30 ∧ gIsR (gFt t 30) = true := List.forall_mem_cons.mpr ⟨⟨gf_X12_71_11.g, rfl⟩, fun _ h => absurd h List.not_mem_nil⟩
theorem gg_X12_74 : ∀ t ∈ [11], gFldG RX12 74 t 31 ∧ gIsR (gFt t 31) = true := List.forall_mem_cons.mpr ⟨⟨gf_X12_74_11.g, rfl⟩, fun _ h => absurd h List.not_mem_nil⟩
theorem wco_X12_isShelf : Cond.code yX12_isShelf cX12_isShelf 1 (some .boolean) ∈ gT := gT_tb (i := 1628) (by decide +kernel) rfl
theorem mf_X12_isShelf : gMf yX12_isShelf cX12_isShelf 1 (some .boolean) 1 := ⟨wco_X12_isShelf, win_X12, ⟨by decide +kernel, by decide +kernel⟩, by decide +kernel⟩
theorem wml_X12_350 : Cond.methodLink RX12 350 yX12_isShelf ∈ gT := gT_tb (i := 1626) (by decide +kernel) rfl
theorem wst_X12_isShelf : Cond.static yX12_isShelf ∈ gT := gT_tb (i := 1627) (by decide +kernel) rfl
theorem wco_X12_narrowed : Cond.code yX12_narrowed cX12_narrowed 2 (some .int) ∈ gT := gT_tb (i := 1635) (by decide +kernel) rfl
theorem mf_X12_narrowed : gMf yX12_narrowed cX12_narrowed 2 (some .int) 2 := ⟨wco_X12_narrowed, win_X12, ⟨by decide +kernel, by decide +kernel⟩, by decide +kernel⟩
theorem wml_X12_353 : Cond.methodLink RX12 353 yX12_narrowed ∈ gT := gT_tb (i := 1633) (by decide +kernel) rfl
theorem wst_X12_narrowed : Cond.static yX12_narrowed ∈ gT := gT_tb (i := 1634) (by decide +kernel) rfl
theorem wco_X12_lacksSort : Cond.code yX12_lacksSort cX12_lacksSort 3 (some .int) ∈ gT := gT_tb (i := 1643) (by decide +kernel) rfl
theorem mf_X12_lacksSort : gMf yX12_lacksSort cX12_lacksSort 3 (some .int) 2 := ⟨wco_X12_lacksSort, win_X12, ⟨by decide +kernel, by decide +kernel⟩, by decide +kernel⟩
theorem wml_X12_356 : Cond.methodLink RX12 356 yX12_lacksSort ∈ gT := gT_tb (i := 1640) (by decide +kernel) rfl
theorem wim_X12_lacksSort : Cond.instanceMethod yX12_lacksSort ∈ gT := gT_tb (i := 1642) (by decide +kernel) rfl
theorem wse_X12_X12_lacksSort_X12_lacksSort : Cond.selects RX12 yX12_lacksSort yX12_lacksSort ∈ gT := gT_pr (i := 84) (by decide +kernel) rfl
theorem wco_X12_finding : Cond.code yX12_finding cX12_finding 5 (some .int) ∈ gT := gT_tb (i := 1275) (by decide +kernel) rfl
theorem mf_X12_finding : gMf yX12_finding cX12_finding 5 (some .int) 3 := ⟨wco_X12_finding, win_X12, ⟨by decide +kernel, by decide +kernel⟩, by decide +kernel⟩
theorem wml_X12_359 : Cond.methodLink RX12 359 yX12_finding ∈ gT := gT_tb (i := 1648) (by decide +kernel) rfl
theorem wim_X12_finding : Cond.instanceMethod yX12_finding ∈ gT := gT_tb (i := 1273) (by decide +kernel) rfl
theorem wse_X12_X12_finding_X12_finding : Cond.selects RX12 yX12_finding yX12_finding ∈ gT := gT_tb (i := 1274) (by decide +kernel) rfl
theorem gg_X12_86 : ∀ t ∈ [11], gFldG RX12 86 t 35 ∧ gIsR (gFt t 35) = true := List.forall_mem_cons.mpr ⟨⟨gf_X12_86_11.g, rfl⟩, fun _ h => absurd h List.not_mem_nil⟩
theorem gg_X12_83 : ∀ t ∈ [11], gFldG RX12 83 t 34 ∧ gIsR (gFt t 34) = true := List.forall_mem_cons.mpr ⟨⟨gf_X12_83_11.g, rfl⟩, fun _ h => absurd h List.not_mem_nil⟩
theorem wco_X12_isThing : Cond.code yX12_isThing cX12_isThing 3 (some .boolean) ∈ gT := gT_tb (i := 1656) (by decide +kernel) rfl
theorem mf_X12_isThing : gMf yX12_isThing cX12_isThing 3 (some .boolean) 2 := ⟨wco_X12_isThing, win_X12, ⟨by decide +kernel, by decide +kernel⟩, by decide +kernel⟩
theorem wml_X12_363 : Cond.methodLink RX12 363 yX12_isThing ∈ gT := gT_tb (i := 1653) (by decide +kernel) rfl
theorem wim_X12_isThing : Cond.instanceMethod yX12_isThing ∈ gT := gT_tb (i := 1655) (by decide +kernel) rfl
theorem wse_X12_X12_isThing_X12_isThing : Cond.selects RX12 yX12_isThing yX12_isThing ∈ gT := gT_pr (i := 85) (by decide +kernel) rfl
theorem gg_X12_80 : ∀ t ∈ [11], gFldG RX12 80 t 33 ∧ gIsR (gFt t 33) = true := List.forall_mem_cons.mpr ⟨⟨gf_X12_80_11.g, rfl⟩, fun _ h => absurd h List.not_mem_nil⟩
theorem wco_X12_kindOn : Cond.code yX12_kindOn cX12_kindOn 4 (some .int) ∈ gT := gT_tb (i := 1664) (by decide +kernel) rfl
theorem mf_X12_kindOn : gMf yX12_kindOn cX12_kindOn 4 (some .int) 1 := ⟨wco_X12_kindOn, win_X12, ⟨by decide +kernel, by decide +kernel⟩, by decide +kernel⟩
theorem wml_X12_366 : Cond.methodLink RX12 366 yX12_kindOn ∈ gT := gT_tb (i := 1661) (by decide +kernel) rfl
theorem wim_X12_kindOn : Cond.instanceMethod yX12_kindOn ∈ gT := gT_tb (i := 1663) (by decide +kernel) rfl
theorem wse_X12_X12_kindOn_X12_kindOn : Cond.selects RX12 yX12_kindOn yX12_kindOn ∈ gT := gT_pr (i := 86) (by decide +kernel) rfl
theorem wco_X12_isUnder : Cond.code yX12_isUnder cX12_isUnder 2 (some .boolean) ∈ gT := gT_tb (i := 1667) (by decide +kernel) rfl
theorem mf_X12_isUnder : gMf yX12_isUnder cX12_isUnder 2 (some .boolean) 2 := ⟨wco_X12_isUnder, win_X12, ⟨by decide +kernel, by decide +kernel⟩, by decide +kernel⟩
theorem wml_X12_369 : Cond.methodLink RX12 369 yX12_isUnder ∈ gT := gT_tb (i := 1665) (by decide +kernel) rfl
theorem wst_X12_isUnder : Cond.static yX12_isUnder ∈ gT := gT_tb (i := 1666) (by decide +kernel) rfl
theorem wfl_X12_372 : Cond.fieldLink RX12 372 "PenaltyGridModel" "bodies" "I" ∈ gT := gT_tb (i := 1146) (by decide +kernel) rfl
theorem gf_X12_372_11 : gFld RX12 372 11 40 := ⟨RX12, TX12, 45, "PenaltyGridModel", cls_11, by decide, wfl_X12_372, Or.inl rfl, Or.inl rfl⟩
theorem gg_X12_372 : ∀ t ∈ [11], gFldG RX12 372 t 40 ∧ gIsR (gFt t 40) = false := List.forall_mem_cons.mpr ⟨⟨gf_X12_372_11.g, rfl⟩, fun _ h => absurd h List.not_mem_nil⟩
theorem gg_X12_89 : ∀ t ∈ [11], gFldG RX12 89 t 39 ∧ gIsR (gFt t 39) = true := List.forall_mem_cons.mpr ⟨⟨gf_X12_89_11.g, rfl⟩, fun _ h => absurd h List.not_mem_nil⟩
theorem gp_X12_372 {nm : String} : ∀ t ∈ [11], gFld RX12 372 t 40 ∧ gFt t 40 = .int ∧ (nm = "<init>" ∨ ∀ (C : String) (T : u_T) (N : Nat), vwCl[t]? = some (C, T, N) → (T 40).2.2.2 = false) := List.forall_mem_cons.mpr ⟨⟨gf_X12_372_11, rfl, Or.inr (fun _ _ _ h => by cases h; rfl)⟩, fun _ h => absurd h List.not_mem_nil⟩
theorem wfl_X12_384 : Cond.fieldLink RX12 384 "PenaltyGridModel" "its" "I" ∈ gT := gT_tb (i := 1144) (by decide +kernel) rfl
theorem gf_X12_384_11 : gFld RX12 384 11 38 := ⟨RX12, TX12, 45, "PenaltyGridModel", cls_11, by decide, wfl_X12_384, Or.inl rfl, Or.inl rfl⟩
theorem gg_X12_384 : ∀ t ∈ [11], gFldG RX12 384 t 38 ∧ gIsR (gFt t 38) = false := List.forall_mem_cons.mpr ⟨⟨gf_X12_384_11.g, rfl⟩, fun _ h => absurd h List.not_mem_nil⟩
theorem wco_X12_ran : Cond.code yX12_ran cX12_ran 2 none ∈ gT := gT_tb (i := 1683) (by decide +kernel) rfl
theorem mf_X12_ran : gMf yX12_ran cX12_ran 2 none 1 := ⟨wco_X12_ran, win_X12, ⟨by decide +kernel, by decide +kernel⟩, by decide +kernel⟩
theorem wml_X12_378 : Cond.methodLink RX12 378 yX12_ran ∈ gT := gT_tb (i := 1680) (by decide +kernel) rfl
theorem wim_X12_ran : Cond.instanceMethod yX12_ran ∈ gT := gT_tb (i := 1682) (by decide +kernel) rfl
theorem wse_X12_X12_ran_X12_ran : Cond.selects RX12 yX12_ran yX12_ran ∈ gT := gT_pr (i := 89) (by decide +kernel) rfl
theorem wfl_X12_381 : Cond.fieldLink RX12 381 "PenaltyGridModel" "number" "I" ∈ gT := gT_tb (i := 1143) (by decide +kernel) rfl
theorem gf_X12_381_11 : gFld RX12 381 11 37 := ⟨RX12, TX12, 45, "PenaltyGridModel", cls_11, by decide, wfl_X12_381, Or.inl rfl, Or.inl rfl⟩
theorem gg_X12_381 : ∀ t ∈ [11], gFldG RX12 381 t 37 ∧ gIsR (gFt t 37) = false := List.forall_mem_cons.mpr ⟨⟨gf_X12_381_11.g, rfl⟩, fun _ h => absurd h List.not_mem_nil⟩
theorem wfl_X12_375 : Cond.fieldLink RX12 375 "PenaltyGridModel" "kind" "I" ∈ gT := gT_tb (i := 1142) (by decide +kernel) rfl
theorem gf_X12_375_11 : gFld RX12 375 11 36 := ⟨RX12, TX12, 45, "PenaltyGridModel", cls_11, by decide, wfl_X12_375, Or.inl rfl, Or.inl rfl⟩
theorem gg_X12_375 : ∀ t ∈ [11], gFldG RX12 375 t 36 ∧ gIsR (gFt t 36) = false := List.forall_mem_cons.mpr ⟨⟨gf_X12_375_11.g, rfl⟩, fun _ h => absurd h List.not_mem_nil⟩
theorem wco_X12_weighs : Cond.code yX12_weighs cX12_weighs 3 (some .int) ∈ gT := gT_tb (i := 1679) (by decide +kernel) rfl
theorem mf_X12_weighs : gMf yX12_weighs cX12_weighs 3 (some .int) 1 := ⟨wco_X12_weighs, win_X12, ⟨by decide +kernel, by decide +kernel⟩, by decide +kernel⟩
theorem wml_X12_387 : Cond.methodLink RX12 387 yX12_weighs ∈ gT := gT_tb (i := 1676) (by decide +kernel) rfl
theorem wim_X12_weighs : Cond.instanceMethod yX12_weighs ∈ gT := gT_tb (i := 1678) (by decide +kernel) rfl
theorem wse_X12_X12_weighs_X12_weighs : Cond.selects RX12 yX12_weighs yX12_weighs ∈ gT := gT_pr (i := 88) (by decide +kernel) rfl
theorem wco_X12_paperBars : Cond.code yX12_paperBars cX12_paperBars 2 (some .int) ∈ gT := gT_tb (i := 1691) (by decide +kernel) rfl
theorem mf_X12_paperBars : gMf yX12_paperBars cX12_paperBars 2 (some .int) 1 := ⟨wco_X12_paperBars, win_X12, ⟨by decide +kernel, by decide +kernel⟩, by decide +kernel⟩
theorem wml_X12_390 : Cond.methodLink RX12 390 yX12_paperBars ∈ gT := gT_tb (i := 1688) (by decide +kernel) rfl
theorem wim_X12_paperBars : Cond.instanceMethod yX12_paperBars ∈ gT := gT_tb (i := 1690) (by decide +kernel) rfl
theorem wse_X12_X12_paperBars_X12_paperBars : Cond.selects RX12 yX12_paperBars yX12_paperBars ∈ gT := gT_pr (i := 91) (by decide +kernel) rfl
theorem wfl_X12_393 : Cond.fieldLink RX12 393 "PenaltyGridModel" "isParted" "Z" ∈ gT := gT_tb (i := 1147) (by decide +kernel) rfl
theorem gf_X12_393_11 : gFld RX12 393 11 41 := ⟨RX12, TX12, 45, "PenaltyGridModel", cls_11, by decide, wfl_X12_393, Or.inl rfl, Or.inl rfl⟩
theorem gp_X12_393 {nm : String} : ∀ t ∈ [11], gFld RX12 393 t 41 ∧ gFt t 41 = .boolean ∧ (nm = "<init>" ∨ ∀ (C : String) (T : u_T) (N : Nat), vwCl[t]? = some (C, T, N) → (T 41).2.2.2 = false) := List.forall_mem_cons.mpr ⟨⟨gf_X12_393_11, rfl, Or.inr (fun _ _ _ h => by cases h; rfl)⟩, fun _ h => absurd h List.not_mem_nil⟩
theorem wco_X12_paperParts : Cond.code yX12_paperParts cX12_paperParts 2 (some .int) ∈ gT := gT_tb (i := 1699) (by decide +kernel) rfl
theorem mf_X12_paperParts : gMf yX12_paperParts cX12_paperParts 2 (some .int) 1 := ⟨wco_X12_paperParts, win_X12, ⟨by decide +kernel, by decide +kernel⟩, by decide +kernel⟩
theorem wml_X12_397 : Cond.methodLink RX12 397 yX12_paperParts ∈ gT := gT_tb (i := 1696) (by decide +kernel) rfl
theorem wim_X12_paperParts : Cond.instanceMethod yX12_paperParts ∈ gT := gT_tb (i := 1698) (by decide +kernel) rfl
theorem wse_X12_X12_paperParts_X12_paperParts : Cond.selects RX12 yX12_paperParts yX12_paperParts ∈ gT := gT_pr (i := 93) (by decide +kernel) rfl
theorem wco_X12_bars : Cond.code yX12_bars cX12_bars 3 (some .int) ∈ gT := gT_tb (i := 1687) (by decide +kernel) rfl
theorem mf_X12_bars : gMf yX12_bars cX12_bars 3 (some .int) 1 := ⟨wco_X12_bars, win_X12, ⟨by decide +kernel, by decide +kernel⟩, by decide +kernel⟩
theorem wml_X12_400 : Cond.methodLink RX12 400 yX12_bars ∈ gT := gT_tb (i := 1684) (by decide +kernel) rfl
theorem wim_X12_bars : Cond.instanceMethod yX12_bars ∈ gT := gT_tb (i := 1686) (by decide +kernel) rfl
theorem wse_X12_X12_bars_X12_bars : Cond.selects RX12 yX12_bars yX12_bars ∈ gT := gT_pr (i := 90) (by decide +kernel) rfl
theorem wco_X12_paperTells : Cond.code yX12_paperTells cX12_paperTells 2 (some .int) ∈ gT := gT_tb (i := 1707) (by decide +kernel) rfl
theorem mf_X12_paperTells : gMf yX12_paperTells cX12_paperTells 2 (some .int) 1 := ⟨wco_X12_paperTells, win_X12, ⟨by decide +kernel, by decide +kernel⟩, by decide +kernel⟩
theorem wml_X12_403 : Cond.methodLink RX12 403 yX12_paperTells ∈ gT := gT_tb (i := 1704) (by decide +kernel) rfl
theorem wim_X12_paperTells : Cond.instanceMethod yX12_paperTells ∈ gT := gT_tb (i := 1706) (by decide +kernel) rfl
theorem wse_X12_X12_paperTells_X12_paperTells : Cond.selects RX12 yX12_paperTells yX12_paperTells ∈ gT := gT_pr (i := 95) (by decide +kernel) rfl
theorem gg_X12_393 : ∀ t ∈ [11], gFldG RX12 393 t 41 ∧ gIsR (gFt t 41) = false := List.forall_mem_cons.mpr ⟨⟨gf_X12_393_11.g, rfl⟩, fun _ h => absurd h List.not_mem_nil⟩
theorem gp_X12_375 {nm : String} : ∀ t ∈ [11], gFld RX12 375 t 36 ∧ gFt t 36 = .int ∧ (nm = "<init>" ∨ ∀ (C : String) (T : u_T) (N : Nat), vwCl[t]? = some (C, T, N) → (T 36).2.2.2 = false) := List.forall_mem_cons.mpr ⟨⟨gf_X12_375_11, rfl, Or.inr (fun _ _ _ h => by cases h; rfl)⟩, fun _ h => absurd h List.not_mem_nil⟩
theorem gp_X12_381 {nm : String} : ∀ t ∈ [11], gFld RX12 381 t 37 ∧ gFt t 37 = .int ∧ (nm = "<init>" ∨ ∀ (C : String) (T : u_T) (N : Nat), vwCl[t]? = some (C, T, N) → (T 37).2.2.2 = false) := List.forall_mem_cons.mpr ⟨⟨gf_X12_381_11, rfl, Or.inr (fun _ _ _ h => by cases h; rfl)⟩, fun _ h => absurd h List.not_mem_nil⟩
theorem wco_X12_theirs : Cond.code yX12_theirs cX12_theirs 3 (some .int) ∈ gT := gT_tb (i := 1675) (by decide +kernel) rfl
theorem mf_X12_theirs : gMf yX12_theirs cX12_theirs 3 (some .int) 2 := ⟨wco_X12_theirs, win_X12, ⟨by decide +kernel, by decide +kernel⟩, by decide +kernel⟩
theorem wml_X12_406 : Cond.methodLink RX12 406 yX12_theirs ∈ gT := gT_tb (i := 1672) (by decide +kernel) rfl
theorem wim_X12_theirs : Cond.instanceMethod yX12_theirs ∈ gT := gT_tb (i := 1674) (by decide +kernel) rfl
theorem wse_X12_X12_theirs_X12_theirs : Cond.selects RX12 yX12_theirs yX12_theirs ∈ gT := gT_pr (i := 87) (by decide +kernel) rfl
theorem gp_X12_384 {nm : String} : ∀ t ∈ [11], gFld RX12 384 t 38 ∧ gFt t 38 = .int ∧ (nm = "<init>" ∨ ∀ (C : String) (T : u_T) (N : Nat), vwCl[t]? = some (C, T, N) → (T 38).2.2.2 = false) := List.forall_mem_cons.mpr ⟨⟨gf_X12_384_11, rfl, Or.inr (fun _ _ _ h => by cases h; rfl)⟩, fun _ h => absurd h List.not_mem_nil⟩
theorem wco_X12_tells : Cond.code yX12_tells cX12_tells 3 (some .int) ∈ gT := gT_tb (i := 1703) (by decide +kernel) rfl
theorem mf_X12_tells : gMf yX12_tells cX12_tells 3 (some .int) 1 := ⟨wco_X12_tells, win_X12, ⟨by decide +kernel, by decide +kernel⟩, by decide +kernel⟩
theorem wml_X12_412 : Cond.methodLink RX12 412 yX12_tells ∈ gT := gT_tb (i := 1700) (by decide +kernel) rfl
theorem wim_X12_tells : Cond.instanceMethod yX12_tells ∈ gT := gT_tb (i := 1702) (by decide +kernel) rfl
theorem wse_X12_X12_tells_X12_tells : Cond.selects RX12 yX12_tells yX12_tells ∈ gT := gT_pr (i := 94) (by decide +kernel) rfl
theorem wco_X12_partsOf : Cond.code yX12_partsOf cX12_partsOf 2 (some .int) ∈ gT := gT_tb (i := 1695) (by decide +kernel) rfl
theorem mf_X12_partsOf : gMf yX12_partsOf cX12_partsOf 2 (some .int) 1 := ⟨wco_X12_partsOf, win_X12, ⟨by decide +kernel, by decide +kernel⟩, by decide +kernel⟩
theorem wml_X12_409 : Cond.methodLink RX12 409 yX12_partsOf ∈ gT := gT_tb (i := 1692) (by decide +kernel) rfl
theorem wim_X12_partsOf : Cond.instanceMethod yX12_partsOf ∈ gT := gT_tb (i := 1694) (by decide +kernel) rfl
theorem wse_X12_X12_partsOf_X12_partsOf : Cond.selects RX12 yX12_partsOf yX12_partsOf ∈ gT := gT_pr (i := 92) (by decide +kernel) rfl
theorem wfl_X12_415 : Cond.fieldLink RX12 415 "PenaltyGridModel" "place" "I" ∈ gT := gT_tb (i := 1150) (by decide +kernel) rfl
theorem gf_X12_415_11 : gFld RX12 415 11 44 := ⟨RX12, TX12, 45, "PenaltyGridModel", cls_11, by decide, wfl_X12_415, Or.inl rfl, Or.inl rfl⟩
theorem gg_X12_415 : ∀ t ∈ [11], gFldG RX12 415 t 44 ∧ gIsR (gFt t 44) = false := List.forall_mem_cons.mpr ⟨⟨gf_X12_415_11.g, rfl⟩, fun _ h => absurd h List.not_mem_nil⟩
theorem gp_X12_415 {nm : String} : ∀ t ∈ [11], gFld RX12 415 t 44 ∧ gFt t 44 = .int ∧ (nm = "<init>" ∨ ∀ (C : String) (T : u_T) (N : Nat), vwCl[t]? = some (C, T, N) → (T 44).2.2.2 = false) := List.forall_mem_cons.mpr ⟨⟨gf_X12_415_11, rfl, Or.inr (fun _ _ _ h => by cases h; rfl)⟩, fun _ h => absurd h List.not_mem_nil⟩
theorem gg_X12_92 : ∀ t ∈ [11], gFldG RX12 92 t 43 ∧ gIsR (gFt t 43) = true := List.forall_mem_cons.mpr ⟨⟨gf_X12_92_11.g, rfl⟩, fun _ h => absurd h List.not_mem_nil⟩
theorem wco_X12_move : Cond.code yX12_move cX12_move 5 none ∈ gT := gT_tb (i := 1727) (by decide +kernel) rfl
theorem mf_X12_move : gMf yX12_move cX12_move 5 none 3 := ⟨wco_X12_move, win_X12, ⟨by decide +kernel, by decide +kernel⟩, by decide +kernel⟩
theorem wml_X12_418 : Cond.methodLink RX12 418 yX12_move ∈ gT := gT_tb (i := 1724) (by decide +kernel) rfl
theorem wim_X12_move : Cond.instanceMethod yX12_move ∈ gT := gT_tb (i := 1726) (by decide +kernel) rfl
theorem wse_X12_X12_move_X12_move : Cond.selects RX12 yX12_move yX12_move ∈ gT := gT_pr (i := 97) (by decide +kernel) rfl
theorem wco_X12_moveAll : Cond.code yX12_moveAll cX12_moveAll 2 none ∈ gT := gT_tb (i := 1723) (by decide +kernel) rfl
theorem mf_X12_moveAll : gMf yX12_moveAll cX12_moveAll 2 none 1 := ⟨wco_X12_moveAll, win_X12, ⟨by decide +kernel, by decide +kernel⟩, by decide +kernel⟩
theorem wml_X12_422 : Cond.methodLink RX12 422 yX12_moveAll ∈ gT := gT_tb (i := 1720) (by decide +kernel) rfl
theorem wim_X12_moveAll : Cond.instanceMethod yX12_moveAll ∈ gT := gT_tb (i := 1722) (by decide +kernel) rfl
theorem wse_X12_X12_moveAll_X12_moveAll : Cond.selects RX12 yX12_moveAll yX12_moveAll ∈ gT := gT_pr (i := 96) (by decide +kernel) rfl
theorem wfl_X12_425 : Cond.fieldLink RX12 425 "PenaltyGridModel" "isKept" "Z" ∈ gT := gT_tb (i := 1148) (by decide +kernel) rfl
theorem gf_X12_425_11 : gFld RX12 425 11 42 := ⟨RX12, TX12, 45, "PenaltyGridModel", cls_11, by decide, wfl_X12_425, Or.inl rfl, Or.inl rfl⟩
theorem gp_X12_425 {nm : String} : ∀ t ∈ [11], gFld RX12 425 t 42 ∧ gFt t 42 = .boolean ∧ (nm = "<init>" ∨ ∀ (C : String) (T : u_T) (N : Nat), vwCl[t]? = some (C, T, N) → (T 42).2.2.2 = false) := List.forall_mem_cons.mpr ⟨⟨gf_X12_425_11, rfl, Or.inr (fun _ _ _ h => by cases h; rfl)⟩, fun _ h => absurd h List.not_mem_nil⟩
theorem gg_X12_425 : ∀ t ∈ [11], gFldG RX12 425 t 42 ∧ gIsR (gFt t 42) = false := List.forall_mem_cons.mpr ⟨⟨gf_X12_425_11.g, rfl⟩, fun _ h => absurd h List.not_mem_nil⟩

theorem wml_L_36 : Cond.methodLink RL 36 yX12_finding ∈ gT := gT_c6 (i := 72) (by decide +kernel) rfl
theorem wco_X11_finding : Cond.code yX11_finding cX11_finding 4 (some .int) ∈ gT := gT_c2 (i := 113) (by decide +kernel) rfl
theorem mf_X11_finding : gMf yX11_finding cX11_finding 4 (some .int) 3 := ⟨wco_X11_finding, win_X11, ⟨by decide +kernel, by decide +kernel⟩, by decide +kernel⟩
theorem wml_L_32 : Cond.methodLink RL 32 yX11_finding ∈ gT := gT_c2 (i := 110) (by decide +kernel) rfl
theorem wim_X11_finding : Cond.instanceMethod yX11_finding ∈ gT := gT_c2 (i := 111) (by decide +kernel) rfl
theorem wse_X11_X11_finding_X11_finding : Cond.selects RX11 yX11_finding yX11_finding ∈ gT := gT_c2 (i := 112) (by decide +kernel) rfl
theorem wco_X12_another : Cond.code yX12_another cX12_another 6 (some .int) ∈ gT := gT_c7 (i := 169) (by decide +kernel) rfl
theorem mf_X12_another : gMf yX12_another cX12_another 6 (some .int) 2 := ⟨wco_X12_another, win_X12, ⟨by decide +kernel, by decide +kernel⟩, by decide +kernel⟩
theorem wml_L_130 : Cond.methodLink RL 130 yX12_another ∈ gT := gT_c7 (i := 166) (by decide +kernel) rfl
theorem wim_X12_another : Cond.instanceMethod yX12_another ∈ gT := gT_c7 (i := 167) (by decide +kernel) rfl
theorem wse_X12_X12_another_X12_another : Cond.selects RX12 yX12_another yX12_another ∈ gT := gT_c7 (i := 168) (by decide +kernel) rfl
theorem wco_X11_another : Cond.code yX11_another cX11_another 6 (some .int) ∈ gT := gT_c4 (i := 176) (by decide +kernel) rfl
theorem mf_X11_another : gMf yX11_another cX11_another 6 (some .int) 2 := ⟨wco_X11_another, win_X11, ⟨by decide +kernel, by decide +kernel⟩, by decide +kernel⟩
theorem wml_L_126 : Cond.methodLink RL 126 yX11_another ∈ gT := gT_c4 (i := 173) (by decide +kernel) rfl
theorem wim_X11_another : Cond.instanceMethod yX11_another ∈ gT := gT_c4 (i := 174) (by decide +kernel) rfl
theorem wse_X11_X11_another_X11_another : Cond.selects RX11 yX11_another yX11_another ∈ gT := gT_c4 (i := 175) (by decide +kernel) rfl
theorem wco_X11_again : Cond.code yX11_again cX11_again 1 (some .int) ∈ gT := gT_c5 (i := 138) (by decide +kernel) rfl
theorem mf_X11_again : gMf yX11_again cX11_again 1 (some .int) 0 := ⟨wco_X11_again, win_X11, ⟨by decide +kernel, by decide +kernel⟩, by decide +kernel⟩
theorem wml_L_175 : Cond.methodLink RL 175 yX11_again ∈ gT := gT_c5 (i := 135) (by decide +kernel) rfl
theorem wim_X11_again : Cond.instanceMethod yX11_again ∈ gT := gT_c5 (i := 136) (by decide +kernel) rfl
theorem wse_X11_X11_again_X11_again : Cond.selects RX11 yX11_again yX11_again ∈ gT := gT_c5 (i := 137) (by decide +kernel) rfl
theorem wco_X12_again : Cond.code yX12_again cX12_again 1 (some .int) ∈ gT := gT_c8 (i := 51) (by decide +kernel) rfl
theorem mf_X12_again : gMf yX12_again cX12_again 1 (some .int) 0 := ⟨wco_X12_again, win_X12, ⟨by decide +kernel, by decide +kernel⟩, by decide +kernel⟩
theorem wml_L_178 : Cond.methodLink RL 178 yX12_again ∈ gT := gT_c8 (i := 48) (by decide +kernel) rfl
theorem wim_X12_again : Cond.instanceMethod yX12_again ∈ gT := gT_c8 (i := 49) (by decide +kernel) rfl
theorem wse_X12_X12_again_X12_again : Cond.selects RX12 yX12_again yX12_again ∈ gT := gT_c8 (i := 50) (by decide +kernel) rfl
theorem wco_X11_keep : Cond.code yX11_keep cX11_keep 1 (some .int) ∈ gT := gT_c5 (i := 130) (by decide +kernel) rfl
theorem mf_X11_keep : gMf yX11_keep cX11_keep 1 (some .int) 0 := ⟨wco_X11_keep, win_X11, ⟨by decide +kernel, by decide +kernel⟩, by decide +kernel⟩
theorem wml_L_171 : Cond.methodLink RL 171 yX11_keep ∈ gT := gT_c5 (i := 127) (by decide +kernel) rfl
theorem wim_X11_keep : Cond.instanceMethod yX11_keep ∈ gT := gT_c5 (i := 128) (by decide +kernel) rfl
theorem wse_X11_X11_keep_X11_keep : Cond.selects RX11 yX11_keep yX11_keep ∈ gT := gT_c5 (i := 129) (by decide +kernel) rfl
theorem wco_X12_keep : Cond.code yX12_keep cX12_keep 1 (some .int) ∈ gT := gT_c8 (i := 39) (by decide +kernel) rfl
theorem mf_X12_keep : gMf yX12_keep cX12_keep 1 (some .int) 0 := ⟨wco_X12_keep, win_X12, ⟨by decide +kernel, by decide +kernel⟩, by decide +kernel⟩
theorem wml_L_174 : Cond.methodLink RL 174 yX12_keep ∈ gT := gT_c8 (i := 36) (by decide +kernel) rfl
theorem wim_X12_keep : Cond.instanceMethod yX12_keep ∈ gT := gT_c8 (i := 37) (by decide +kernel) rfl
theorem wse_X12_X12_keep_X12_keep : Cond.selects RX12 yX12_keep yX12_keep ∈ gT := gT_c8 (i := 38) (by decide +kernel) rfl
theorem wco_X11_many : Cond.code yX11_many cX11_many 2 (some .int) ∈ gT := gT_c5 (i := 126) (by decide +kernel) rfl
theorem mf_X11_many : gMf yX11_many cX11_many 2 (some .int) 1 := ⟨wco_X11_many, win_X11, ⟨by decide +kernel, by decide +kernel⟩, by decide +kernel⟩
theorem wml_L_167 : Cond.methodLink RL 167 yX11_many ∈ gT := gT_c5 (i := 123) (by decide +kernel) rfl
theorem wim_X11_many : Cond.instanceMethod yX11_many ∈ gT := gT_c5 (i := 124) (by decide +kernel) rfl
theorem wse_X11_X11_many_X11_many : Cond.selects RX11 yX11_many yX11_many ∈ gT := gT_c5 (i := 125) (by decide +kernel) rfl
theorem wco_X12_many : Cond.code yX12_many cX12_many 2 (some .int) ∈ gT := gT_c8 (i := 35) (by decide +kernel) rfl
theorem mf_X12_many : gMf yX12_many cX12_many 2 (some .int) 1 := ⟨wco_X12_many, win_X12, ⟨by decide +kernel, by decide +kernel⟩, by decide +kernel⟩
theorem wml_L_170 : Cond.methodLink RL 170 yX12_many ∈ gT := gT_c8 (i := 32) (by decide +kernel) rfl
theorem wim_X12_many : Cond.instanceMethod yX12_many ∈ gT := gT_c8 (i := 33) (by decide +kernel) rfl
theorem wse_X12_X12_many_X12_many : Cond.selects RX12 yX12_many yX12_many ∈ gT := gT_c8 (i := 34) (by decide +kernel) rfl
theorem wco_X11_trace : Cond.code yX11_trace cX11_trace 2 (some .int) ∈ gT := gT_c5 (i := 122) (by decide +kernel) rfl
theorem mf_X11_trace : gMf yX11_trace cX11_trace 2 (some .int) 1 := ⟨wco_X11_trace, win_X11, ⟨by decide +kernel, by decide +kernel⟩, by decide +kernel⟩
theorem wml_L_163 : Cond.methodLink RL 163 yX11_trace ∈ gT := gT_c5 (i := 119) (by decide +kernel) rfl
theorem wim_X11_trace : Cond.instanceMethod yX11_trace ∈ gT := gT_c5 (i := 120) (by decide +kernel) rfl
theorem wse_X11_X11_trace_X11_trace : Cond.selects RX11 yX11_trace yX11_trace ∈ gT := gT_c5 (i := 121) (by decide +kernel) rfl
theorem wco_X12_trace : Cond.code yX12_trace cX12_trace 2 (some .int) ∈ gT := gT_c8 (i := 31) (by decide +kernel) rfl
theorem mf_X12_trace : gMf yX12_trace cX12_trace 2 (some .int) 1 := ⟨wco_X12_trace, win_X12, ⟨by decide +kernel, by decide +kernel⟩, by decide +kernel⟩
theorem wml_L_166 : Cond.methodLink RL 166 yX12_trace ∈ gT := gT_c8 (i := 28) (by decide +kernel) rfl
theorem wim_X12_trace : Cond.instanceMethod yX12_trace ∈ gT := gT_c8 (i := 29) (by decide +kernel) rfl
theorem wse_X12_X12_trace_X12_trace : Cond.selects RX12 yX12_trace yX12_trace ∈ gT := gT_c8 (i := 30) (by decide +kernel) rfl
theorem wco_X11_act : Cond.code yX11_act cX11_act 6 (some .int) ∈ gT := gT_c5 (i := 25) (by decide +kernel) rfl
theorem mf_X11_act : gMf yX11_act cX11_act 6 (some .int) 3 := ⟨wco_X11_act, win_X11, ⟨by decide +kernel, by decide +kernel⟩, by decide +kernel⟩
theorem wml_L_159 : Cond.methodLink RL 159 yX11_act ∈ gT := gT_c5 (i := 22) (by decide +kernel) rfl
theorem wim_X11_act : Cond.instanceMethod yX11_act ∈ gT := gT_c5 (i := 23) (by decide +kernel) rfl
theorem wse_X11_X11_act_X11_act : Cond.selects RX11 yX11_act yX11_act ∈ gT := gT_c5 (i := 24) (by decide +kernel) rfl
theorem wco_X12_act : Cond.code yX12_act cX12_act 5 (some .int) ∈ gT := gT_c7 (i := 231) (by decide +kernel) rfl
theorem mf_X12_act : gMf yX12_act cX12_act 5 (some .int) 3 := ⟨wco_X12_act, win_X12, ⟨by decide +kernel, by decide +kernel⟩, by decide +kernel⟩
theorem wml_L_162 : Cond.methodLink RL 162 yX12_act ∈ gT := gT_c7 (i := 228) (by decide +kernel) rfl
theorem wim_X12_act : Cond.instanceMethod yX12_act ∈ gT := gT_c7 (i := 229) (by decide +kernel) rfl
theorem wse_X12_X12_act_X12_act : Cond.selects RX12 yX12_act yX12_act ∈ gT := gT_c7 (i := 230) (by decide +kernel) rfl
theorem wco_X11_taken : Cond.code yX11_taken cX11_taken 4 (some .int) ∈ gT := gT_c5 (i := 5) (by decide +kernel) rfl
theorem mf_X11_taken : gMf yX11_taken cX11_taken 4 (some .int) 2 := ⟨wco_X11_taken, win_X11, ⟨by decide +kernel, by decide +kernel⟩, by decide +kernel⟩
theorem wml_L_155 : Cond.methodLink RL 155 yX11_taken ∈ gT := gT_c5 (i := 2) (by decide +kernel) rfl
theorem wim_X11_taken : Cond.instanceMethod yX11_taken ∈ gT := gT_c5 (i := 3) (by decide +kernel) rfl
theorem wse_X11_X11_taken_X11_taken : Cond.selects RX11 yX11_taken yX11_taken ∈ gT := gT_c5 (i := 4) (by decide +kernel) rfl
theorem wco_X12_taken : Cond.code yX12_taken cX12_taken 4 (some .int) ∈ gT := gT_c7 (i := 220) (by decide +kernel) rfl
theorem mf_X12_taken : gMf yX12_taken cX12_taken 4 (some .int) 2 := ⟨wco_X12_taken, win_X12, ⟨by decide +kernel, by decide +kernel⟩, by decide +kernel⟩
theorem wml_L_158 : Cond.methodLink RL 158 yX12_taken ∈ gT := gT_c7 (i := 217) (by decide +kernel) rfl
theorem wim_X12_taken : Cond.instanceMethod yX12_taken ∈ gT := gT_c7 (i := 218) (by decide +kernel) rfl
theorem wse_X12_X12_taken_X12_taken : Cond.selects RX12 yX12_taken yX12_taken ∈ gT := gT_c7 (i := 219) (by decide +kernel) rfl
theorem wco_X11_shelf : Cond.code yX11_shelf cX11_shelf 4 (some .int) ∈ gT := gT_c4 (i := 230) (by decide +kernel) rfl
theorem mf_X11_shelf : gMf yX11_shelf cX11_shelf 4 (some .int) 3 := ⟨wco_X11_shelf, win_X11, ⟨by decide +kernel, by decide +kernel⟩, by decide +kernel⟩
theorem wml_L_151 : Cond.methodLink RL 151 yX11_shelf ∈ gT := gT_c4 (i := 227) (by decide +kernel) rfl
theorem wim_X11_shelf : Cond.instanceMethod yX11_shelf ∈ gT := gT_c4 (i := 228) (by decide +kernel) rfl
theorem wse_X11_X11_shelf_X11_shelf : Cond.selects RX11 yX11_shelf yX11_shelf ∈ gT := gT_c4 (i := 229) (by decide +kernel) rfl
theorem wco_X12_shelf : Cond.code yX12_shelf cX12_shelf 4 (some .int) ∈ gT := gT_c7 (i := 212) (by decide +kernel) rfl
theorem mf_X12_shelf : gMf yX12_shelf cX12_shelf 4 (some .int) 3 := ⟨wco_X12_shelf, win_X12, ⟨by decide +kernel, by decide +kernel⟩, by decide +kernel⟩
theorem wml_L_154 : Cond.methodLink RL 154 yX12_shelf ∈ gT := gT_c7 (i := 209) (by decide +kernel) rfl
theorem wim_X12_shelf : Cond.instanceMethod yX12_shelf ∈ gT := gT_c7 (i := 210) (by decide +kernel) rfl
theorem wse_X12_X12_shelf_X12_shelf : Cond.selects RX12 yX12_shelf yX12_shelf ∈ gT := gT_c7 (i := 211) (by decide +kernel) rfl
theorem wco_X11_comes : Cond.code yX11_comes cX11_comes 10 (some .int) ∈ gT := gT_c4 (i := 226) (by decide +kernel) rfl
theorem mf_X11_comes : gMf yX11_comes cX11_comes 10 (some .int) 4 := ⟨wco_X11_comes, win_X11, ⟨by decide +kernel, by decide +kernel⟩, by decide +kernel⟩
theorem wml_L_147 : Cond.methodLink RL 147 yX11_comes ∈ gT := gT_c4 (i := 223) (by decide +kernel) rfl
theorem wim_X11_comes : Cond.instanceMethod yX11_comes ∈ gT := gT_c4 (i := 224) (by decide +kernel) rfl
theorem wse_X11_X11_comes_X11_comes : Cond.selects RX11 yX11_comes yX11_comes ∈ gT := gT_c4 (i := 225) (by decide +kernel) rfl
theorem wco_X12_comes : Cond.code yX12_comes cX12_comes 9 (some .int) ∈ gT := gT_c7 (i := 207) (by decide +kernel) rfl
theorem mf_X12_comes : gMf yX12_comes cX12_comes 9 (some .int) 4 := ⟨wco_X12_comes, win_X12, ⟨by decide +kernel, by decide +kernel⟩, by decide +kernel⟩
theorem wml_L_150 : Cond.methodLink RL 150 yX12_comes ∈ gT := gT_c7 (i := 204) (by decide +kernel) rfl
theorem wim_X12_comes : Cond.instanceMethod yX12_comes ∈ gT := gT_c7 (i := 205) (by decide +kernel) rfl
theorem wse_X12_X12_comes_X12_comes : Cond.selects RX12 yX12_comes yX12_comes ∈ gT := gT_c7 (i := 206) (by decide +kernel) rfl
theorem wco_X11_item : Cond.code yX11_item cX11_item 5 (some .int) ∈ gT := gT_c4 (i := 218) (by decide +kernel) rfl
theorem mf_X11_item : gMf yX11_item cX11_item 5 (some .int) 3 := ⟨wco_X11_item, win_X11, ⟨by decide +kernel, by decide +kernel⟩, by decide +kernel⟩
theorem wml_L_143 : Cond.methodLink RL 143 yX11_item ∈ gT := gT_c4 (i := 215) (by decide +kernel) rfl
theorem wim_X11_item : Cond.instanceMethod yX11_item ∈ gT := gT_c4 (i := 216) (by decide +kernel) rfl
theorem wse_X11_X11_item_X11_item : Cond.selects RX11 yX11_item yX11_item ∈ gT := gT_c4 (i := 217) (by decide +kernel) rfl
theorem wco_X12_item : Cond.code yX12_item cX12_item 5 (some .int) ∈ gT := gT_c7 (i := 199) (by decide +kernel) rfl
theorem mf_X12_item : gMf yX12_item cX12_item 5 (some .int) 3 := ⟨wco_X12_item, win_X12, ⟨by decide +kernel, by decide +kernel⟩, by decide +kernel⟩
theorem wml_L_146 : Cond.methodLink RL 146 yX12_item ∈ gT := gT_c7 (i := 196) (by decide +kernel) rfl
theorem wim_X12_item : Cond.instanceMethod yX12_item ∈ gT := gT_c7 (i := 197) (by decide +kernel) rfl
theorem wse_X12_X12_item_X12_item : Cond.selects RX12 yX12_item yX12_item ∈ gT := gT_c7 (i := 198) (by decide +kernel) rfl
theorem wco_X11_put : Cond.code yX11_put cX11_put 4 (some .int) ∈ gT := gT_c4 (i := 211) (by decide +kernel) rfl
theorem mf_X11_put : gMf yX11_put cX11_put 4 (some .int) 3 := ⟨wco_X11_put, win_X11, ⟨by decide +kernel, by decide +kernel⟩, by decide +kernel⟩
theorem wml_L_139 : Cond.methodLink RL 139 yX11_put ∈ gT := gT_c4 (i := 208) (by decide +kernel) rfl
theorem wim_X11_put : Cond.instanceMethod yX11_put ∈ gT := gT_c4 (i := 209) (by decide +kernel) rfl
theorem wse_X11_X11_put_X11_put : Cond.selects RX11 yX11_put yX11_put ∈ gT := gT_c4 (i := 210) (by decide +kernel) rfl
theorem wco_X12_put : Cond.code yX12_put cX12_put 4 (some .int) ∈ gT := gT_c7 (i := 192) (by decide +kernel) rfl
theorem mf_X12_put : gMf yX12_put cX12_put 4 (some .int) 3 := ⟨wco_X12_put, win_X12, ⟨by decide +kernel, by decide +kernel⟩, by decide +kernel⟩
theorem wml_L_142 : Cond.methodLink RL 142 yX12_put ∈ gT := gT_c7 (i := 189) (by decide +kernel) rfl
theorem wim_X12_put : Cond.instanceMethod yX12_put ∈ gT := gT_c7 (i := 190) (by decide +kernel) rfl
theorem wse_X12_X12_put_X12_put : Cond.selects RX12 yX12_put yX12_put ∈ gT := gT_c7 (i := 191) (by decide +kernel) rfl
theorem wco_X11_sheet : Cond.code yX11_sheet cX11_sheet 4 (some .int) ∈ gT := gT_c4 (i := 201) (by decide +kernel) rfl
theorem mf_X11_sheet : gMf yX11_sheet cX11_sheet 4 (some .int) 3 := ⟨wco_X11_sheet, win_X11, ⟨by decide +kernel, by decide +kernel⟩, by decide +kernel⟩
theorem wml_L_135 : Cond.methodLink RL 135 yX11_sheet ∈ gT := gT_c4 (i := 198) (by decide +kernel) rfl
theorem wim_X11_sheet : Cond.instanceMethod yX11_sheet ∈ gT := gT_c4 (i := 199) (by decide +kernel) rfl
theorem wse_X11_X11_sheet_X11_sheet : Cond.selects RX11 yX11_sheet yX11_sheet ∈ gT := gT_c4 (i := 200) (by decide +kernel) rfl
theorem wco_X12_sheet : Cond.code yX12_sheet cX12_sheet 5 (some .int) ∈ gT := gT_c7 (i := 185) (by decide +kernel) rfl
theorem mf_X12_sheet : gMf yX12_sheet cX12_sheet 5 (some .int) 3 := ⟨wco_X12_sheet, win_X12, ⟨by decide +kernel, by decide +kernel⟩, by decide +kernel⟩
theorem wml_L_138 : Cond.methodLink RL 138 yX12_sheet ∈ gT := gT_c7 (i := 182) (by decide +kernel) rfl
theorem wim_X12_sheet : Cond.instanceMethod yX12_sheet ∈ gT := gT_c7 (i := 183) (by decide +kernel) rfl
theorem wse_X12_X12_sheet_X12_sheet : Cond.selects RX12 yX12_sheet yX12_sheet ∈ gT := gT_c7 (i := 184) (by decide +kernel) rfl
theorem wco_X11_like : Cond.code yX11_like cX11_like 7 (some .int) ∈ gT := gT_c4 (i := 180) (by decide +kernel) rfl
theorem mf_X11_like : gMf yX11_like cX11_like 7 (some .int) 2 := ⟨wco_X11_like, win_X11, ⟨by decide +kernel, by decide +kernel⟩, by decide +kernel⟩
theorem wml_L_131 : Cond.methodLink RL 131 yX11_like ∈ gT := gT_c4 (i := 177) (by decide +kernel) rfl
theorem wim_X11_like : Cond.instanceMethod yX11_like ∈ gT := gT_c4 (i := 178) (by decide +kernel) rfl
theorem wse_X11_X11_like_X11_like : Cond.selects RX11 yX11_like yX11_like ∈ gT := gT_c4 (i := 179) (by decide +kernel) rfl
theorem wco_X12_like : Cond.code yX12_like cX12_like 7 (some .int) ∈ gT := gT_c7 (i := 173) (by decide +kernel) rfl
theorem mf_X12_like : gMf yX12_like cX12_like 7 (some .int) 2 := ⟨wco_X12_like, win_X12, ⟨by decide +kernel, by decide +kernel⟩, by decide +kernel⟩
theorem wml_L_134 : Cond.methodLink RL 134 yX12_like ∈ gT := gT_c7 (i := 170) (by decide +kernel) rfl
theorem wim_X12_like : Cond.instanceMethod yX12_like ∈ gT := gT_c7 (i := 171) (by decide +kernel) rfl
theorem wse_X12_X12_like_X12_like : Cond.selects RX12 yX12_like yX12_like ∈ gT := gT_c7 (i := 172) (by decide +kernel) rfl
theorem wco_X11_spread : Cond.code yX11_spread cX11_spread 10 (some .int) ∈ gT := gT_c4 (i := 145) (by decide +kernel) rfl
theorem mf_X11_spread : gMf yX11_spread cX11_spread 10 (some .int) 3 := ⟨wco_X11_spread, win_X11, ⟨by decide +kernel, by decide +kernel⟩, by decide +kernel⟩
theorem wml_L_122 : Cond.methodLink RL 122 yX11_spread ∈ gT := gT_c4 (i := 142) (by decide +kernel) rfl
theorem wim_X11_spread : Cond.instanceMethod yX11_spread ∈ gT := gT_c4 (i := 143) (by decide +kernel) rfl
theorem wse_X11_X11_spread_X11_spread : Cond.selects RX11 yX11_spread yX11_spread ∈ gT := gT_c4 (i := 144) (by decide +kernel) rfl
theorem wco_X12_spread : Cond.code yX12_spread cX12_spread 10 (some .int) ∈ gT := gT_c7 (i := 156) (by decide +kernel) rfl
theorem mf_X12_spread : gMf yX12_spread cX12_spread 10 (some .int) 3 := ⟨wco_X12_spread, win_X12, ⟨by decide +kernel, by decide +kernel⟩, by decide +kernel⟩
theorem wml_L_125 : Cond.methodLink RL 125 yX12_spread ∈ gT := gT_c7 (i := 153) (by decide +kernel) rfl
theorem wim_X12_spread : Cond.instanceMethod yX12_spread ∈ gT := gT_c7 (i := 154) (by decide +kernel) rfl
theorem wse_X12_X12_spread_X12_spread : Cond.selects RX12 yX12_spread yX12_spread ∈ gT := gT_c7 (i := 155) (by decide +kernel) rfl
theorem wco_X11_judge : Cond.code yX11_judge cX11_judge 2 (some .int) ∈ gT := gT_c4 (i := 135) (by decide +kernel) rfl
theorem mf_X11_judge : gMf yX11_judge cX11_judge 2 (some .int) 0 := ⟨wco_X11_judge, win_X11, ⟨by decide +kernel, by decide +kernel⟩, by decide +kernel⟩
theorem wml_L_118 : Cond.methodLink RL 118 yX11_judge ∈ gT := gT_c4 (i := 132) (by decide +kernel) rfl
theorem wim_X11_judge : Cond.instanceMethod yX11_judge ∈ gT := gT_c4 (i := 133) (by decide +kernel) rfl
theorem wse_X11_X11_judge_X11_judge : Cond.selects RX11 yX11_judge yX11_judge ∈ gT := gT_c4 (i := 134) (by decide +kernel) rfl
theorem wco_X12_judge : Cond.code yX12_judge cX12_judge 6 (some .int) ∈ gT := gT_c7 (i := 152) (by decide +kernel) rfl
theorem mf_X12_judge : gMf yX12_judge cX12_judge 6 (some .int) 0 := ⟨wco_X12_judge, win_X12, ⟨by decide +kernel, by decide +kernel⟩, by decide +kernel⟩
theorem wml_L_121 : Cond.methodLink RL 121 yX12_judge ∈ gT := gT_c7 (i := 149) (by decide +kernel) rfl
theorem wim_X12_judge : Cond.instanceMethod yX12_judge ∈ gT := gT_c7 (i := 150) (by decide +kernel) rfl
theorem wse_X12_X12_judge_X12_judge : Cond.selects RX12 yX12_judge yX12_judge ∈ gT := gT_c7 (i := 151) (by decide +kernel) rfl
theorem wco_X11_alterRow : Cond.code yX11_alterRow cX11_alterRow 5 (some .int) ∈ gT := gT_c4 (i := 130) (by decide +kernel) rfl
theorem mf_X11_alterRow : gMf yX11_alterRow cX11_alterRow 5 (some .int) 3 := ⟨wco_X11_alterRow, win_X11, ⟨by decide +kernel, by decide +kernel⟩, by decide +kernel⟩
theorem wml_L_114 : Cond.methodLink RL 114 yX11_alterRow ∈ gT := gT_c4 (i := 127) (by decide +kernel) rfl
theorem wim_X11_alterRow : Cond.instanceMethod yX11_alterRow ∈ gT := gT_c4 (i := 128) (by decide +kernel) rfl
theorem wse_X11_X11_alterRow_X11_alterRow : Cond.selects RX11 yX11_alterRow yX11_alterRow ∈ gT := gT_c4 (i := 129) (by decide +kernel) rfl
theorem wco_X12_alterRow : Cond.code yX12_alterRow cX12_alterRow 5 (some .int) ∈ gT := gT_c7 (i := 148) (by decide +kernel) rfl
theorem mf_X12_alterRow : gMf yX12_alterRow cX12_alterRow 5 (some .int) 3 := ⟨wco_X12_alterRow, win_X12, ⟨by decide +kernel, by decide +kernel⟩, by decide +kernel⟩
theorem wml_L_117 : Cond.methodLink RL 117 yX12_alterRow ∈ gT := gT_c7 (i := 145) (by decide +kernel) rfl
theorem wim_X12_alterRow : Cond.instanceMethod yX12_alterRow ∈ gT := gT_c7 (i := 146) (by decide +kernel) rfl
theorem wse_X12_X12_alterRow_X12_alterRow : Cond.selects RX12 yX12_alterRow yX12_alterRow ∈ gT := gT_c7 (i := 147) (by decide +kernel) rfl
theorem wco_X11_row : Cond.code yX11_row cX11_row 3 (some .int) ∈ gT := gT_c4 (i := 121) (by decide +kernel) rfl
theorem mf_X11_row : gMf yX11_row cX11_row 3 (some .int) 2 := ⟨wco_X11_row, win_X11, ⟨by decide +kernel, by decide +kernel⟩, by decide +kernel⟩
theorem wml_L_110 : Cond.methodLink RL 110 yX11_row ∈ gT := gT_c4 (i := 118) (by decide +kernel) rfl
theorem wim_X11_row : Cond.instanceMethod yX11_row ∈ gT := gT_c4 (i := 119) (by decide +kernel) rfl
theorem wse_X11_X11_row_X11_row : Cond.selects RX11 yX11_row yX11_row ∈ gT := gT_c4 (i := 120) (by decide +kernel) rfl
theorem wco_X12_row : Cond.code yX12_row cX12_row 3 (some .int) ∈ gT := gT_c7 (i := 140) (by decide +kernel) rfl
theorem mf_X12_row : gMf yX12_row cX12_row 3 (some .int) 2 := ⟨wco_X12_row, win_X12, ⟨by decide +kernel, by decide +kernel⟩, by decide +kernel⟩
theorem wml_L_113 : Cond.methodLink RL 113 yX12_row ∈ gT := gT_c7 (i := 137) (by decide +kernel) rfl
theorem wim_X12_row : Cond.instanceMethod yX12_row ∈ gT := gT_c7 (i := 138) (by decide +kernel) rfl
theorem wse_X12_X12_row_X12_row : Cond.selects RX12 yX12_row yX12_row ∈ gT := gT_c7 (i := 139) (by decide +kernel) rfl
theorem wco_X11_prove : Cond.code yX11_prove cX11_prove 2 (some .int) ∈ gT := gT_c4 (i := 116) (by decide +kernel) rfl
theorem mf_X11_prove : gMf yX11_prove cX11_prove 2 (some .int) 1 := ⟨wco_X11_prove, win_X11, ⟨by decide +kernel, by decide +kernel⟩, by decide +kernel⟩
theorem wml_L_106 : Cond.methodLink RL 106 yX11_prove ∈ gT := gT_c4 (i := 113) (by decide +kernel) rfl
theorem wim_X11_prove : Cond.instanceMethod yX11_prove ∈ gT := gT_c4 (i := 114) (by decide +kernel) rfl
theorem wse_X11_X11_prove_X11_prove : Cond.selects RX11 yX11_prove yX11_prove ∈ gT := gT_c4 (i := 115) (by decide +kernel) rfl
theorem wco_X12_prove : Cond.code yX12_prove cX12_prove 3 (some .int) ∈ gT := gT_c7 (i := 136) (by decide +kernel) rfl
theorem mf_X12_prove : gMf yX12_prove cX12_prove 3 (some .int) 1 := ⟨wco_X12_prove, win_X12, ⟨by decide +kernel, by decide +kernel⟩, by decide +kernel⟩
theorem wml_L_109 : Cond.methodLink RL 109 yX12_prove ∈ gT := gT_c7 (i := 133) (by decide +kernel) rfl
theorem wim_X12_prove : Cond.instanceMethod yX12_prove ∈ gT := gT_c7 (i := 134) (by decide +kernel) rfl
theorem wse_X12_X12_prove_X12_prove : Cond.selects RX12 yX12_prove yX12_prove ∈ gT := gT_c7 (i := 135) (by decide +kernel) rfl
theorem wco_X11_beds : Cond.code yX11_beds cX11_beds 6 (some .int) ∈ gT := gT_c4 (i := 111) (by decide +kernel) rfl
theorem mf_X11_beds : gMf yX11_beds cX11_beds 6 (some .int) 2 := ⟨wco_X11_beds, win_X11, ⟨by decide +kernel, by decide +kernel⟩, by decide +kernel⟩
theorem wml_L_102 : Cond.methodLink RL 102 yX11_beds ∈ gT := gT_c4 (i := 108) (by decide +kernel) rfl
theorem wim_X11_beds : Cond.instanceMethod yX11_beds ∈ gT := gT_c4 (i := 109) (by decide +kernel) rfl
theorem wse_X11_X11_beds_X11_beds : Cond.selects RX11 yX11_beds yX11_beds ∈ gT := gT_c4 (i := 110) (by decide +kernel) rfl
theorem wco_X12_beds : Cond.code yX12_beds cX12_beds 6 (some .int) ∈ gT := gT_c7 (i := 132) (by decide +kernel) rfl
theorem mf_X12_beds : gMf yX12_beds cX12_beds 6 (some .int) 2 := ⟨wco_X12_beds, win_X12, ⟨by decide +kernel, by decide +kernel⟩, by decide +kernel⟩
theorem wml_L_105 : Cond.methodLink RL 105 yX12_beds ∈ gT := gT_c7 (i := 129) (by decide +kernel) rfl
theorem wim_X12_beds : Cond.instanceMethod yX12_beds ∈ gT := gT_c7 (i := 130) (by decide +kernel) rfl
theorem wse_X12_X12_beds_X12_beds : Cond.selects RX12 yX12_beds yX12_beds ∈ gT := gT_c7 (i := 131) (by decide +kernel) rfl
theorem wco_X11_release : Cond.code yX11_release cX11_release 3 (some .int) ∈ gT := gT_c4 (i := 69) (by decide +kernel) rfl
theorem mf_X11_release : gMf yX11_release cX11_release 3 (some .int) 2 := ⟨wco_X11_release, win_X11, ⟨by decide +kernel, by decide +kernel⟩, by decide +kernel⟩
theorem wml_L_98 : Cond.methodLink RL 98 yX11_release ∈ gT := gT_c4 (i := 66) (by decide +kernel) rfl
theorem wim_X11_release : Cond.instanceMethod yX11_release ∈ gT := gT_c4 (i := 67) (by decide +kernel) rfl
theorem wse_X11_X11_release_X11_release : Cond.selects RX11 yX11_release yX11_release ∈ gT := gT_c4 (i := 68) (by decide +kernel) rfl
theorem wco_X12_release : Cond.code yX12_release cX12_release 3 (some .int) ∈ gT := gT_c7 (i := 124) (by decide +kernel) rfl
theorem mf_X12_release : gMf yX12_release cX12_release 3 (some .int) 2 := ⟨wco_X12_release, win_X12, ⟨by decide +kernel, by decide +kernel⟩, by decide +kernel⟩
theorem wml_L_101 : Cond.methodLink RL 101 yX12_release ∈ gT := gT_c7 (i := 121) (by decide +kernel) rfl
theorem wim_X12_release : Cond.instanceMethod yX12_release ∈ gT := gT_c7 (i := 122) (by decide +kernel) rfl
theorem wse_X12_X12_release_X12_release : Cond.selects RX12 yX12_release yX12_release ∈ gT := gT_c7 (i := 123) (by decide +kernel) rfl
theorem wco_X11_good : Cond.code yX11_good cX11_good 3 (some .int) ∈ gT := gT_c4 (i := 65) (by decide +kernel) rfl
theorem mf_X11_good : gMf yX11_good cX11_good 3 (some .int) 2 := ⟨wco_X11_good, win_X11, ⟨by decide +kernel, by decide +kernel⟩, by decide +kernel⟩
theorem wml_L_94 : Cond.methodLink RL 94 yX11_good ∈ gT := gT_c4 (i := 62) (by decide +kernel) rfl
theorem wim_X11_good : Cond.instanceMethod yX11_good ∈ gT := gT_c4 (i := 63) (by decide +kernel) rfl
theorem wse_X11_X11_good_X11_good : Cond.selects RX11 yX11_good yX11_good ∈ gT := gT_c4 (i := 64) (by decide +kernel) rfl
theorem wco_X12_good : Cond.code yX12_good cX12_good 3 (some .int) ∈ gT := gT_c7 (i := 120) (by decide +kernel) rfl
theorem mf_X12_good : gMf yX12_good cX12_good 3 (some .int) 2 := ⟨wco_X12_good, win_X12, ⟨by decide +kernel, by decide +kernel⟩, by decide +kernel⟩
theorem wml_L_97 : Cond.methodLink RL 97 yX12_good ∈ gT := gT_c7 (i := 117) (by decide +kernel) rfl
theorem wim_X12_good : Cond.instanceMethod yX12_good ∈ gT := gT_c7 (i := 118) (by decide +kernel) rfl
theorem wse_X12_X12_good_X12_good : Cond.selects RX12 yX12_good yX12_good ∈ gT := gT_c7 (i := 119) (by decide +kernel) rfl
theorem wco_X11_credit : Cond.code yX11_credit cX11_credit 3 (some .int) ∈ gT := gT_c4 (i := 47) (by decide +kernel) rfl
theorem mf_X11_credit : gMf yX11_credit cX11_credit 3 (some .int) 2 := ⟨wco_X11_credit, win_X11, ⟨by decide +kernel, by decide +kernel⟩, by decide +kernel⟩
theorem wml_L_90 : Cond.methodLink RL 90 yX11_credit ∈ gT := gT_c4 (i := 44) (by decide +kernel) rfl
theorem wim_X11_credit : Cond.instanceMethod yX11_credit ∈ gT := gT_c4 (i := 45) (by decide +kernel) rfl
theorem wse_X11_X11_credit_X11_credit : Cond.selects RX11 yX11_credit yX11_credit ∈ gT := gT_c4 (i := 46) (by decide +kernel) rfl
theorem wco_X12_credit : Cond.code yX12_credit cX12_credit 3 (some .int) ∈ gT := gT_c7 (i := 88) (by decide +kernel) rfl
theorem mf_X12_credit : gMf yX12_credit cX12_credit 3 (some .int) 2 := ⟨wco_X12_credit, win_X12, ⟨by decide +kernel, by decide +kernel⟩, by decide +kernel⟩
theorem wml_L_93 : Cond.methodLink RL 93 yX12_credit ∈ gT := gT_c7 (i := 85) (by decide +kernel) rfl
theorem wim_X12_credit : Cond.instanceMethod yX12_credit ∈ gT := gT_c7 (i := 86) (by decide +kernel) rfl
theorem wse_X12_X12_credit_X12_credit : Cond.selects RX12 yX12_credit yX12_credit ∈ gT := gT_c7 (i := 87) (by decide +kernel) rfl
theorem wco_X11_held : Cond.code yX11_held cX11_held 4 (some .int) ∈ gT := gT_c4 (i := 39) (by decide +kernel) rfl
theorem mf_X11_held : gMf yX11_held cX11_held 4 (some .int) 3 := ⟨wco_X11_held, win_X11, ⟨by decide +kernel, by decide +kernel⟩, by decide +kernel⟩
theorem wml_L_86 : Cond.methodLink RL 86 yX11_held ∈ gT := gT_c4 (i := 36) (by decide +kernel) rfl
theorem wim_X11_held : Cond.instanceMethod yX11_held ∈ gT := gT_c4 (i := 37) (by decide +kernel) rfl
theorem wse_X11_X11_held_X11_held : Cond.selects RX11 yX11_held yX11_held ∈ gT := gT_c4 (i := 38) (by decide +kernel) rfl
theorem wco_X12_held : Cond.code yX12_held cX12_held 5 (some .int) ∈ gT := gT_c7 (i := 84) (by decide +kernel) rfl
theorem mf_X12_held : gMf yX12_held cX12_held 5 (some .int) 3 := ⟨wco_X12_held, win_X12, ⟨by decide +kernel, by decide +kernel⟩, by decide +kernel⟩
theorem wml_L_89 : Cond.methodLink RL 89 yX12_held ∈ gT := gT_c7 (i := 81) (by decide +kernel) rfl
theorem wim_X12_held : Cond.instanceMethod yX12_held ∈ gT := gT_c7 (i := 82) (by decide +kernel) rfl
theorem wse_X12_X12_held_X12_held : Cond.selects RX12 yX12_held yX12_held ∈ gT := gT_c7 (i := 83) (by decide +kernel) rfl
theorem wco_X11_amiss : Cond.code yX11_amiss cX11_amiss 4 (some .int) ∈ gT := gT_c4 (i := 29) (by decide +kernel) rfl
theorem mf_X11_amiss : gMf yX11_amiss cX11_amiss 4 (some .int) 1 := ⟨wco_X11_amiss, win_X11, ⟨by decide +kernel, by decide +kernel⟩, by decide +kernel⟩
theorem wml_L_82 : Cond.methodLink RL 82 yX11_amiss ∈ gT := gT_c4 (i := 26) (by decide +kernel) rfl
theorem wim_X11_amiss : Cond.instanceMethod yX11_amiss ∈ gT := gT_c4 (i := 27) (by decide +kernel) rfl
theorem wse_X11_X11_amiss_X11_amiss : Cond.selects RX11 yX11_amiss yX11_amiss ∈ gT := gT_c4 (i := 28) (by decide +kernel) rfl
theorem wco_X12_amiss : Cond.code yX12_amiss cX12_amiss 4 (some .int) ∈ gT := gT_c7 (i := 76) (by decide +kernel) rfl
theorem mf_X12_amiss : gMf yX12_amiss cX12_amiss 4 (some .int) 1 := ⟨wco_X12_amiss, win_X12, ⟨by decide +kernel, by decide +kernel⟩, by decide +kernel⟩
theorem wml_L_85 : Cond.methodLink RL 85 yX12_amiss ∈ gT := gT_c7 (i := 73) (by decide +kernel) rfl
theorem wim_X12_amiss : Cond.instanceMethod yX12_amiss ∈ gT := gT_c7 (i := 74) (by decide +kernel) rfl
theorem wse_X12_X12_amiss_X12_amiss : Cond.selects RX12 yX12_amiss yX12_amiss ∈ gT := gT_c7 (i := 75) (by decide +kernel) rfl
theorem wco_X11_appeal : Cond.code yX11_appeal cX11_appeal 2 (some .int) ∈ gT := gT_c4 (i := 16) (by decide +kernel) rfl
theorem mf_X11_appeal : gMf yX11_appeal cX11_appeal 2 (some .int) 1 := ⟨wco_X11_appeal, win_X11, ⟨by decide +kernel, by decide +kernel⟩, by decide +kernel⟩
theorem wml_L_78 : Cond.methodLink RL 78 yX11_appeal ∈ gT := gT_c4 (i := 13) (by decide +kernel) rfl
theorem wim_X11_appeal : Cond.instanceMethod yX11_appeal ∈ gT := gT_c4 (i := 14) (by decide +kernel) rfl
theorem wse_X11_X11_appeal_X11_appeal : Cond.selects RX11 yX11_appeal yX11_appeal ∈ gT := gT_c4 (i := 15) (by decide +kernel) rfl
theorem wco_X12_appeal : Cond.code yX12_appeal cX12_appeal 2 (some .int) ∈ gT := gT_c7 (i := 64) (by decide +kernel) rfl
theorem mf_X12_appeal : gMf yX12_appeal cX12_appeal 2 (some .int) 1 := ⟨wco_X12_appeal, win_X12, ⟨by decide +kernel, by decide +kernel⟩, by decide +kernel⟩
theorem wml_L_81 : Cond.methodLink RL 81 yX12_appeal ∈ gT := gT_c7 (i := 61) (by decide +kernel) rfl
theorem wim_X12_appeal : Cond.instanceMethod yX12_appeal ∈ gT := gT_c7 (i := 62) (by decide +kernel) rfl
theorem wse_X12_X12_appeal_X12_appeal : Cond.selects RX12 yX12_appeal yX12_appeal ∈ gT := gT_c7 (i := 63) (by decide +kernel) rfl
theorem wco_X11_term : Cond.code yX11_term cX11_term 5 (some .int) ∈ gT := gT_c3 (i := 207) (by decide +kernel) rfl
theorem mf_X11_term : gMf yX11_term cX11_term 5 (some .int) 4 := ⟨wco_X11_term, win_X11, ⟨by decide +kernel, by decide +kernel⟩, by decide +kernel⟩
theorem wml_L_73 : Cond.methodLink RL 73 yX11_term ∈ gT := gT_c3 (i := 204) (by decide +kernel) rfl
theorem wim_X11_term : Cond.instanceMethod yX11_term ∈ gT := gT_c3 (i := 205) (by decide +kernel) rfl
theorem wse_X11_X11_term_X11_term : Cond.selects RX11 yX11_term yX11_term ∈ gT := gT_c3 (i := 206) (by decide +kernel) rfl
theorem wco_X12_term : Cond.code yX12_term cX12_term 7 (some .int) ∈ gT := gT_c7 (i := 59) (by decide +kernel) rfl
theorem mf_X12_term : gMf yX12_term cX12_term 7 (some .int) 4 := ⟨wco_X12_term, win_X12, ⟨by decide +kernel, by decide +kernel⟩, by decide +kernel⟩
theorem wml_L_77 : Cond.methodLink RL 77 yX12_term ∈ gT := gT_c7 (i := 56) (by decide +kernel) rfl
theorem wim_X12_term : Cond.instanceMethod yX12_term ∈ gT := gT_c7 (i := 57) (by decide +kernel) rfl
theorem wse_X12_X12_term_X12_term : Cond.selects RX12 yX12_term yX12_term ∈ gT := gT_c7 (i := 58) (by decide +kernel) rfl
theorem wco_X11_range : Cond.code yX11_range cX11_range 4 (some .int) ∈ gT := gT_c3 (i := 194) (by decide +kernel) rfl
theorem mf_X11_range : gMf yX11_range cX11_range 4 (some .int) 3 := ⟨wco_X11_range, win_X11, ⟨by decide +kernel, by decide +kernel⟩, by decide +kernel⟩
theorem wml_L_69 : Cond.methodLink RL 69 yX11_range ∈ gT := gT_c3 (i := 191) (by decide +kernel) rfl
theorem wim_X11_range : Cond.instanceMethod yX11_range ∈ gT := gT_c3 (i := 192) (by decide +kernel) rfl
theorem wse_X11_X11_range_X11_range : Cond.selects RX11 yX11_range yX11_range ∈ gT := gT_c3 (i := 193) (by decide +kernel) rfl
theorem wco_X12_range : Cond.code yX12_range cX12_range 4 (some .int) ∈ gT := gT_c7 (i := 51) (by decide +kernel) rfl
theorem mf_X12_range : gMf yX12_range cX12_range 4 (some .int) 3 := ⟨wco_X12_range, win_X12, ⟨by decide +kernel, by decide +kernel⟩, by decide +kernel⟩
theorem wml_L_72 : Cond.methodLink RL 72 yX12_range ∈ gT := gT_c7 (i := 48) (by decide +kernel) rfl
theorem wim_X12_range : Cond.instanceMethod yX12_range ∈ gT := gT_c7 (i := 49) (by decide +kernel) rfl
theorem wse_X12_X12_range_X12_range : Cond.selects RX12 yX12_range yX12_range ∈ gT := gT_c7 (i := 50) (by decide +kernel) rfl
theorem wco_X11_grave : Cond.code yX11_grave cX11_grave 4 (some .int) ∈ gT := gT_c3 (i := 164) (by decide +kernel) rfl
theorem mf_X11_grave : gMf yX11_grave cX11_grave 4 (some .int) 3 := ⟨wco_X11_grave, win_X11, ⟨by decide +kernel, by decide +kernel⟩, by decide +kernel⟩
theorem wml_L_65 : Cond.methodLink RL 65 yX11_grave ∈ gT := gT_c3 (i := 161) (by decide +kernel) rfl
theorem wim_X11_grave : Cond.instanceMethod yX11_grave ∈ gT := gT_c3 (i := 162) (by decide +kernel) rfl
theorem wse_X11_X11_grave_X11_grave : Cond.selects RX11 yX11_grave yX11_grave ∈ gT := gT_c3 (i := 163) (by decide +kernel) rfl
theorem wco_X12_grave : Cond.code yX12_grave cX12_grave 4 (some .int) ∈ gT := gT_c7 (i := 21) (by decide +kernel) rfl
theorem mf_X12_grave : gMf yX12_grave cX12_grave 4 (some .int) 3 := ⟨wco_X12_grave, win_X12, ⟨by decide +kernel, by decide +kernel⟩, by decide +kernel⟩
theorem wml_L_68 : Cond.methodLink RL 68 yX12_grave ∈ gT := gT_c7 (i := 18) (by decide +kernel) rfl
theorem wim_X12_grave : Cond.instanceMethod yX12_grave ∈ gT := gT_c7 (i := 19) (by decide +kernel) rfl
theorem wse_X12_X12_grave_X12_grave : Cond.selects RX12 yX12_grave yX12_grave ∈ gT := gT_c7 (i := 20) (by decide +kernel) rfl
theorem wco_X11_points : Cond.code yX11_points cX11_points 4 (some .int) ∈ gT := gT_c3 (i := 152) (by decide +kernel) rfl
theorem mf_X11_points : gMf yX11_points cX11_points 4 (some .int) 3 := ⟨wco_X11_points, win_X11, ⟨by decide +kernel, by decide +kernel⟩, by decide +kernel⟩
theorem wml_L_61 : Cond.methodLink RL 61 yX11_points ∈ gT := gT_c3 (i := 149) (by decide +kernel) rfl
theorem wim_X11_points : Cond.instanceMethod yX11_points ∈ gT := gT_c3 (i := 150) (by decide +kernel) rfl
theorem wse_X11_X11_points_X11_points : Cond.selects RX11 yX11_points yX11_points ∈ gT := gT_c3 (i := 151) (by decide +kernel) rfl
theorem wco_X12_points : Cond.code yX12_points cX12_points 4 (some .int) ∈ gT := gT_c7 (i := 1) (by decide +kernel) rfl
theorem mf_X12_points : gMf yX12_points cX12_points 4 (some .int) 3 := ⟨wco_X12_points, win_X12, ⟨by decide +kernel, by decide +kernel⟩, by decide +kernel⟩
theorem wml_L_64 : Cond.methodLink RL 64 yX12_points ∈ gT := gT_c6 (i := 238) (by decide +kernel) rfl
theorem wim_X12_points : Cond.instanceMethod yX12_points ∈ gT := gT_c6 (i := 239) (by decide +kernel) rfl
theorem wse_X12_X12_points_X12_points : Cond.selects RX12 yX12_points yX12_points ∈ gT := gT_c7 (i := 0) (by decide +kernel) rfl
theorem wco_X11_law : Cond.code yX11_law cX11_law 4 (some .int) ∈ gT := gT_c3 (i := 144) (by decide +kernel) rfl
theorem mf_X11_law : gMf yX11_law cX11_law 4 (some .int) 2 := ⟨wco_X11_law, win_X11, ⟨by decide +kernel, by decide +kernel⟩, by decide +kernel⟩
theorem wml_L_57 : Cond.methodLink RL 57 yX11_law ∈ gT := gT_c3 (i := 141) (by decide +kernel) rfl
theorem wim_X11_law : Cond.instanceMethod yX11_law ∈ gT := gT_c3 (i := 142) (by decide +kernel) rfl
theorem wse_X11_X11_law_X11_law : Cond.selects RX11 yX11_law yX11_law ∈ gT := gT_c3 (i := 143) (by decide +kernel) rfl
theorem wco_X12_law : Cond.code yX12_law cX12_law 3 (some .int) ∈ gT := gT_c6 (i := 229) (by decide +kernel) rfl
theorem mf_X12_law : gMf yX12_law cX12_law 3 (some .int) 2 := ⟨wco_X12_law, win_X12, ⟨by decide +kernel, by decide +kernel⟩, by decide +kernel⟩
theorem wml_L_60 : Cond.methodLink RL 60 yX12_law ∈ gT := gT_c6 (i := 226) (by decide +kernel) rfl
theorem wim_X12_law : Cond.instanceMethod yX12_law ∈ gT := gT_c6 (i := 227) (by decide +kernel) rfl
theorem wse_X12_X12_law_X12_law : Cond.selects RX12 yX12_law yX12_law ∈ gT := gT_c6 (i := 228) (by decide +kernel) rfl
theorem wco_X11_version : Cond.code yX11_version cX11_version 4 (some .int) ∈ gT := gT_c3 (i := 136) (by decide +kernel) rfl
theorem mf_X11_version : gMf yX11_version cX11_version 4 (some .int) 2 := ⟨wco_X11_version, win_X11, ⟨by decide +kernel, by decide +kernel⟩, by decide +kernel⟩
theorem wml_L_53 : Cond.methodLink RL 53 yX11_version ∈ gT := gT_c3 (i := 133) (by decide +kernel) rfl
theorem wim_X11_version : Cond.instanceMethod yX11_version ∈ gT := gT_c3 (i := 134) (by decide +kernel) rfl
theorem wse_X11_X11_version_X11_version : Cond.selects RX11 yX11_version yX11_version ∈ gT := gT_c3 (i := 135) (by decide +kernel) rfl
theorem wco_X12_version : Cond.code yX12_version cX12_version 3 (some .int) ∈ gT := gT_c6 (i := 213) (by decide +kernel) rfl
theorem mf_X12_version : gMf yX12_version cX12_version 3 (some .int) 2 := ⟨wco_X12_version, win_X12, ⟨by decide +kernel, by decide +kernel⟩, by decide +kernel⟩
theorem wml_L_56 : Cond.methodLink RL 56 yX12_version ∈ gT := gT_c6 (i := 210) (by decide +kernel) rfl
theorem wim_X12_version : Cond.instanceMethod yX12_version ∈ gT := gT_c6 (i := 211) (by decide +kernel) rfl
theorem wse_X12_X12_version_X12_version : Cond.selects RX12 yX12_version yX12_version ∈ gT := gT_c6 (i := 212) (by decide +kernel) rfl
theorem wco_X11_read : Cond.code yX11_read cX11_read 3 (some .int) ∈ gT := gT_c2 (i := 180) (by decide +kernel) rfl
theorem mf_X11_read : gMf yX11_read cX11_read 3 (some .int) 0 := ⟨wco_X11_read, win_X11, ⟨by decide +kernel, by decide +kernel⟩, by decide +kernel⟩
theorem wml_L_48 : Cond.methodLink RL 48 yX11_read ∈ gT := gT_c2 (i := 177) (by decide +kernel) rfl
theorem wim_X11_read : Cond.instanceMethod yX11_read ∈ gT := gT_c2 (i := 178) (by decide +kernel) rfl
theorem wse_X11_X11_read_X11_read : Cond.selects RX11 yX11_read yX11_read ∈ gT := gT_c2 (i := 179) (by decide +kernel) rfl
theorem wco_X12_read : Cond.code yX12_read cX12_read 4 (some .int) ∈ gT := gT_c6 (i := 119) (by decide +kernel) rfl
theorem mf_X12_read : gMf yX12_read cX12_read 4 (some .int) 0 := ⟨wco_X12_read, win_X12, ⟨by decide +kernel, by decide +kernel⟩, by decide +kernel⟩
theorem wml_L_52 : Cond.methodLink RL 52 yX12_read ∈ gT := gT_c6 (i := 116) (by decide +kernel) rfl
theorem wim_X12_read : Cond.instanceMethod yX12_read ∈ gT := gT_c6 (i := 117) (by decide +kernel) rfl
theorem wse_X12_X12_read_X12_read : Cond.selects RX12 yX12_read yX12_read ∈ gT := gT_c6 (i := 118) (by decide +kernel) rfl
theorem wco_X11_feed : Cond.code yX11_feed cX11_feed 5 (some .int) ∈ gT := gT_c2 (i := 172) (by decide +kernel) rfl
theorem mf_X11_feed : gMf yX11_feed cX11_feed 5 (some .int) 2 := ⟨wco_X11_feed, win_X11, ⟨by decide +kernel, by decide +kernel⟩, by decide +kernel⟩
theorem wml_L_43 : Cond.methodLink RL 43 yX11_feed ∈ gT := gT_c2 (i := 169) (by decide +kernel) rfl
theorem wim_X11_feed : Cond.instanceMethod yX11_feed ∈ gT := gT_c2 (i := 170) (by decide +kernel) rfl
theorem wse_X11_X11_feed_X11_feed : Cond.selects RX11 yX11_feed yX11_feed ∈ gT := gT_c2 (i := 171) (by decide +kernel) rfl
theorem wco_X12_feed : Cond.code yX12_feed cX12_feed 5 (some .int) ∈ gT := gT_c6 (i := 114) (by decide +kernel) rfl
theorem mf_X12_feed : gMf yX12_feed cX12_feed 5 (some .int) 2 := ⟨wco_X12_feed, win_X12, ⟨by decide +kernel, by decide +kernel⟩, by decide +kernel⟩
theorem wml_L_47 : Cond.methodLink RL 47 yX12_feed ∈ gT := gT_c6 (i := 111) (by decide +kernel) rfl
theorem wim_X12_feed : Cond.instanceMethod yX12_feed ∈ gT := gT_c6 (i := 112) (by decide +kernel) rfl
theorem wse_X12_X12_feed_X12_feed : Cond.selects RX12 yX12_feed yX12_feed ∈ gT := gT_c6 (i := 113) (by decide +kernel) rfl
theorem wcl_L_41 : Cond.constantLong RL 41 (4294967295) ∈ gT := gT_c8 (i := 52) (by decide +kernel) rfl
theorem wco_X11_deedOf : Cond.code yX11_deedOf cX11_deedOf 5 (some .int) ∈ gT := gT_c2 (i := 148) (by decide +kernel) rfl
theorem mf_X11_deedOf : gMf yX11_deedOf cX11_deedOf 5 (some .int) 3 := ⟨wco_X11_deedOf, win_X11, ⟨by decide +kernel, by decide +kernel⟩, by decide +kernel⟩
theorem wml_L_37 : Cond.methodLink RL 37 yX11_deedOf ∈ gT := gT_c2 (i := 145) (by decide +kernel) rfl
theorem wim_X11_deedOf : Cond.instanceMethod yX11_deedOf ∈ gT := gT_c2 (i := 146) (by decide +kernel) rfl
theorem wse_X11_X11_deedOf_X11_deedOf : Cond.selects RX11 yX11_deedOf yX11_deedOf ∈ gT := gT_c2 (i := 147) (by decide +kernel) rfl
theorem wco_X12_deedOf : Cond.code yX12_deedOf cX12_deedOf 4 (some .int) ∈ gT := gT_c6 (i := 83) (by decide +kernel) rfl
theorem mf_X12_deedOf : gMf yX12_deedOf cX12_deedOf 4 (some .int) 3 := ⟨wco_X12_deedOf, win_X12, ⟨by decide +kernel, by decide +kernel⟩, by decide +kernel⟩
theorem wml_L_40 : Cond.methodLink RL 40 yX12_deedOf ∈ gT := gT_c6 (i := 80) (by decide +kernel) rfl
theorem wim_X12_deedOf : Cond.instanceMethod yX12_deedOf ∈ gT := gT_c6 (i := 81) (by decide +kernel) rfl
theorem wse_X12_X12_deedOf_X12_deedOf : Cond.selects RX12 yX12_deedOf yX12_deedOf ∈ gT := gT_c6 (i := 82) (by decide +kernel) rfl
theorem wco_X11_deed : Cond.code yX11_deed cX11_deed 4 (some .int) ∈ gT := gT_c2 (i := 48) (by decide +kernel) rfl
theorem mf_X11_deed : gMf yX11_deed cX11_deed 4 (some .int) 3 := ⟨wco_X11_deed, win_X11, ⟨by decide +kernel, by decide +kernel⟩, by decide +kernel⟩
theorem wml_L_27 : Cond.methodLink RL 27 yX11_deed ∈ gT := gT_c2 (i := 45) (by decide +kernel) rfl
theorem wim_X11_deed : Cond.instanceMethod yX11_deed ∈ gT := gT_c2 (i := 46) (by decide +kernel) rfl
theorem wse_X11_X11_deed_X11_deed : Cond.selects RX11 yX11_deed yX11_deed ∈ gT := gT_c2 (i := 47) (by decide +kernel) rfl
theorem wco_X12_deed : Cond.code yX12_deed cX12_deed 5 (some .int) ∈ gT := gT_c6 (i := 71) (by decide +kernel) rfl
theorem mf_X12_deed : gMf yX12_deed cX12_deed 5 (some .int) 3 := ⟨wco_X12_deed, win_X12, ⟨by decide +kernel, by decide +kernel⟩, by decide +kernel⟩
theorem wml_L_31 : Cond.methodLink RL 31 yX12_deed ∈ gT := gT_c6 (i := 68) (by decide +kernel) rfl
theorem wim_X12_deed : Cond.instanceMethod yX12_deed ∈ gT := gT_c6 (i := 69) (by decide +kernel) rfl
theorem wse_X12_X12_deed_X12_deed : Cond.selects RX12 yX12_deed yX12_deed ∈ gT := gT_c6 (i := 70) (by decide +kernel) rfl
theorem wco_X11_age : Cond.code yX11_age cX11_age 3 (some .int) ∈ gT := gT_c2 (i := 33) (by decide +kernel) rfl
theorem mf_X11_age : gMf yX11_age cX11_age 3 (some .int) 2 := ⟨wco_X11_age, win_X11, ⟨by decide +kernel, by decide +kernel⟩, by decide +kernel⟩
theorem wml_L_23 : Cond.methodLink RL 23 yX11_age ∈ gT := gT_c2 (i := 30) (by decide +kernel) rfl
theorem wim_X11_age : Cond.instanceMethod yX11_age ∈ gT := gT_c2 (i := 31) (by decide +kernel) rfl
theorem wse_X11_X11_age_X11_age : Cond.selects RX11 yX11_age yX11_age ∈ gT := gT_c2 (i := 32) (by decide +kernel) rfl
theorem wco_X12_age : Cond.code yX12_age cX12_age 3 (some .int) ∈ gT := gT_c6 (i := 56) (by decide +kernel) rfl
theorem mf_X12_age : gMf yX12_age cX12_age 3 (some .int) 2 := ⟨wco_X12_age, win_X12, ⟨by decide +kernel, by decide +kernel⟩, by decide +kernel⟩
theorem wml_L_26 : Cond.methodLink RL 26 yX12_age ∈ gT := gT_c6 (i := 53) (by decide +kernel) rfl
theorem wim_X12_age : Cond.instanceMethod yX12_age ∈ gT := gT_c6 (i := 54) (by decide +kernel) rfl
theorem wse_X12_X12_age_X12_age : Cond.selects RX12 yX12_age yX12_age ∈ gT := gT_c6 (i := 55) (by decide +kernel) rfl
theorem wco_X11_person : Cond.code yX11_person cX11_person 3 (some .int) ∈ gT := gT_c2 (i := 25) (by decide +kernel) rfl
theorem mf_X11_person : gMf yX11_person cX11_person 3 (some .int) 2 := ⟨wco_X11_person, win_X11, ⟨by decide +kernel, by decide +kernel⟩, by decide +kernel⟩
theorem wml_L_18 : Cond.methodLink RL 18 yX11_person ∈ gT := gT_c2 (i := 22) (by decide +kernel) rfl
theorem wim_X11_person : Cond.instanceMethod yX11_person ∈ gT := gT_c2 (i := 23) (by decide +kernel) rfl
theorem wse_X11_X11_person_X11_person : Cond.selects RX11 yX11_person yX11_person ∈ gT := gT_c2 (i := 24) (by decide +kernel) rfl
theorem wco_X12_person : Cond.code yX12_person cX12_person 4 (some .int) ∈ gT := gT_c6 (i := 52) (by decide +kernel) rfl
theorem mf_X12_person : gMf yX12_person cX12_person 4 (some .int) 2 := ⟨wco_X12_person, win_X12, ⟨by decide +kernel, by decide +kernel⟩, by decide +kernel⟩
theorem wml_L_22 : Cond.methodLink RL 22 yX12_person ∈ gT := gT_c6 (i := 49) (by decide +kernel) rfl
theorem wim_X12_person : Cond.instanceMethod yX12_person ∈ gT := gT_c6 (i := 50) (by decide +kernel) rfl
theorem wse_X12_X12_person_X12_person : Cond.selects RX12 yX12_person yX12_person ∈ gT := gT_c6 (i := 51) (by decide +kernel) rfl
theorem wco_X11_days : Cond.code yX11_days cX11_days 2 (some .int) ∈ gT := gT_c2 (i := 21) (by decide +kernel) rfl
theorem mf_X11_days : gMf yX11_days cX11_days 2 (some .int) 1 := ⟨wco_X11_days, win_X11, ⟨by decide +kernel, by decide +kernel⟩, by decide +kernel⟩
theorem wml_L_13 : Cond.methodLink RL 13 yX11_days ∈ gT := gT_c2 (i := 18) (by decide +kernel) rfl
theorem wim_X11_days : Cond.instanceMethod yX11_days ∈ gT := gT_c2 (i := 19) (by decide +kernel) rfl
theorem wse_X11_X11_days_X11_days : Cond.selects RX11 yX11_days yX11_days ∈ gT := gT_c2 (i := 20) (by decide +kernel) rfl
theorem wco_X12_days : Cond.code yX12_days cX12_days 2 (some .int) ∈ gT := gT_c6 (i := 45) (by decide +kernel) rfl
theorem mf_X12_days : gMf yX12_days cX12_days 2 (some .int) 1 := ⟨wco_X12_days, win_X12, ⟨by decide +kernel, by decide +kernel⟩, by decide +kernel⟩
theorem wml_L_17 : Cond.methodLink RL 17 yX12_days ∈ gT := gT_c6 (i := 42) (by decide +kernel) rfl
theorem wim_X12_days : Cond.instanceMethod yX12_days ∈ gT := gT_c6 (i := 43) (by decide +kernel) rfl
theorem wse_X12_X12_days_X12_days : Cond.selects RX12 yX12_days yX12_days ∈ gT := gT_c6 (i := 44) (by decide +kernel) rfl
theorem wco_X11_init : Cond.code yX11_init cX11_init 1 none ∈ gT := gT_c1 (i := 26) (by decide +kernel) rfl
theorem mf_X11_init : gMf yX11_init cX11_init 1 none 0 := ⟨wco_X11_init, win_X11, ⟨by decide +kernel, by decide +kernel⟩, by decide +kernel⟩
theorem wml_L_9 : Cond.methodLink RL 9 yX11_init ∈ gT := gT_c1 (i := 24) (by decide +kernel) rfl
theorem wim_X11_init : Cond.instanceMethod yX11_init ∈ gT := gT_c1 (i := 25) (by decide +kernel) rfl
theorem wco_X12_init : Cond.code yX12_init cX12_init 1 none ∈ gT := gT_c5 (i := 143) (by decide +kernel) rfl
theorem mf_X12_init : gMf yX12_init cX12_init 1 none 0 := ⟨wco_X12_init, win_X12, ⟨by decide +kernel, by decide +kernel⟩, by decide +kernel⟩
theorem wml_L_12 : Cond.methodLink RL 12 yX12_init ∈ gT := gT_c5 (i := 141) (by decide +kernel) rfl
theorem wim_X12_init : Cond.instanceMethod yX12_init ∈ gT := gT_c5 (i := 142) (by decide +kernel) rfl
theorem wck_L_10 : Cond.classLink RL 10 RX12 ∈ gT := gT_c5 (i := 139) (by decide +kernel) rfl
theorem wis_X12 : Cond.instantiable RX12 45 ∈ gT := gT_c5 (i := 140) (by decide +kernel) rfl
theorem wck_L_7 : Cond.classLink RL 7 RX11 ∈ gT := gT_c1 (i := 22) (by decide +kernel) rfl
theorem wis_X11 : Cond.instantiable RX11 15 ∈ gT := gT_c1 (i := 23) (by decide +kernel) rfl

/-! ===== the text of the words; a row of rows (mnew: said here, proved later) ===== -/
/-- the sign at a place of the text of the words -/
def gChr (i : Int32) : gM Int32 := fun h => if ¬ (i < 0 ∨ 107 ≤ i.toNatClampNeg) then some (gWb.getD i.toNatClampNeg 0, h) else none
/-- n rows of k numbers, and the row of them -/
def gNewM (n k : Int32) : gM Nat := fun h => if ¬ n < 0 ∧ ¬ k < 0 ∧ n.toNatClampNeg ≤ 1000 ∧ k.toNatClampNeg ≤ 1000 then
  some (h.1.length, h.1 ++ (106, n.toNatClampNeg) :: List.replicate n.toNatClampNeg (100, k.toNatClampNeg), (fun q j => if h.1.length ≤ q then 0 else h.2.1 q j), fun q j => if q = h.1.length then (if j < n.toNatClampNeg then some (h.1.length + 1 + j) else none) else if h.1.length < q then none else h.2.2 q j) else none
/-! the JDK's words -/
theorem jco_len : Cond.code yJ0_length_8abf5 cJ0_length_8abf5 1 (some .int) ∈ gT := gT_c2 (i := 205) (by decide +kernel) rfl
theorem jin_len : Cond.initialized yJ0_length_8abf5.cls ∈ gT := gT_c1 (i := 12) (by decide +kernel) rfl
theorem jim_len : Cond.instanceMethod yJ0_length_8abf5 ∈ gT := gT_c2 (i := 203) (by decide +kernel) rfl
theorem jse_len : Cond.selects "java/lang/String" yJ0_length_8abf5 yJ0_length_8abf5 ∈ gT := gT_c2 (i := 204) (by decide +kernel) rfl
theorem jmf_len : gMf yJ0_length_8abf5 cJ0_length_8abf5 1 (some .int) 0 := ⟨jco_len, jin_len, ⟨by decide +kernel, by decide +kernel⟩, by decide +kernel⟩
theorem jco_chr : Cond.code yJ0_charAt_5068e cJ0_charAt_5068e 2 (some .char) ∈ gT := gT_c2 (i := 215) (by decide +kernel) rfl
theorem jin_chr : Cond.initialized yJ0_charAt_5068e.cls ∈ gT := gT_c1 (i := 12) (by decide +kernel) rfl
theorem jim_chr : Cond.instanceMethod yJ0_charAt_5068e ∈ gT := gT_c2 (i := 213) (by decide +kernel) rfl
theorem jse_chr : Cond.selects "java/lang/String" yJ0_charAt_5068e yJ0_charAt_5068e ∈ gT := gT_c2 (i := 214) (by decide +kernel) rfl
theorem jmf_chr : gMf yJ0_charAt_5068e cJ0_charAt_5068e 2 (some .char) 1 := ⟨jco_chr, jin_chr, ⟨by decide +kernel, by decide +kernel⟩, by decide +kernel⟩
theorem jco_cod : Cond.code yJ0_coder_7d493 cJ0_coder_7d493 1 (some .byte) ∈ gT := gT_c2 (i := 209) (by decide +kernel) rfl
theorem jin_cod : Cond.initialized yJ0_coder_7d493.cls ∈ gT := gT_c1 (i := 12) (by decide +kernel) rfl
theorem jim_cod : Cond.instanceMethod yJ0_coder_7d493 ∈ gT := gT_c2 (i := 207) (by decide +kernel) rfl
theorem jse_cod : Cond.selects "java/lang/String" yJ0_coder_7d493 yJ0_coder_7d493 ∈ gT := gT_c2 (i := 208) (by decide +kernel) rfl
theorem jmf_cod : gMf yJ0_coder_7d493 cJ0_coder_7d493 1 (some .byte) 0 := ⟨jco_cod, jin_cod, ⟨by decide +kernel, by decide +kernel⟩, by decide +kernel⟩
theorem jco_lat : Cond.code yJ0_isLatin1_aae02 cJ0_isLatin1_aae02 1 (some .boolean) ∈ gT := gT_c2 (i := 219) (by decide +kernel) rfl
theorem jin_lat : Cond.initialized yJ0_isLatin1_aae02.cls ∈ gT := gT_c1 (i := 12) (by decide +kernel) rfl
theorem jim_lat : Cond.instanceMethod yJ0_isLatin1_aae02 ∈ gT := gT_c2 (i := 217) (by decide +kernel) rfl
theorem jse_lat : Cond.selects "java/lang/String" yJ0_isLatin1_aae02 yJ0_isLatin1_aae02 ∈ gT := gT_c2 (i := 218) (by decide +kernel) rfl
theorem jmf_lat : gMf yJ0_isLatin1_aae02 cJ0_isLatin1_aae02 1 (some .boolean) 0 := ⟨jco_lat, jin_lat, ⟨by decide +kernel, by decide +kernel⟩, by decide +kernel⟩
theorem jco_chk : Cond.code yJ0_checkIndex_df160 cJ0_checkIndex_df160 2 none ∈ gT := gT_c2 (i := 225) (by decide +kernel) rfl
theorem jin_chk : Cond.initialized yJ0_checkIndex_df160.cls ∈ gT := gT_c1 (i := 12) (by decide +kernel) rfl
theorem jst_chk : Cond.static yJ0_checkIndex_df160 ∈ gT := gT_c2 (i := 224) (by decide +kernel) rfl
theorem jmf_chk : gMf yJ0_checkIndex_df160 cJ0_checkIndex_df160 2 none 2 := ⟨jco_chk, jin_chk, ⟨by decide +kernel, by decide +kernel⟩, by decide +kernel⟩
theorem jco_lch : Cond.code yJ1_charAt_3b067 cJ1_charAt_3b067 2 (some .char) ∈ gT := gT_c2 (i := 222) (by decide +kernel) rfl
theorem jin_lch : Cond.initialized yJ1_charAt_3b067.cls ∈ gT := gT_c1 (i := 13) (by decide +kernel) rfl
theorem jst_lch : Cond.static yJ1_charAt_3b067 ∈ gT := gT_c2 (i := 221) (by decide +kernel) rfl
theorem jmf_lch : gMf yJ1_charAt_3b067 cJ1_charAt_3b067 2 (some .char) 2 := ⟨jco_lch, jin_lch, ⟨by decide +kernel, by decide +kernel⟩, by decide +kernel⟩
theorem jco_pck : Cond.code yJ3_checkIndex_8e157 cJ3_checkIndex_8e157 3 (some .int) ∈ gT := gT_c2 (i := 230) (by decide +kernel) rfl
theorem jin_pck : Cond.initialized yJ3_checkIndex_8e157.cls ∈ gT := gT_c1 (i := 14) (by decide +kernel) rfl
theorem jst_pck : Cond.static yJ3_checkIndex_8e157 ∈ gT := gT_c2 (i := 229) (by decide +kernel) rfl
theorem jmf_pck : gMf yJ3_checkIndex_8e157 cJ3_checkIndex_8e157 3 (some .int) 3 := ⟨jco_pck, jin_pck, ⟨by decide +kernel, by decide +kernel⟩, by decide +kernel⟩
theorem jml_335 : Cond.methodLink "java/lang/String" 335 yJ0_coder_7d493 ∈ gT := gT_c2 (i := 206) (by decide +kernel) rfl
theorem jml_492 : Cond.methodLink "java/lang/String" 492 yJ0_isLatin1_aae02 ∈ gT := gT_c2 (i := 216) (by decide +kernel) rfl
theorem jml_495 : Cond.methodLink "java/lang/String" 495 yJ1_charAt_3b067 ∈ gT := gT_c2 (i := 220) (by decide +kernel) rfl
theorem jml_9 : Cond.methodLink "java/lang/StringLatin1" 9 yJ0_checkIndex_df160 ∈ gT := gT_c2 (i := 223) (by decide +kernel) rfl
theorem jml_1059 : Cond.methodLink "java/lang/String" 1059 yJ3_checkIndex_8e157 ∈ gT := gT_c2 (i := 228) (by decide +kernel) rfl
theorem jfl_9 : Cond.fieldLink "java/lang/String" 9 "java/lang/String" "value" "[B" ∈ gT := gT_c8 (i := 55) (by decide +kernel) rfl
theorem jfl_15 : Cond.fieldLink "java/lang/String" 15 "java/lang/String" "coder" "B" ∈ gT := gT_c8 (i := 56) (by decide +kernel) rfl
theorem jfl_38 : Cond.fieldLink "java/lang/String" 38 "java/lang/String" "COMPACT_STRINGS" "Z" ∈ gT := gT_c2 (i := 210) (by decide +kernel) rfl
theorem jfl_1053 : Cond.fieldLink "java/lang/String" 1053 "jdk/internal/util/Preconditions" "SIOOBE_FORMATTER" "Ljava/util/function/BiFunction;" ∈ gT := gT_c2 (i := 226) (by decide +kernel) rfl
section GSTR
variable {l : Launch} {D : va_G} {dA : Nat → ClassId} {b : Nat} {bs : gB} {Hb : Heap} {α β : Type} {Z : List Frame → Array Value → State → gH → α → gH → State → Prop}
variable {cc : ByteArray} {nL : Nat} {own nm : String} {ret : Option FieldType} {fr lo : Nat}
theorem gS.ldcS {pc : Nat} {L : List (Option Value)} {st : List Value} {f : gM α} (hd : decode cc pc = .ok (.ldc 78, 2))
    (k : gS l D dA b bs Hb cc nL "PenaltyGrid$LawReader" nm ret fr lo Z (pc + 2) L (.float 1 :: st) f) : gS l D dA b bs Hb cc nL "PenaltyGrid$LawReader" nm ret fr lo Z pc L st f :=
  gS.step (fun _ _ _ _ _ _ _ _ _ cx _ _ _ _ _ _ hh w => va_ldcS (tx := gWords) cx.1 cx.2.1 cx.2.2.2.1 cx.2.2.2.2.2.1.2.2.2.2.2.2.2.1 hd w) k
theorem gS.strF {pc : Nat} {L : List (Option Value)} {st : List Value} {f : gM α} {idx : Nat} {n d : String} {v : Value} (hF : ∀ s : State, gKn D dA b bs Hb s → va_OF "java/lang/String" n d (gtr b bs v) (bs.1 1) (fun q => b ≤ q) s Hb) (h1 : Cond.fieldLink own idx "java/lang/String" n d ∈ gT) (hd : decode cc pc = .ok (.getfield idx, 3))
    (k : gS l D dA b bs Hb cc nL own nm ret fr lo Z (pc + 3) L (v :: st) f) : gS l D dA b bs Hb cc nL own nm ret fr lo Z pc L (.float 1 :: st) f := fun h r h' hf => by
  obtain ⟨g1, g2⟩ := k h r h' hf
  refine ⟨g1, fun p e R s m args below meth c h0 cx a1 a2 a3 H locs ls hW hl hh => ?_⟩
  obtain ⟨cf, kf, fi, fd, cell, y1, y2, y3, y4, y5, y6⟩ := hF s cx.2.2.2.2.2.1
  have hlt : bs.1 1 < b := Nat.lt_of_not_le y6
  exact W.getf (a := bs.1 1) cx.1 cx.2.1 cx.2.2.2.1 (cx.2.2.2.2.1 _ h1) y1 y2 (by rw [hW.2.2.1 _ hlt]; exact y3) y4 y5 rfl rfl hd (g2 p e R s m args below meth c h0 cx a1 a2 a3 H locs ls hW hl hh)
theorem gStrV (s : State) (hK : gKn D dA b bs Hb s) : va_OF "java/lang/String" "value" "[B" (gtr b bs (.float 2)) (bs.1 1) (fun q => b ≤ q) s Hb := (hK.2.2.2.2.2.2.2.2.1.1 0 (by omega)).2.2.1
theorem gStrC (s : State) (hK : gKn D dA b bs Hb s) : va_OF "java/lang/String" "coder" "B" (gtr b bs (.int 0)) (bs.1 1) (fun q => b ≤ q) s Hb := (hK.2.2.2.2.2.2.2.2.1.1 0 (by omega)).2.1
theorem gStrT {s : State} {h : gH} {H : Heap} (hK : gKn D dA b bs Hb s) (hW : gW D dA b Hb h H) : ∃ cell : Cell, H[bs.1 2]? = some cell ∧ s.isArrayOf cell .byte ∧ cell.vm ≠ .unknown ∧ 107 ≤ cell.slots.size ∧ cell.slots.size.toInt32 = 107 ∧ ∀ j : Nat, j < 107 → cell.slots[j]? = some (.int (gWb.getD j 0)) := by
  obtain ⟨cell, y1, y2, y3, y4, y5, y6, y7⟩ := (hK.2.2.2.2.2.2.2.2.1.1 0 (by omega)).2.2.2
  exact ⟨cell, by rw [hW.2.2.1 _ (Nat.lt_of_not_le y7)]; exact y1, y2, y3, y4, y5, y6⟩
theorem gS.strL {pc : Nat} {L : List (Option Value)} {st : List Value} {f : gM α} (hd : decode cc pc = .ok (.arraylength, 1))
    (k : gS l D dA b bs Hb cc nL own nm ret fr lo Z (pc + 1) L (.int 107 :: st) f) : gS l D dA b bs Hb cc nL own nm ret fr lo Z pc L (.float 2 :: st) f := fun h r h' hf => by
  obtain ⟨g1, g2⟩ := k h r h' hf
  refine ⟨g1, fun p e R s m args below meth c h0 cx a1 a2 a3 H locs ls hW hl hh => ?_⟩
  obtain ⟨cell, y1, y2, y3, y4, y5, y6⟩ := gStrT cx.2.2.2.2.2.1 hW
  exact W.alen (a := bs.1 2) cx.1 cx.2.1 y1 y2 y5 rfl rfl hd (g2 p e R s m args below meth c h0 cx a1 a2 a3 H locs ls hW hl hh)
theorem gS.strB {pc : Nat} {L : List (Option Value)} {st : List Value} {f : Int32 → gM α} {i : Int32} (hd : decode cc pc = .ok (.baload, 1))
    (kk : ∀ v : Int32, gS l D dA b bs Hb cc nL own nm ret fr lo Z (pc + 1) L (.int v :: st) (f v)) : gS l D dA b bs Hb cc nL own nm ret fr lo Z pc L (.int i :: .float 2 :: st) (mb (gChr i) f) := fun h r h' hf => by
  obtain ⟨v, h1, hg, hf⟩ := mb_spec hf
  by_cases hin : ¬ (i < 0 ∨ 107 ≤ i.toNatClampNeg)
  · rw [gChr, if_pos hin] at hg
    cases hg
    obtain ⟨g1, g2⟩ := kk _ h r h' hf
    refine ⟨g1, fun p e R s m args below meth c h0 cx a1 a2 a3 H locs ls hW hl hh => ?_⟩
    obtain ⟨cell, y1, y2, y3, y4, y5, y6⟩ := gStrT cx.2.2.2.2.2.1 hW
    have hlt : i.toNatClampNeg < 107 := Nat.not_le.mp fun q => hin (Or.inr q)
    exact W.bald (a := bs.1 2) (v := .int (gWb.getD i.toNatClampNeg 0)) cx.1 cx.2.1 y1 y2 y3 (fun q => hin (q.elim Or.inl fun q => Or.inr (Nat.le_trans y4 q))) (y6 _ hlt) rfl rfl hd (g2 p e R s m args below meth c h0 cx a1 a2 a3 H locs ls hW hl hh)
  · rw [gChr, if_neg hin] at hg; cases hg
theorem gS.comp {pc idx : Nat} {L : List (Option Value)} {st : List Value} {f : gM α} (h1 : Cond.fieldLink own idx "java/lang/String" "COMPACT_STRINGS" "Z" ∈ gT) (hd : decode cc pc = .ok (.getstatic idx, 3))
    (k : gS l D dA b bs Hb cc nL own nm ret fr lo Z (pc + 3) L (.int 1 :: st) f) : gS l D dA b bs Hb cc nL own nm ret fr lo Z pc L st f := fun h r h' hf => by
  obtain ⟨g1, g2⟩ := k h r h' hf
  refine ⟨g1, fun p e R s m args below meth c h0 cx a1 a2 a3 H locs ls hW hl hh => ?_⟩
  obtain ⟨cf, kf, fi, fd, a, cell, y1, y2, y3, y4, y5, y6, y7, y8⟩ := cx.2.2.2.2.2.1.2.2.2.2.2.2.2.2.2.1
  exact W.gets cx.1 cx.2.1 cx.2.2.2.1 (cx.2.2.2.2.1 _ h1) y1 y2 y3 y4 (by rw [hW.2.2.1 _ (Nat.lt_of_not_le y8)]; exact y5) (fun e => by rw [e] at y6; cases y6) y7 rfl hd (g2 p e R s m args below meth c h0 cx a1 a2 a3 H locs ls hW hl hh)
theorem gS.nret {pc : Nat} {L : List (Option Value)} (v : Int32) {ty : FieldType} (hn : narrow ty (.int v) = .int v) (hd : decode cc pc = .ok (.ireturn, 1)) : gS l D dA b bs Hb cc nL own nm (some ty) fr lo (gZm D dA b bs Hb rI) pc L [.int v] (mp v) := fun h r h' hf => by
  cases hf
  exact ⟨gLe.rf _, fun p e R s m args below meth c h0 cx a1 a2 a3 H locs ls hW hl hh => W.zret cx.1 cx.2.1 cx.2.2.2.2.2.2.1 hn (fun t ht _ => ⟨rfl, by rw [ht]; exact hW⟩) hl hd cx.2.2.2.2.2.2.2.1⟩
theorem gS.i2c {pc : Nat} {L : List (Option Value)} {st : List Value} {f : gM α} (x v : Int32) (hd : decode cc pc = .ok (.i2c, 1)) (hv : (x.toUInt32 % 65536).toInt32 = v)
    (k : gS l D dA b bs Hb cc nL own nm ret fr lo Z (pc + 1) L (.int v :: st) f) : gS l D dA b bs Hb cc nL own nm ret fr lo Z pc L (.int x :: st) f := gS.step (fun _ _ _ _ _ _ _ _ _ cx _ _ _ _ _ _ hh w => lv_i2c cx.1 cx.2.1 hd hv w) k
/-- a call on the text -/
theorem gRun.VA {ρ' : β → Option Value} {y : MethodName} {bytes : ByteArray} {maxL fr' lo' idx pc : Nat} {ret' : Option FieldType} {g : gM β} {As st0 st : List Value} (hM : gMt l D dA b bs Hb y bytes maxL ret' fr' lo' ρ' (.float 1 :: As) g) (hf : gMf y bytes maxL ret' As.length) (h1 : Cond.methodLink own idx y ∈ gT) (h2 : Cond.instanceMethod y ∈ gT) (h3 : Cond.selects "java/lang/String" y y ∈ gT)
    (hd : decode cc pc = .ok (.invokevirtual idx, 3)) (hst : st0 = As.reverse ++ .float 1 :: st) (hl : st.length ≤ 4) (hfr : fr' + 1 ≤ fr) (hlo : 8 + (maxL + 11) + lo' ≤ lo) : gRun l D dA b bs Hb cc nL own nm ret fr lo pc st0 st ρ' (fun _ => True) g := fun h v h1' _ hg => by
  obtain ⟨m1, m2⟩ := hM h v h1' hg
  refine ⟨m1, fun p e R s m args below meth c cx H locs ls cells slots hW hls hc hs => ?_⟩
  obtain ⟨hx, hb, hml, hown, hts, hK, hr, hlk, hnm, hRf, hRl⟩ := cx
  subst hst
  obtain ⟨cell, y1, y2, y3, y4⟩ := (hK.2.2.2.2.2.2.2.2.1.1 0 (by omega)).1
  exact ⟨_, W.runV (Ts := gT) (C := "java/lang/String") (b := bs.1 1) (As := As.map (gtr b bs)) ⟨hx, hb, hml, hown, hts⟩ m2 ⟨callB_of (ws' := gT) _ hts (gT_in hf.1) rfl rfl rfl (hts _ hf.2.1) (hts _ h1) ⟨hf.2.2.1.1, hf.2.2.1.2, hf.2.2.2⟩ ⟨by show fr' + 1 ≤ _; omega, by show 8 + (maxL + 11) + lo' ≤ _; omega⟩, hts _ h2, hts _ h3⟩ ⟨gBlind, ⟨cell, by rw [hW.2.2.1 _ (Nat.lt_of_not_le y4)]; exact y1, y2, y3⟩, fun U hU hWm => ⟨by simp [gtr], by rw [hU]; exact hW, gKn.warm hWm hK⟩⟩ rfl (by simp) hls (by simp [gtr]) (lv_room (gCat hl)) hd ⟨hc, hs⟩⟩
theorem Mj_coder : gMt l D dA b bs Hb yJ0_coder_7d493 cJ0_coder_7d493 1 (some .byte) 0 0 rI [.float 1] (if (1 : Int32) = 0 then mf else mp 0) := by
  refine gMt.of (by decide +kernel) (L := [some (.float 1)]) rfl (Nat.le_of_ble_eq_true rfl) ?_
  exact gS.comp jfl_38 dJ0_coder_7d493_0 (gS.if_eq 1 13 dJ0_coder_7d493_3 (by decide) gS.fail (gS.aload_nf 0 1 dJ0_coder_7d493_6 rfl rfl (gS.strF gStrC jfl_15 dJ0_coder_7d493_7 (gS.goto 14 dJ0_coder_7d493_10 (by decide) (gS.nret 0 rfl dJ0_coder_7d493_14)))))
theorem Mj_isLatin1 : gMt l D dA b bs Hb yJ0_isLatin1_aae02 cJ0_isLatin1_aae02 1 (some .boolean) 0 0 rI [.float 1] (if (1 : Int32) = 0 then mf else if (0 : Int32) = 0 then mp 1 else mf) := by
  refine gMt.of (by decide +kernel) (L := [some (.float 1)]) rfl (Nat.le_of_ble_eq_true rfl) ?_
  exact gS.comp jfl_38 dJ0_isLatin1_aae02_0 (gS.if_eq 1 17 dJ0_isLatin1_aae02_3 (by decide) gS.fail (gS.aload_nf 0 1 dJ0_isLatin1_aae02_6 rfl rfl (gS.strF gStrC jfl_15 dJ0_isLatin1_aae02_7 (gS.if_ne 0 17 dJ0_isLatin1_aae02_10 (by decide) (gS.iconst 1 dJ0_isLatin1_aae02_13 (by decide) (gS.goto 18 dJ0_isLatin1_aae02_14 (by decide) (gS.nret 1 rfl dJ0_isLatin1_aae02_18))) gS.fail))))
theorem Mj_length : gMt l D dA b bs Hb yJ0_length_8abf5 cJ0_length_8abf5 1 (some .int) 1 20 rI [.float 1] (mb (if (1 : Int32) = 0 then mf else mp 0) fun x => mp ((107 : Int32) >>> (x &&& 31))) := by
  refine gMt.of (by decide +kernel) (L := [some (.float 1)]) rfl (Nat.le_of_ble_eq_true rfl) ?_
  exact gS.aload_nf 0 1 dJ0_length_8abf5_0 rfl rfl (gS.strF gStrV jfl_9 dJ0_length_8abf5_1 (gS.strL dJ0_length_8abf5_4 (gS.aload_nf 0 1 dJ0_length_8abf5_5 rfl rfl (gS.callI (gRun.VA Mj_coder jmf_cod jml_335 jim_cod jse_cod dJ0_length_8abf5_6 rfl (Nat.le_of_ble_eq_true rfl) (Nat.le_of_ble_eq_true rfl) (Nat.le_of_ble_eq_true rfl)) fun x => gS.ishr 107 x dJ0_length_8abf5_9 (gS.iret _ dJ0_length_8abf5_10)))))
theorem gS.strLen {pc idx : Nat} {L : List (Option Value)} {st : List Value} {f : gM α} (h1 : Cond.methodLink own idx ⟨"java/lang/String", "length", "()I"⟩ ∈ gT) (hd : decode cc pc = .ok (.invokevirtual idx, 3)) (hl : st.length ≤ 4) (hfr : 8 ≤ fr) (hlo : 300 ≤ lo)
    (k : gS l D dA b bs Hb cc nL own nm ret fr lo Z (pc + 3) L (.int 107 :: st) f) : gS l D dA b bs Hb cc nL own nm ret fr lo Z pc L (.float 1 :: st) f := by
  have hr := gRun.VA (l := l) (D := D) (dA := dA) (b := b) (bs := bs) (Hb := Hb) (cc := cc) (nL := nL) (own := own) (nm := nm) (ret := ret) (fr := fr) (lo := lo) (st0 := .float 1 :: st) (st := st) Mj_length jmf_len h1 jim_len jse_len hd rfl hl (by omega) (by omega)
  intro h r h' hf
  refine gS.callI (kf := fun v => if v = 107 then f else mf) hr (fun v => ?_) h r h' ?_
  · by_cases hv : v = 107
    · subst hv
      rw [if_pos rfl]; exact k
    · rw [if_neg hv]; exact gS.fail
  · have e : ((107 : Int32) >>> ((0 : Int32) &&& 31)) = 107 := by decide
    simp only [mb, mp, e, if_neg (show ¬ (1 : Int32) = 0 by decide), if_true]
    exact hf
theorem gS.form {pc idx : Nat} {L : List (Option Value)} {st : List Value} {f : gM α} (h1 : Cond.fieldLink own idx "jdk/internal/util/Preconditions" "SIOOBE_FORMATTER" "Ljava/util/function/BiFunction;" ∈ gT) (hd : decode cc pc = .ok (.getstatic idx, 3))
    (k0 : gS l D dA b bs Hb cc nL own nm ret fr lo Z (pc + 3) L (.null :: st) f) (k1 : gS l D dA b bs Hb cc nL own nm ret fr lo Z (pc + 3) L (.float 3 :: st) f) : gS l D dA b bs Hb cc nL own nm ret fr lo Z pc L st f := fun h r h' hf => by
  obtain ⟨g1, g2⟩ := k0 h r h' hf
  obtain ⟨_, g3⟩ := k1 h r h' hf
  refine ⟨g1, fun p e R s m args below meth c h0 cx a1 a2 a3 H locs ls hW hl hh => ?_⟩
  rcases cx.2.2.2.2.2.1.2.2.2.2.2.2.2.2.2.2.1 with hz | hz
  · obtain ⟨cf, kf, fi, fd, a, cell, y1, y2, y3, y4, y5, y6, y7, y8⟩ := hz
    exact W.gets cx.1 cx.2.1 cx.2.2.2.1 (cx.2.2.2.2.1 _ h1) y1 y2 y3 y4 (by rw [hW.2.2.1 _ (Nat.lt_of_not_le y8)]; exact y5) (fun e => by rw [e] at y6; cases y6) y7 rfl hd (g2 p e R s m args below meth c h0 cx a1 a2 a3 H locs ls hW hl hh)
  · obtain ⟨cf, kf, fi, fd, a, cell, y1, y2, y3, y4, y5, y6, y7, y8⟩ := hz
    exact W.gets cx.1 cx.2.1 cx.2.2.2.1 (cx.2.2.2.2.1 _ h1) y1 y2 y3 y4 (by rw [hW.2.2.1 _ (Nat.lt_of_not_le y8)]; exact y5) (fun e => by rw [e] at y6; cases y6) y7 rfl hd (g3 p e R s m args below meth c h0 cx a1 a2 a3 H locs ls hW hl hh)
theorem Mj_pck (i n : Int32) (w : Value) (hw : w = .null ∨ w = .float 3) : gMt l D dA b bs Hb yJ3_checkIndex_8e157 cJ3_checkIndex_8e157 3 (some .int) 0 0 rI [.int i, .int n, w] (if i < 0 then mf else if i < n then mp i else mf) := by
  have hc : w.category = 1 := by rcases hw with rfl | rfl <;> rfl
  have hL : gEn [.int i, .int n, w] 3 = [some (.int i), some (.int n), some w] := by rcases hw with rfl | rfl <;> rfl
  have hl : (lg_sl (([.int i, .int n, w] : List Value).map (gtr b bs))).length ≤ 3 := by rcases hw with rfl | rfl <;> exact Nat.le_of_ble_eq_true rfl
  refine gMt.of (by decide +kernel) hL hl ?_
  exact gS.iload_n 0 i dJ3_checkIndex_8e157_0 rfl rfl (gS.if_lt i 9 dJ3_checkIndex_8e157_1 (by decide) gS.fail (gS.iload_n 0 i dJ3_checkIndex_8e157_4 rfl rfl (gS.iload_n 1 n dJ3_checkIndex_8e157_5 rfl rfl (gS.icmp_lt i n 16 dJ3_checkIndex_8e157_6 (by decide) (gS.iload_n 0 i dJ3_checkIndex_8e157_16 rfl rfl (gS.iret i dJ3_checkIndex_8e157_17)) gS.fail))))
theorem Mj_chk (i n : Int32) : gMt l D dA b bs Hb yJ0_checkIndex_df160 cJ0_checkIndex_df160 2 none 1 22 rV [.int i, .int n] (mb (if i < 0 then mf else if i < n then mp i else mf) fun _ => mp ()) := by
  refine gMt.of (by decide +kernel) (L := [some (.int i), some (.int n)]) rfl (Nat.le_of_ble_eq_true rfl) ?_
  refine gS.iload_n 0 i dJ0_checkIndex_df160_0 rfl rfl (gS.iload_n 1 n dJ0_checkIndex_df160_1 rfl rfl (gS.form jfl_1053 dJ0_checkIndex_df160_2 ?_ ?_))
  · exact gS.callI (gRun.S (Mj_pck i n .null (Or.inl rfl)) jmf_pck jml_1059 jst_pck dJ0_checkIndex_df160_5 rfl (Nat.le_of_ble_eq_true rfl) (Nat.le_of_ble_eq_true rfl) (Nat.le_of_ble_eq_true rfl)) fun v => gS.pop (.int v) dJ0_checkIndex_df160_8 (fun _ _ => rfl) (gS.vret dJ0_checkIndex_df160_9)
  · exact gS.callI (gRun.S (Mj_pck i n (.float 3) (Or.inr rfl)) jmf_pck jml_1059 jst_pck dJ0_checkIndex_df160_5 rfl (Nat.le_of_ble_eq_true rfl) (Nat.le_of_ble_eq_true rfl) (Nat.le_of_ble_eq_true rfl)) fun v => gS.pop (.int v) dJ0_checkIndex_df160_8 (fun _ _ => rfl) (gS.vret dJ0_checkIndex_df160_9)
/-- the signs are small -/
def gIsC (v : Int32) : Bool := decide (((v &&& 255).toUInt32 % 65536).toInt32 = v) && decide (narrow .char (.int v) = .int v)
theorem gWb_c : ∀ v ∈ gWb, gIsC v = true := by decide +kernel
theorem gWb_len : gWb.length = 107 := by decide +kernel
theorem Mj_lch (i : Int32) : gMt l D dA b bs Hb yJ1_charAt_3b067 cJ1_charAt_3b067 2 (some .char) 2 60 rI [.float 2, .int i] (mb (mb (if i < 0 then mf else if i < 107 then mp i else mf) fun _ => mp ()) fun _ => mb (gChr i) fun v => if gIsC v = true then mp v else mf) := by
  refine gMt.of (by decide +kernel) (L := [some (.float 2), some (.int i)]) rfl (Nat.le_of_ble_eq_true rfl) ?_
  refine gS.iload_n 1 i dJ1_charAt_3b067_0 rfl rfl (gS.aload_nf 0 2 dJ1_charAt_3b067_1 rfl rfl (gS.strL dJ1_charAt_3b067_2 (gS.callV (gRun.S (Mj_chk i 107) jmf_chk jml_9 jst_chk dJ1_charAt_3b067_3 rfl (Nat.le_of_ble_eq_true rfl) (Nat.le_of_ble_eq_true rfl) (Nat.le_of_ble_eq_true rfl)) (gS.aload_nf 0 2 dJ1_charAt_3b067_6 rfl rfl (gS.iload_n 1 i dJ1_charAt_3b067_7 rfl rfl (gS.strB dJ1_charAt_3b067_8 fun v => gS.ite (fun hv => ?_) fun _ => gS.fail))))))
  have h2 := hv
  simp only [gIsC, Bool.and_eq_true, decide_eq_true_eq] at h2
  exact gS.sipush 255 dJ1_charAt_3b067_9 (by decide) (gS.iand v 255 dJ1_charAt_3b067_12 (gS.i2c _ v dJ1_charAt_3b067_13 h2.1 (gS.nret v h2.2 dJ1_charAt_3b067_14)))
theorem Mj_charAt (i : Int32) : gMt l D dA b bs Hb yJ0_charAt_5068e cJ0_charAt_5068e 2 (some .char) 3 100 rI [.float 1, .int i] (mb (if (1 : Int32) = 0 then mf else if (0 : Int32) = 0 then mp (1 : Int32) else mf) fun z => if z = 0 then mf else mb (mb (mb (if i < 0 then mf else if i < 107 then mp i else mf) fun _ => mp ()) fun _ => mb (gChr i) fun v => if gIsC v = true then mp v else mf) fun v => if gIsC v = true then mp v else mf) := by
  refine gMt.of (by decide +kernel) (L := [some (.float 1), some (.int i)]) rfl (Nat.le_of_ble_eq_true rfl) ?_
  refine gS.aload_nf 0 1 dJ0_charAt_5068e_0 rfl rfl (gS.callI (gRun.VA Mj_isLatin1 jmf_lat jml_492 jim_lat jse_lat dJ0_charAt_5068e_1 rfl (Nat.le_of_ble_eq_true rfl) (Nat.le_of_ble_eq_true rfl) (Nat.le_of_ble_eq_true rfl)) fun z => gS.if_eq z 16 dJ0_charAt_5068e_4 (by decide) gS.fail (gS.aload_nf 0 1 dJ0_charAt_5068e_7 rfl rfl (gS.strF gStrV jfl_9 dJ0_charAt_5068e_8 (gS.iload_n 1 i dJ0_charAt_5068e_11 rfl rfl (gS.callI (gRun.S (Mj_lch i) jmf_lch jml_495 jst_lch dJ0_charAt_5068e_12 rfl (Nat.le_of_ble_eq_true rfl) (Nat.le_of_ble_eq_true rfl) (Nat.le_of_ble_eq_true rfl)) fun v => gS.ite (fun hv => ?_) fun _ => gS.fail)))))
  have h2 := hv
  simp only [gIsC, Bool.and_eq_true, decide_eq_true_eq] at h2
  exact gS.nret v h2.2 dJ0_charAt_5068e_15
theorem gS.strAt {pc idx : Nat} {L : List (Option Value)} {st : List Value} {f : Int32 → gM α} {i : Int32} (h1 : Cond.methodLink own idx ⟨"java/lang/String", "charAt", "(I)C"⟩ ∈ gT) (hd : decode cc pc = .ok (.invokevirtual idx, 3)) (hl : st.length ≤ 4) (hfr : 8 ≤ fr) (hlo : 300 ≤ lo)
    (k : ∀ v : Int32, gS l D dA b bs Hb cc nL own nm ret fr lo Z (pc + 3) L (.int v :: st) (f v)) : gS l D dA b bs Hb cc nL own nm ret fr lo Z pc L (.int i :: .float 1 :: st) (mb (gChr i) f) := by
  have hr := gRun.VA (l := l) (D := D) (dA := dA) (b := b) (bs := bs) (Hb := Hb) (cc := cc) (nL := nL) (own := own) (nm := nm) (ret := ret) (fr := fr) (lo := lo) (st0 := .int i :: .float 1 :: st) (st := st) (Mj_charAt i) jmf_chr h1 jim_chr jse_chr hd rfl hl (by omega) (by omega)
  intro h r h' hf
  refine gS.callI (kf := f) hr k h r h' ?_
  obtain ⟨v, h2, hg, hf⟩ := mb_spec hf
  by_cases hin : ¬ (i < 0 ∨ 107 ≤ i.toNatClampNeg)
  · have hg0 := hg
    rw [gChr, if_pos hin] at hg
    cases hg
    have hlt : i.toNatClampNeg < 107 := Nat.not_le.mp fun q => hin (Or.inr q)
    have h0 : ¬ i < 0 := fun q => hin (Or.inl q)
    have hn : i < 107 := by
      rw [Int32.lt_iff_toInt_lt]
      have h3 : (0 : Int) ≤ i.toInt := by
        have := Int32.not_lt.mp h0
        simpa using Int32.le_iff_toInt_le.mp this
      have h4 : (i.toInt.toNat) < 107 := hlt
      have h5 : (107 : Int32).toInt = 107 := by decide
      omega
    have hv : gIsC (gWb.getD i.toNatClampNeg 0) = true := by
      refine gWb_c _ ?_
      have hb : i.toNatClampNeg < gWb.length := by rw [gWb_len]; exact hlt
      rw [List.getD_eq_getElem?_getD, List.getElem?_eq_getElem hb]
      exact List.getElem_mem hb
    simp only [mb, mp, gChr, if_pos hin, if_neg h0, if_pos hn, if_neg (show ¬ (1 : Int32) = 0 by decide), if_true, hv]
    exact hf
  · rw [gChr, if_neg hin] at hg; cases hg
/-- what the row of a row of rows says (proved in a part of its own) -/
def gMnew : Prop := ∀ {α : Type} {l : Launch} {D : va_G} {dA : Nat → ClassId} {b : Nat} {bs : gB} {Hb : Heap} {Z : List Frame → Array Value → State → gH → α → gH → State → Prop} {cc : ByteArray} {nL : Nat} {own nm : String} {ret : Option FieldType} {fr lo : Nat} {pc idx : Nat} {L : List (Option Value)} {st : List Value} {f : Nat → gM α} {n k : Int32} (_ : Cond.classLink own idx "[[I" ∈ gT) (_ : Cond.arrayClass .int ∈ gT) (_ : decode cc pc = .ok (.multianewarray idx 2, 4))
    (_ : ∀ v : Nat, gS l D dA b bs Hb cc nL own nm ret fr lo Z (pc + 4) L (.ref v :: st) (f v)), gS l D dA b bs Hb cc nL own nm ret fr lo Z pc L (.int k :: .int n :: st) (mb (gNewM n k) f)
theorem gS.mnew (HM : gMnew) {pc idx : Nat} {L : List (Option Value)} {st : List Value} {f : Nat → gM α} {n k : Int32} (h1 : Cond.classLink own idx "[[I" ∈ gT) (h2 : Cond.arrayClass .int ∈ gT) (hd : decode cc pc = .ok (.multianewarray idx 2, 4))
    (kk : ∀ v : Nat, gS l D dA b bs Hb cc nL own nm ret fr lo Z (pc + 4) L (.ref v :: st) (f v)) : gS l D dA b bs Hb cc nL own nm ret fr lo Z pc L (.int k :: .int n :: st) (mb (gNewM n k) f) := HM h1 h2 hd kk
end GSTR

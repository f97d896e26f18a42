/-! ===== the text of the words; a row of rows (OPEN: three rows with sorry) ===== -/
/-- the sign at a place of the text of the words -/
def gChr (i : Int32) : gM Int32 := fun h => if ¬ (i < 0 ∨ 107 ≤ i.toNatClampNeg) then some (gWb.getD i.toNatClampNeg 0, h) else none
/-- n rows of k numbers, and the row of them -/
def gNewM (n k : Int32) : gM Nat := fun h => if ¬ n < 0 ∧ ¬ k < 0 ∧ n.toNatClampNeg ≤ 1000 ∧ k.toNatClampNeg ≤ 1000 then
  some (h.1.length, h.1 ++ (106, n.toNatClampNeg) :: List.replicate n.toNatClampNeg (100, k.toNatClampNeg), (fun q j => if h.1.length ≤ q then 0 else h.2.1 q j), fun q j => if q = h.1.length then (if j < n.toNatClampNeg then some (h.1.length + 1 + j) else none) else if h.1.length < q then none else h.2.2 q j) else none
section GSTR
variable {l : Launch} {D : va_G} {dA : Nat → ClassId} {b : Nat} {bs : gB} {Hb : Heap} {α β : Type} {Z : List Frame → Array Value → State → gH → α → gH → State → Prop}
variable {cc : ByteArray} {nL : Nat} {own nm : String} {ret : Option FieldType} {fr lo : Nat}
theorem gS.ldcS {pc : Nat} {L : List (Option Value)} {st : List Value} {f : gM α} (hd : decode cc pc = .ok (.ldc 78, 2))
    (k : gS l D dA b bs Hb cc nL "PenaltyGrid$LawReader" nm ret fr lo Z (pc + 2) L (.float 1 :: st) f) : gS l D dA b bs Hb cc nL "PenaltyGrid$LawReader" nm ret fr lo Z pc L st f :=
  gS.step (fun _ _ _ _ _ _ _ _ _ cx _ _ _ _ _ _ hh w => va_ldcS (tx := gWords) cx.1 cx.2.1 cx.2.2.2.1 cx.2.2.2.2.2.1.2.2.2.2.2.2.2.1 hd w) k
theorem gS.strLen {pc idx : Nat} {L : List (Option Value)} {st : List Value} {f : gM α} (h1 : Cond.methodLink own idx ⟨"java/lang/String", "length", "()I"⟩ ∈ gT) (hd : decode cc pc = .ok (.invokevirtual idx, 3)) (hl : st.length ≤ 4) (hfr : 8 ≤ fr) (hlo : 300 ≤ lo)
    (k : gS l D dA b bs Hb cc nL own nm ret fr lo Z (pc + 3) L (.int 107 :: st) f) : gS l D dA b bs Hb cc nL own nm ret fr lo Z pc L (.float 1 :: st) f := sorry
theorem gS.strAt {pc idx : Nat} {L : List (Option Value)} {st : List Value} {f : Int32 → gM α} {i : Int32} (h1 : Cond.methodLink own idx ⟨"java/lang/String", "charAt", "(I)C"⟩ ∈ gT) (hd : decode cc pc = .ok (.invokevirtual idx, 3)) (hl : st.length ≤ 4) (hfr : 8 ≤ fr) (hlo : 300 ≤ lo)
    (k : ∀ v : Int32, gS l D dA b bs Hb cc nL own nm ret fr lo Z (pc + 3) L (.int v :: st) (f v)) : gS l D dA b bs Hb cc nL own nm ret fr lo Z pc L (.int i :: .float 1 :: st) (mb (gChr i) f) := sorry
theorem gS.mnew {pc idx : Nat} {L : List (Option Value)} {st : List Value} {f : Nat → gM α} {n k : Int32} (h1 : Cond.classLink own idx "[[I" ∈ gT) (h2 : Cond.arrayClass .int ∈ gT) (hd : decode cc pc = .ok (.multianewarray idx 2, 4))
    (kk : ∀ v : Nat, gS l D dA b bs Hb cc nL own nm ret fr lo Z (pc + 4) L (.ref v :: st) (f v)) : gS l D dA b bs Hb cc nL own nm ret fr lo Z pc L (.int k :: .int n :: st) (mb (gNewM n k) f) := sorry
end GSTR

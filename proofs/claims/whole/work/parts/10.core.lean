/-! ===== CORE: the heap as a value, methods as functions on it ===== -/
/-- shapes (kind, length), numbers, places -/
abbrev gH : Type := List (Nat × Nat) × (Nat → Nat → Int32) × (Nat → Nat → Option Nat)
abbrev gM (α : Type) : Type := gH → Option (α × gH)
def mp {α : Type} (a : α) : gM α := fun h => some (a, h)
def mf {α : Type} : gM α := fun _ => none
def mb {α β : Type} (x : gM α) (f : α → gM β) : gM β := fun h => match x h with
  | none => none
  | some q => f q.1 q.2
/-- only where the cell a is of one of these kinds -/
def mv {α : Type} (ts : List Nat) (a : Nat) (f : gM α) : gM α := fun h => match h.1[a]? with
  | none => none
  | some q => if ts.contains q.1 then f h else none
/-- a place that may be nothing -/
def mq {α : Type} (r : Option Nat) (f : Nat → gM α) : gM α := fun h => match r with
  | none => none
  | some a => f a h
def u2 {α : Type} (f : Nat → Nat → α) (a k : Nat) (x : α) : Nat → Nat → α := fun q j => if q = a ∧ j = k then x else f q j
def gGetI (ts : List Nat) (a k : Nat) : gM Int32 := mv ts a fun h => some (h.2.1 a k, h)
def gPutI (ts : List Nat) (a k : Nat) (v : Int32) : gM Unit := mv ts a fun h => some ((), h.1, u2 h.2.1 a k v, h.2.2)
def gGetR (ts : List Nat) (a k : Nat) : gM Nat := mv ts a fun h => match h.2.2 a k with
  | none => none
  | some x => some (x, h)
def gPutR (ts : List Nat) (a k : Nat) (v : Option Nat) : gM Unit := mv ts a fun h => some ((), h.1, h.2.1, u2 h.2.2 a k v)
/-- only where i is an index of the row a, which is of the kind t -/
def mi {α : Type} (t a : Nat) (i : Int32) (f : gM α) : gM α := fun h => match h.1[a]? with
  | none => none
  | some q => if q.1 = t ∧ ¬ (i < 0 ∨ q.2 ≤ i.toNatClampNeg) then f h else none
def gLdI (t a : Nat) (i : Int32) : gM Int32 := mi t a i fun h => some (h.2.1 a i.toNatClampNeg, h)
def gStI (t a : Nat) (i v : Int32) : gM Unit := mi t a i fun h => some ((), h.1, u2 h.2.1 a i.toNatClampNeg v, h.2.2)
def gLdR (t a : Nat) (i : Int32) : gM Nat := mi t a i fun h => match h.2.2 a i.toNatClampNeg with
  | none => none
  | some x => some (x, h)
def gStR (t a : Nat) (i : Int32) (v : Nat) : gM Unit := mi t a i fun h => some ((), h.1, h.2.1, u2 h.2.2 a i.toNatClampNeg (some v))
def gLen (a : Nat) : gM Int32 := fun h => match h.1[a]? with
  | none => none
  | some q => if 100 ≤ q.1 then some (Int32.ofNat q.2, h) else none
def gKind (a : Nat) : gM Nat := fun h => match h.1[a]? with
  | none => none
  | some q => some (q.1, h)
/-- a new cell, all 0, all nothing -/
def gNew (t n : Nat) : gM Nat := fun h => some (h.1.length, h.1 ++ [(t, n)], (fun q j => if q = h.1.length then 0 else h.2.1 q j), fun q j => if q = h.1.length then none else h.2.2 q j)
def gNewA (t : Nat) (n : Int32) : gM Nat := fun h => if ¬ n < 0 ∧ n.toNatClampNeg ≤ 100000 then gNew t n.toNatClampNeg h else none
def gSw {α : Type} (x : Int32) : List (Int32 × gM α) → gM α → gM α
  | [], d => d
  | q :: r, d => if x = q.1 then q.2 else gSw x r d
def gc (h : gH) : Nat := h.1.length
def gs (h : gH) : Nat := (h.1.map fun q => q.2).sum
def gLe (h h' : gH) : Prop := gc h ≤ gc h' ∧ gs h ≤ gs h'
theorem gLe.rf (h : gH) : gLe h h := ⟨Nat.le_refl _, Nat.le_refl _⟩
theorem gLe.tr {a b c : gH} (h : gLe a b) (k : gLe b c) : gLe a c := ⟨Nat.le_trans h.1 k.1, Nat.le_trans h.2 k.2⟩
/-! the heap of the machine: cells from b on -/
def gIsR : FieldType → Bool
  | .object _ => true
  | .array _ => true
  | _ => false
def gFt : Nat → Nat → FieldType
  | 0 => tyX0
  | 1 => tyX1
  | 2 => tyX2
  | 3 => tyX3
  | 4 => tyX4
  | 5 => tyX5
  | 6 => tyX7
  | 7 => tyX8
  | 8 => tyX9
  | 9 => tyX10
  | 10 => tyX11
  | _ => tyX12
def gAd (b : Nat) (r : Option Nat) : Option Nat := r.map fun x => b + x
def gV (b : Nat) (ty : Nat → FieldType) (iv : Nat → Int32) (rv : Nat → Option Nat) (k : Nat) : Value := if gIsR (ty k) then va_rf (gAd b (rv k)) else .int (iv k)
def gCell (D : va_G) (dA : Nat → ClassId) (b : Nat) (iv : Nat → Int32) (rv : Nat → Option Nat) (a t n : Nat) (H : Heap) : Prop :=
  if t < 100 then ∃ r : vw_C, vwCl[t]? = some r ∧ t_OB (b + a) (D.1 t) r.2.2 (D.2 t) H (gV b (gFt t) iv rv)
  else if t < 102 then H[b + a]? = some (arrV (dA t) n (fun j => .int (iv j)))
  else H[b + a]? = some (arrV (dA t) n (fun j => va_rf (gAd b (rv j))))
def gW (D : va_G) (dA : Nat → ClassId) (b : Nat) (Hb : Heap) (h : gH) (H : Heap) : Prop :=
  H.size = b + h.1.length ∧ b = Hb.size ∧ (∀ q : Nat, q < b → H[q]? = Hb[q]?) ∧ ∀ a t n : Nat, h.1[a]? = some (t, n) → gCell D dA b (h.2.1 a) (h.2.2 a) a t n H
theorem gCell.kept {D : va_G} {dA : Nat → ClassId} {b : Nat} {iv : Nat → Int32} {rv : Nat → Option Nat} {a t n : Nat} {H H1 : Heap} (h : gCell D dA b iv rv a t n H) (hq : H1[b + a]? = H[b + a]?) : gCell D dA b iv rv a t n H1 := by
  unfold gCell at h ⊢
  split
  · rename_i h1
    rw [if_pos h1] at h
    obtain ⟨r, h2, h3⟩ := h
    exact ⟨r, h2, h3.kept hq⟩
  · rename_i h1
    rw [if_neg h1] at h
    split
    · rename_i h2
      rw [if_pos h2] at h
      rw [hq]; exact h
    · rename_i h2
      rw [if_neg h2] at h
      rw [hq]; exact h
/-- an old cell is changed -/
theorem gW.set {D : va_G} {dA : Nat → ClassId} {b : Nat} {Hb : Heap} {h : gH} {H H1 : Heap} (hW : gW D dA b Hb h H) {a t n : Nat} (ha : h.1[a]? = some (t, n)) {iv' : Nat → Nat → Int32} {rv' : Nat → Nat → Option Nat} (hi : ∀ q, q ≠ a → iv' q = h.2.1 q) (hr : ∀ q, q ≠ a → rv' q = h.2.2 q) (hz : H1.size = H.size) (hq : ∀ q : Nat, q ≠ b + a → H1[q]? = H[q]?) (hc : gCell D dA b (iv' a) (rv' a) a t n H1) : gW D dA b Hb (h.1, iv', rv') H1 := by
  obtain ⟨h1, h2, h3, h4⟩ := hW
  refine ⟨by rw [hz]; exact h1, h2, fun q hl => by rw [hq q (by omega)]; exact h3 q hl, fun a' t' n' he => ?_⟩
  by_cases e : a' = a
  · subst e
    have e2 : (t, n) = (t', n') := Option.some.inj (ha.symm.trans he)
    cases e2
    exact hc
  · show gCell D dA b (iv' a') (rv' a') a' t' n' H1
    rw [hi a' e, hr a' e]
    exact (h4 a' t' n' he).kept (hq _ (by omega))
/-- a cell is made -/
theorem gW.pushG {D : va_G} {dA : Nat → ClassId} {b : Nat} {Hb : Heap} {h : gH} {H H1 : Heap} {iv0 : Nat → Int32} {rv0 : Nat → Option Nat} (hW : gW D dA b Hb h H) {t n : Nat} (hz : H1.size = H.size + 1) (hq : ∀ q : Nat, q < H.size → H1[q]? = H[q]?) (hc : gCell D dA b iv0 rv0 h.1.length t n H1) :
    gW D dA b Hb (h.1 ++ [(t, n)], (fun q j => if q = h.1.length then iv0 j else h.2.1 q j), fun q j => if q = h.1.length then rv0 j else h.2.2 q j) H1 := by
  obtain ⟨h1, h2, h3, h4⟩ := hW
  refine ⟨by rw [hz, h1]; simp; omega, h2, fun q hl => by rw [hq q (by omega)]; exact h3 q hl, fun a t' n' he => ?_⟩
  have he : (h.1 ++ [(t, n)])[a]? = some (t', n') := he
  by_cases hl : a < h.1.length
  · rw [List.getElem?_append_left hl] at he
    have hne : a ≠ h.1.length := Nat.ne_of_lt hl
    show gCell D dA b (fun j => if a = h.1.length then iv0 j else h.2.1 a j) (fun j => if a = h.1.length then rv0 j else h.2.2 a j) a t' n' H1
    simp only [if_neg hne]
    exact (h4 a t' n' he).kept (hq _ (by omega))
  · rw [List.getElem?_append_right (by omega)] at he
    have hz : a - h.1.length < 1 := (List.getElem?_eq_some_iff.mp he).1
    have ea : a = h.1.length := by omega
    subst ea
    rw [Nat.sub_self] at he
    cases he
    show gCell D dA b (fun j => if h.1.length = h.1.length then iv0 j else h.2.1 h.1.length j) (fun j => if h.1.length = h.1.length then rv0 j else h.2.2 h.1.length j) h.1.length t n H1
    simp only [if_true]
    exact hc
theorem gW.push {D : va_G} {dA : Nat → ClassId} {b : Nat} {Hb : Heap} {h : gH} {H H1 : Heap} (hW : gW D dA b Hb h H) {t n : Nat} (hz : H1.size = H.size + 1) (hq : ∀ q : Nat, q < H.size → H1[q]? = H[q]?) (hc : gCell D dA b (fun _ => 0) (fun _ => none) h.1.length t n H1) :
    gW D dA b Hb (h.1 ++ [(t, n)], (fun q j => if q = h.1.length then 0 else h.2.1 q j), fun q j => if q = h.1.length then none else h.2.2 q j) H1 := hW.pushG hz hq hc
/-! values: places are counted from b; .float k is a place of before: 0 the script, 1 the text of the words, 2 its bytes, 3 what a static of the JDK holds -/
/-- the places of before; how many ints the script has, and which -/
abbrev gB : Type := (Nat → Nat) × Nat × (Nat → Int32)
def gtr (b : Nat) (bs : gB) : Value → Value
  | .ref a => .ref (b + a)
  | .float x => .ref (bs.1 x.toNat)
  | v => v
theorem gtr_rf (b : Nat) (bs : gB) (r : Option Nat) : gtr b bs (va_rf r) = va_rf (gAd b r) := by
  cases r <;> rfl
/-- the locals -/
def gHas (b : Nat) (bs : gB) (ls : Array Slot) (nL : Nat) (L : List (Option Value)) : Prop := ls.size = nL ∧ lv_wf ls ∧ ∀ (i : Nat) (v : Value), L[i]? = some (some v) → ls[i]? = some (.val (gtr b bs v))
/-- fewer known -/
def gSub : List (Option Value) → List (Option Value) → Prop
  | [], _ => True
  | none :: r, _ :: q => gSub r q
  | none :: r, [] => gSub r []
  | some v :: r, x :: q => x = some v ∧ gSub r q
  | some _ :: _, [] => False
theorem gSub_at : ∀ (L' L : List (Option Value)), gSub L' L → ∀ (i : Nat) (v : Value), L'[i]? = some (some v) → L[i]? = some (some v)
  | [], _, _, i, v, h => by simp at h
  | none :: r, x :: q, hs, 0, v, h => by simp at h
  | none :: r, x :: q, hs, i + 1, v, h => by
    have := gSub_at r q hs i v (by simpa using h)
    simpa using this
  | none :: r, [], hs, 0, v, h => by simp at h
  | none :: r, [], hs, i + 1, v, h => by
    have := gSub_at r [] hs i v (by simpa using h)
    simp at this
  | some w :: r, x :: q, hs, 0, v, h => by
    have e : w = v := by simpa using h
    subst e
    rw [hs.1]; rfl
  | some w :: r, x :: q, hs, i + 1, v, h => by
    have := gSub_at r q hs.2 i v (by simpa using h)
    simpa using this
  | some w :: r, [], hs, _, _, _ => hs.elim
theorem gsE {q : List (Option Value)} : gSub [] q := by unfold gSub; trivial
theorem gsN {r q : List (Option Value)} {x : Option Value} (h : gSub r q) : gSub (none :: r) (x :: q) := h
theorem gsS {r q : List (Option Value)} {v : Value} (h : gSub r q) : gSub (some v :: r) (some v :: q) := ⟨rfl, h⟩
theorem gHas.sub {b : Nat} {bs : gB} {ls : Array Slot} {nL : Nat} {L L' : List (Option Value)} (h : gHas b bs ls nL L) (hs : gSub L' L) : gHas b bs ls nL L' := ⟨h.1, h.2.1, fun i v hi => h.2.2 i v (gSub_at L' L hs i v hi)⟩
/-- the slot ahead holds no long -/
def gOk (L : List (Option Value)) (i : Nat) : Bool := match i with
  | 0 => true
  | i + 1 => match L[i]? with
    | some (some (.long _)) => false
    | some (some (.double _)) => false
    | _ => true
theorem gOk_cat {L : List (Option Value)} {j : Nat} {v : Value} (h : gOk L (j + 1) = true) (hv : L[j]? = some (some v)) (b : Nat) (bs : gB) : (gtr b bs v).category = 1 := by
  cases v with
  | long x => simp [gOk, hv] at h
  | double x => simp [gOk, hv] at h
  | _ => rfl
def gl (b : Nat) (bs : gB) (L : List (Option Value)) : List (Nat × Value) := (List.range L.length).filterMap fun j => match L[j]? with
  | some (some v) => some (j, gtr b bs v)
  | _ => none
theorem gl_in {b : Nat} {bs : gB} {L : List (Option Value)} {q : Nat × Value} (h : q ∈ gl b bs L) : ∃ v, L[q.1]? = some (some v) ∧ q.2 = gtr b bs v := by
  obtain ⟨j, -, hj⟩ := List.mem_filterMap.mp h
  split at hj
  · rename_i v hv
    cases hj
    exact ⟨v, hv, rfl⟩
  · cases hj
theorem gl_of {b : Nat} {bs : gB} {L : List (Option Value)} {j : Nat} {v : Value} (h : L[j]? = some (some v)) : (j, gtr b bs v) ∈ gl b bs L := by
  refine List.mem_filterMap.mpr ⟨j, List.mem_range.mpr (List.getElem?_eq_some_iff.mp h).1, ?_⟩
  rw [h]
theorem gHas.lv {b : Nat} {bs : gB} {ls : Array Slot} {nL : Nat} {L : List (Option Value)} (h : gHas b bs ls nL L) : lv_has ls nL (gl b bs L) := ⟨h.1, h.2.1, fun q hq => by
  obtain ⟨v, h1, h2⟩ := gl_in hq
  rw [h2]
  exact h.2.2 _ _ h1⟩
theorem gHas.set {b : Nat} {bs : gB} {ls' : Array Slot} {nL : Nat} {L : List (Option Value)} {i : Nat} {v : Value} (hok : gOk L i = true)
    (h : lv_has ls' nL ((i, gtr b bs v) :: (gl b bs L).filter (fun q => !(q.1 == i) && !(q.1 + 1 == i && q.2.category == 2)))) : gHas b bs ls' nL (L.set i (some v)) := by
  refine ⟨h.1, h.2.1, fun j w hj => ?_⟩
  by_cases e : i = j
  · subst e
    have hl : i < L.length := by
      have := (List.getElem?_eq_some_iff.mp hj).1
      simpa using this
    rw [List.getElem?_set_self hl] at hj
    cases hj
    exact h.2.2 (i, gtr b bs v) List.mem_cons_self
  · rw [List.getElem?_set_ne e] at hj
    refine h.2.2 (j, gtr b bs w) (List.mem_cons_of_mem _ (List.mem_filter.mpr ⟨gl_of hj, ?_⟩))
    have e1 : (j == i) = false := by simpa using fun q => e q.symm
    by_cases e2 : j + 1 = i
    · subst e2
      have hc := gOk_cat hok hj b bs
      simp [hc]
    · simp [e1, e2]
/-! the words that all methods stand on -/
def gT : List Cond := lw_tbl.filter goodWord
theorem gT_of {w : Cond} (h : w ∈ lw_tbl) (hg : goodWord w = true) : w ∈ gT := List.mem_filter.mpr ⟨h, hg⟩
theorem gT_tb {w : Cond} {i : Nat} (h : tables_1[i]? = some w) (hg : goodWord w = true) : w ∈ gT := gT_of (List.mem_append_right _ (List.mem_of_getElem? h)) hg
theorem gT_c {w : Cond} (h : w ∈ tables_1) (hg : goodWord w = true) : w ∈ gT := gT_of (List.mem_append_right _ h) hg
theorem gT_c1 {w : Cond} {i : Nat} (h : tables_1_1[i]? = some w) (hg : goodWord w = true) : w ∈ gT := gT_c (List.mem_append_left _ (List.mem_of_getElem? h)) hg
theorem gT_c2 {w : Cond} {i : Nat} (h : tables_1_2[i]? = some w) (hg : goodWord w = true) : w ∈ gT := gT_c (List.mem_append_right _ (List.mem_append_left _ (List.mem_of_getElem? h))) hg
theorem gT_c3 {w : Cond} {i : Nat} (h : tables_1_3[i]? = some w) (hg : goodWord w = true) : w ∈ gT := gT_c (List.mem_append_right _ (List.mem_append_right _ (List.mem_append_left _ (List.mem_of_getElem? h)))) hg
theorem gT_c4 {w : Cond} {i : Nat} (h : tables_1_4[i]? = some w) (hg : goodWord w = true) : w ∈ gT := gT_c (List.mem_append_right _ (List.mem_append_right _ (List.mem_append_right _ (List.mem_append_left _ (List.mem_of_getElem? h))))) hg
theorem gT_c5 {w : Cond} {i : Nat} (h : tables_1_5[i]? = some w) (hg : goodWord w = true) : w ∈ gT := gT_c (List.mem_append_right _ (List.mem_append_right _ (List.mem_append_right _ (List.mem_append_right _ (List.mem_append_left _ (List.mem_of_getElem? h)))))) hg
theorem gT_c6 {w : Cond} {i : Nat} (h : tables_1_6[i]? = some w) (hg : goodWord w = true) : w ∈ gT := gT_c (List.mem_append_right _ (List.mem_append_right _ (List.mem_append_right _ (List.mem_append_right _ (List.mem_append_right _ (List.mem_append_left _ (List.mem_of_getElem? h))))))) hg
theorem gT_c7 {w : Cond} {i : Nat} (h : tables_1_7[i]? = some w) (hg : goodWord w = true) : w ∈ gT := gT_c (List.mem_append_right _ (List.mem_append_right _ (List.mem_append_right _ (List.mem_append_right _ (List.mem_append_right _ (List.mem_append_right _ (List.mem_append_left _ (List.mem_of_getElem? h)))))))) hg
theorem gT_c8 {w : Cond} {i : Nat} (h : tables_1_8[i]? = some w) (hg : goodWord w = true) : w ∈ gT := gT_c (List.mem_append_right _ (List.mem_append_right _ (List.mem_append_right _ (List.mem_append_right _ (List.mem_append_right _ (List.mem_append_right _ (List.mem_append_right _ (List.mem_of_getElem? h)))))))) hg
theorem gT_pr {w : Cond} {i : Nat} (h : (k2_sels lw_privs)[i]? = some w) (hg : goodWord w = true) : w ∈ gT := gT_of (List.mem_append_left _ (List.mem_of_getElem? h)) hg
theorem gT_good {w : Cond} (h : w ∈ gT) : (w.onTables && w.keeps) = true ∨ ∃ ty, w = .arrayClass ty := good_of_word (List.mem_filter.mp h).2
theorem gT_in {y : MethodName} {cc : ByteArray} {n : Nat} {r : Option FieldType} (h : Cond.code y cc n r ∈ gT) : GoodIn gT (.code y cc n r :: gT) := fun w hw => by
  rcases List.mem_cons.mp hw with e | e
  · subst e; exact ⟨h, gT_good h⟩
  · exact ⟨e, gT_good e⟩
/-- the words that are not of that kind -/
def gNest : List Cond := [.methodLinkNest "PenaltyGrid" 9 ⟨"PenaltyGrid$Docket", "<init>", "()V"⟩ "PenaltyGrid", .methodLinkNest "PenaltyGrid$Docket" 81 ⟨"PenaltyGrid$Rows", "<init>", "()V"⟩ "PenaltyGrid", .methodLinkNest "PenaltyGrid" 25 ⟨"PenaltyGrid$LawReader", "<init>", "()V"⟩ "PenaltyGrid", .methodLinkNest "PenaltyGrid" 32 ⟨"PenaltyGrid$Rows", "<init>", "()V"⟩ "PenaltyGrid", .methodLinkNest "PenaltyGrid" 39 ⟨"PenaltyGrid$Trace", "<init>", "()V"⟩ "PenaltyGrid"]
def gWords : String := "grave points old range up down beside back weapon hurt helped gave young pleaded kind age if to or and not "
/-- the bytes of the text of the words -/
def gWb : List Int32 := gWords.toList.map fun c => Int32.ofNat c.toNat
/-- which papers are of no such kind -/
def gNoc : List (String × String) := ["PenaltyGrid$Deed", "PenaltyGrid$YoungDeed", "PenaltyGrid$Finding", "PenaltyGrid$Term", "PenaltyGrid$DrawnTerm", "PenaltyGrid$Law"].flatMap fun c => (["PenaltyGrid$Deed", "PenaltyGrid$YoungDeed", "PenaltyGrid$Finding", "PenaltyGrid$Term", "PenaltyGrid$DrawnTerm", "PenaltyGrid$Law"].filter fun t => !(c == t) && !(c == "PenaltyGrid$YoungDeed" && t == "PenaltyGrid$Deed") && !(c == "PenaltyGrid$DrawnTerm" && t == "PenaltyGrid$Term")).map fun t => (c, t)
def gSpK (b : Nat) (bs : gB) (Hb : Heap) (U : State) : Prop :=
  (∀ w ∈ gNest, va_Nw w U) ∧ (∀ C ∈ ["PenaltyGrid$Deed", "PenaltyGrid$Finding", "PenaltyGrid$Law", "PenaltyGrid$Term"], va_AO C U) ∧ va_Nw (.arrayOver (.array .int)) U ∧ va_Nw (.castable "PenaltyGrid$YoungDeed" "PenaltyGrid$Deed") U ∧ va_Nw (.castable "PenaltyGrid$DrawnTerm" "PenaltyGrid$Term") U ∧ va_Nw (.castable "[I" "java/lang/Cloneable") U ∧
  vk_R "PenaltyGrid$LawReader" 78 gWords (bs.1 1) U ∧ vk_S 1 [107] [gWb] (fun _ => bs.1 1) (fun _ => bs.1 2) (fun q => b ≤ q) U Hb ∧ va_Z "java/lang/String" "COMPACT_STRINGS" "Z" (.int 1) (fun q => b ≤ q) U Hb ∧ (va_Z "jdk/internal/util/Preconditions" "SIOOBE_FORMATTER" "Ljava/util/function/BiFunction;" .null (fun q => b ≤ q) U Hb ∨ va_Z "jdk/internal/util/Preconditions" "SIOOBE_FORMATTER" "Ljava/util/function/BiFunction;" (.ref (bs.1 3)) (fun q => b ≤ q) U Hb) ∧ va_X (bs.1 0) bs.2.1 bs.2.2 U Hb ∧ ∀ q ∈ gNoc, va_Nc q.1 q.2 U
def gTys (dA : Nat → ClassId) : List (ClassId × FieldType) := [(dA 100, .int), (dA 101, .byte), (dA 102, .object "PenaltyGrid$Deed"), (dA 103, .object "PenaltyGrid$Finding"), (dA 104, .object "PenaltyGrid$Law"), (dA 105, .object "PenaltyGrid$Term"), (dA 106, .array .int)]
def gKn (D : va_G) (dA : Nat → ClassId) (b : Nat) (bs : gB) (Hb : Heap) (U : State) : Prop := va_K D vwCl (gTys dA) U ∧ gSpK b bs Hb U
theorem gNest_warm {s U : State} (hW : s.WarmedH U.vm) (h : ∀ w ∈ gNest, va_Nw w s) : ∀ w ∈ gNest, va_Nw w U := fun w hw => by
  have h1 := h w hw
  simp only [gNest, List.mem_cons, List.not_mem_nil, or_false] at hw
  rcases hw with rfl | rfl | rfl | rfl | rfl <;> exact va_Nw.warmM hW h1
theorem gAOA_moved {t : FieldType} {u U : State} (hvm : u.vm.Alike U.vm) (h : va_Nw (.arrayOver (.array t)) u) : va_Nw (.arrayOver (.array t)) U := by
  obtain ⟨comp, c, k, h1, h2, h3, h4, h5⟩ := arrayOverA_spec (args := #[]) (first := u) (s := u) (o := none) (idx := []) h
  obtain ⟨k', hk', he⟩ := hvm.2.2 _ _ h3
  have hi : (U.vm.classes.findIdx? fun (x : Class) => match x.kind with | .array component _ => component == comp | _ => false) = some c := by
    rw [hvm.findIdx?_eq _ (fun _ => rfl)]
    exact h2
  have hkind : k'.kind = .array comp (.array t) := by rw [he]; exact h4
  have f1 : U.vm.findClass (FieldType.array t).toString = some comp := by rw [hvm.findClass]; exact h1
  have f2 : U.vm.findClass ("[" ++ (FieldType.array t).toString) = some c := by rw [hvm.findClass]; exact h5
  unfold va_Nw Cond.before Cond.holds
  simp only [Cond.value]
  rw [f1, Option.bind_some]
  refine (congrArg (fun o : Option Nat => (o.bind (fun c => (U.vm.classes[c]?).map fun (k : Class) => match k.kind with | .array _ ty => decide (ty = FieldType.array t) && decide (U.vm.findClass ("[" ++ (FieldType.array t).toString) = some c) | _ => false) == some true)) hi).trans ?_
  simp [hk', hkind, f2]
theorem gKn.warm {D : va_G} {dA : Nat → ClassId} {b : Nat} {bs : gB} {Hb : Heap} {s U : State} (hW : s.WarmedH U.vm) (h : gKn D dA b bs Hb s) : gKn D dA b bs Hb U := by
  obtain ⟨hK, h1, h2, h3, h4, h5, h6, h7, h8, h9, h10, h11, h12⟩ := h
  exact ⟨va_K.moved hW.alike hK, gNest_warm hW h1, fun C hC => (h2 C hC).moved hW.alike, gAOA_moved hW.alike h3, va_Nw.warmC hW h4, va_Nw.warmC hW h5, va_Nw.warmC hW h6, vk_R.warm hW h7, h8.moved hW.alike, h9.moved hW.alike, h10.elim (fun h => Or.inl (va_Z.moved hW.alike h)) (fun h => Or.inr (va_Z.moved hW.alike h)), h11.moved hW.alike, fun q hq => (h12 q hq).moved hW.alike⟩
theorem gNest_same {s U : State} (hv : s.vm = U.vm) (h : ∀ w ∈ gNest, va_Nw w s) : ∀ w ∈ gNest, va_Nw w U := fun w hw => by
  have h1 := h w hw
  simp only [gNest, List.mem_cons, List.not_mem_nil, or_false] at hw
  rcases hw with rfl | rfl | rfl | rfl | rfl <;> exact va_Nw.same rfl hv h1
theorem gKn.same {D : va_G} {dA : Nat → ClassId} {b : Nat} {bs : gB} {Hb : Heap} {s U : State} (hv : s.vm = U.vm) (h : gKn D dA b bs Hb s) : gKn D dA b bs Hb U := by
  have hal : s.vm.Alike U.vm := by rw [hv]; exact Vm.Alike.refl _
  obtain ⟨hK, h1, h2, h3, h4, h5, h6, h7, h8, h9, h10, h11, h12⟩ := h
  exact ⟨va_K.moved hal hK, gNest_same hv h1, fun C hC => (h2 C hC).moved hal, gAOA_moved hal h3, va_Nw.same rfl hv h4, va_Nw.same rfl hv h5, va_Nw.same rfl hv h6, vk_R.same hv.symm h7, h8.moved hal, h9.moved hal, h10.elim (fun h => Or.inl (va_Z.moved hal h)) (fun h => Or.inr (va_Z.moved hal h)), h11.moved hal, fun q hq => (h12 q hq).moved hal⟩
/-- a method's start and end -/
def gPc (D : va_G) (dA : Nat → ClassId) (b : Nat) (bs : gB) (Hb : Heap) (h : gH) (av : List Value) : Array Value → State → Prop := fun v U => v = (av.map (gtr b bs)).toArray ∧ gW D dA b Hb h U.heap ∧ gKn D dA b bs Hb U
def gQc (D : va_G) (dA : Nat → ClassId) (b : Nat) (bs : gB) (Hb : Heap) (h : gH) (r : Option Value) : Array Value → State → Outcome → State → Prop := fun _ _ oc t => oc = .returned (r.map (gtr b bs)) ∧ gW D dA b Hb h t.heap
def rI (x : Int32) : Option Value := some (.int x)
def rV (_ : Unit) : Option Value := none
def rR (x : Nat) : Option Value := some (.ref x)
def rQ (x : Option Nat) : Option Value := some (va_rf x)
/-- a method's contract: it does what the function f says -/
def gMt (l : Launch) (D : va_G) (dA : Nat → ClassId) (b : Nat) (bs : gB) (Hb : Heap) (y : MethodName) (cc : ByteArray) (maxL : Nat) (ret : Option FieldType) (fr lo : Nat) {α : Type} (ρ : α → Option Value) (av : List Value) (f : gM α) : Prop :=
  ∀ (h : gH) (r : α) (h' : gH), f h = some (r, h') → gLe h h' ∧ Met l y (.code y cc maxL ret :: gT) { frames := fr, cells := gc h' - gc h, slots := gs h' - gs h, locals := lo } (gPc D dA b bs Hb h av) (gQc D dA b bs Hb h' (ρ r)) (gc h' - gc h) (gs h' - gs h) (fun q => b ≤ q)
/-- what a method's body stands on -/
def gCx (D : va_G) (dA : Nat → ClassId) (b : Nat) (bs : gB) (Hb : Heap) (p : Program) (s : State) (m : MethodId) (args : Array Value) (meth : Method) (c : Code) (cc : ByteArray) (nL : Nat) (own nm : String) (ret : Option FieldType) (R : Room) (fr lo : Nat) : Prop :=
  p.tables.exec = Jvm.exec ∧ c.code = cc ∧ c.maxLocals = nL ∧ s.vm.findClass own = some m.cls ∧ (∀ w ∈ gT, w.before args s = true) ∧ gKn D dA b bs Hb s ∧ meth.sig.returnType = ret ∧ meth.locks = false ∧ meth.name = nm ∧ R.frames = fr ∧ R.locals = lo
section GS
variable {l : Launch} {D : va_G} {dA : Nat → ClassId} {b : Nat} {bs : gB} {Hb : Heap} {α : Type} {Z : List Frame → Array Value → State → gH → α → gH → State → Prop}
variable {cc : ByteArray} {nL : Nat} {own nm : String} {ret : Option FieldType} {fr lo : Nat}
/-- from here on the code does what f says -/
def gS (l : Launch) (D : va_G) (dA : Nat → ClassId) (b : Nat) (bs : gB) (Hb : Heap) (cc : ByteArray) (nL : Nat) (own nm : String) (ret : Option FieldType) (fr lo : Nat) {α : Type} (Z : List Frame → Array Value → State → gH → α → gH → State → Prop) (pc : Nat) (L : List (Option Value)) (st : List Value) (f : gM α) : Prop :=
  ∀ (h : gH) (r : α) (h' : gH), f h = some (r, h') → gLe h h' ∧ ∀ (p : Program) (e : Env) (R : Room) (s : State) (m : MethodId) (args : Array Value) (below : List Frame) (meth : Method) (c : Code) (h0 : gH), gCx D dA b bs Hb p s m args meth c cc nL own nm ret R fr lo →
    gLe h0 h → gc h' - gc h0 ≤ R.cells → gs h' - gs h0 ≤ R.slots → ∀ (H : Heap) (locs : List Loc) (ls : Array Slot), gW D dA b Hb h H → (∀ q ∈ locs, b ≤ q.base) → gHas b bs ls nL L →
    W p l e R s m args below meth c H locs (gc h - gc h0) (gs h - gs h0) (Z below args s h0 r h') (F0 m pc ls (st.map (gtr b bs)))
theorem gS.step {pc pc' : Nat} {L : List (Option Value)} {st st' : List Value} {f : gM α}
    (hw : ∀ (p : Program) (e : Env) (R : Room) (s : State) (m : MethodId) (args : Array Value) (below : List Frame) (meth : Method) (c : Code), gCx D dA b bs Hb p s m args meth c cc nL own nm ret R fr lo → ∀ (H : Heap) (locs : List Loc) (cells slots : Nat) (Q : State → Prop) (ls : Array Slot), gHas b bs ls nL L → W p l e R s m args below meth c H locs cells slots Q (F0 m pc' ls (st'.map (gtr b bs))) → W p l e R s m args below meth c H locs cells slots Q (F0 m pc ls (st.map (gtr b bs))))
    (k : gS l D dA b bs Hb cc nL own nm ret fr lo Z pc' L st' f) : gS l D dA b bs Hb cc nL own nm ret fr lo Z pc L st f := fun h r h' hf =>
  ⟨(k h r h' hf).1, fun p e R s m args below meth c h0 cx a1 a2 a3 H locs ls hW hl hh => hw p e R s m args below meth c cx _ _ _ _ _ _ hh ((k h r h' hf).2 p e R s m args below meth c h0 cx a1 a2 a3 H locs ls hW hl hh)⟩
theorem gS.stepL {pc pc' : Nat} {L L' : List (Option Value)} {st st' : List Value} {f : gM α}
    (hw : ∀ (p : Program) (e : Env) (R : Room) (s : State) (m : MethodId) (args : Array Value) (below : List Frame) (meth : Method) (c : Code), gCx D dA b bs Hb p s m args meth c cc nL own nm ret R fr lo → ∀ (H : Heap) (locs : List Loc) (cells slots : Nat) (Q : State → Prop) (ls : Array Slot), gHas b bs ls nL L → (∀ ls' : Array Slot, gHas b bs ls' nL L' → W p l e R s m args below meth c H locs cells slots Q (F0 m pc' ls' (st'.map (gtr b bs)))) → W p l e R s m args below meth c H locs cells slots Q (F0 m pc ls (st.map (gtr b bs))))
    (k : gS l D dA b bs Hb cc nL own nm ret fr lo Z pc' L' st' f) : gS l D dA b bs Hb cc nL own nm ret fr lo Z pc L st f := fun h r h' hf =>
  ⟨(k h r h' hf).1, fun p e R s m args below meth c h0 cx a1 a2 a3 H locs ls hW hl hh => hw p e R s m args below meth c cx _ _ _ _ _ _ hh (fun ls' hh' => (k h r h' hf).2 p e R s m args below meth c h0 cx a1 a2 a3 H locs ls' hW hl hh')⟩
theorem gS.br {P : Prop} [Decidable P] {pc pt pf : Nat} {L : List (Option Value)} {st st' : List Value} {f g : gM α}
    (hw : ∀ (p : Program) (e : Env) (R : Room) (s : State) (m : MethodId) (args : Array Value) (below : List Frame) (meth : Method) (c : Code), gCx D dA b bs Hb p s m args meth c cc nL own nm ret R fr lo → ∀ (H : Heap) (locs : List Loc) (cells slots : Nat) (Q : State → Prop) (ls : Array Slot), (P → W p l e R s m args below meth c H locs cells slots Q (F0 m pt ls (st'.map (gtr b bs)))) → (¬ P → W p l e R s m args below meth c H locs cells slots Q (F0 m pf ls (st'.map (gtr b bs)))) → W p l e R s m args below meth c H locs cells slots Q (F0 m pc ls (st.map (gtr b bs))))
    (kt : gS l D dA b bs Hb cc nL own nm ret fr lo Z pt L st' f) (kf : gS l D dA b bs Hb cc nL own nm ret fr lo Z pf L st' g) : gS l D dA b bs Hb cc nL own nm ret fr lo Z pc L st (if P then f else g) := fun h r h' hf => by
  by_cases hP : P
  · rw [if_pos hP] at hf
    exact ⟨(kt h r h' hf).1, fun p e R s m args below meth c h0 cx a1 a2 a3 H locs ls hW hl hh => hw p e R s m args below meth c cx _ _ _ _ _ _ (fun _ => (kt h r h' hf).2 p e R s m args below meth c h0 cx a1 a2 a3 H locs ls hW hl hh) (fun q => absurd hP q)⟩
  · rw [if_neg hP] at hf
    exact ⟨(kf h r h' hf).1, fun p e R s m args below meth c h0 cx a1 a2 a3 H locs ls hW hl hh => hw p e R s m args below meth c cx _ _ _ _ _ _ (fun q => absurd q hP) (fun _ => (kf h r h' hf).2 p e R s m args below meth c h0 cx a1 a2 a3 H locs ls hW hl hh)⟩
theorem gS.sub {pc : Nat} {L L' : List (Option Value)} {st : List Value} {f : gM α} (hs : gSub L' L)
    (k : gS l D dA b bs Hb cc nL own nm ret fr lo Z pc L' st f) : gS l D dA b bs Hb cc nL own nm ret fr lo Z pc L st f := fun h r h' hf =>
  ⟨(k h r h' hf).1, fun p e R s m args below meth c h0 cx a1 a2 a3 H locs ls hW hl hh => (k h r h' hf).2 p e R s m args below meth c h0 cx a1 a2 a3 H locs ls hW hl (hh.sub hs)⟩
theorem gS.fail {pc : Nat} {L : List (Option Value)} {st : List Value} : gS l D dA b bs Hb cc nL own nm ret fr lo Z pc L st (mf : gM α) := fun h r h' hf => by cases hf
/-- a place that may be nothing is looked at -/
theorem gS.nn {pc : Nat} {L : Option Nat → List (Option Value)} {st : Option Nat → List Value} {f : Nat → gM α} {r : Option Nat}
    (k : ∀ a : Nat, gS l D dA b bs Hb cc nL own nm ret fr lo Z pc (L (some a)) (st (some a)) (f a)) : gS l D dA b bs Hb cc nL own nm ret fr lo Z pc (L r) (st r) (mq r f) := by
  cases r with
  | none => intro h r h' hf; cases hf
  | some a => exact k a
theorem gS.iconst  {pc : Nat} {L : List (Option Value)} {st : List Value} {f : gM α} {n : Int} (v : Int32) (hd : decode cc pc = .ok (.iconst n, 1)) (hv : Int32.ofInt n = v)
    (k : gS l D dA b bs Hb cc nL own nm ret fr lo Z (pc + 1) L (.int v :: st) f) : gS l D dA b bs Hb cc nL own nm ret fr lo Z pc L st f := gS.step (fun _ _ _ _ _ _ _ _ _ cx _ _ _ _ _ _ hh w => lv_iconst cx.1 cx.2.1 hd hv w) k
theorem gS.bipush  {pc : Nat} {L : List (Option Value)} {st : List Value} {f : gM α} {n : Int} (v : Int32) (hd : decode cc pc = .ok (.bipush n, 2)) (hv : (Int8.ofInt n).toInt32 = v)
    (k : gS l D dA b bs Hb cc nL own nm ret fr lo Z (pc + 2) L (.int v :: st) f) : gS l D dA b bs Hb cc nL own nm ret fr lo Z pc L st f := gS.step (fun _ _ _ _ _ _ _ _ _ cx _ _ _ _ _ _ hh w => lv_bipush cx.1 cx.2.1 hd hv w) k
theorem gS.sipush  {pc : Nat} {L : List (Option Value)} {st : List Value} {f : gM α} {n : Int} (v : Int32) (hd : decode cc pc = .ok (.sipush n, 3)) (hv : (Int16.ofInt n).toInt32 = v)
    (k : gS l D dA b bs Hb cc nL own nm ret fr lo Z (pc + 3) L (.int v :: st) f) : gS l D dA b bs Hb cc nL own nm ret fr lo Z pc L st f := gS.step (fun _ _ _ _ _ _ _ _ _ cx _ _ _ _ _ _ hh w => lv_sipush cx.1 cx.2.1 hd hv w) k
theorem gS.iload_n  {pc : Nat} {L : List (Option Value)} {st : List Value} {f : gM α} {q : Fin 4} (i : Nat) (x : Int32) (hd : decode cc pc = .ok (.iload_n q, 1)) (hi : (q : Nat) = i) (hL : L[i]? = some (some (.int x)))
    (k : gS l D dA b bs Hb cc nL own nm ret fr lo Z (pc + 1) L (.int x :: st) f) : gS l D dA b bs Hb cc nL own nm ret fr lo Z pc L st f := gS.step (fun _ _ _ _ _ _ _ _ _ cx _ _ _ _ _ _ hh w => lv_iload_n cx.1 cx.2.1 hd hi (hh.2.2 _ _ hL) w) k
theorem gS.iload  {pc : Nat} {L : List (Option Value)} {st : List Value} {f : gM α} (i : Nat) (x : Int32) (hd : decode cc pc = .ok (.iload i, 2)) (hL : L[i]? = some (some (.int x)))
    (k : gS l D dA b bs Hb cc nL own nm ret fr lo Z (pc + 2) L (.int x :: st) f) : gS l D dA b bs Hb cc nL own nm ret fr lo Z pc L st f := gS.step (fun _ _ _ _ _ _ _ _ _ cx _ _ _ _ _ _ hh w => lv_iload cx.1 cx.2.1 hd (hh.2.2 _ _ hL) w) k
theorem gS.aload_n  {pc : Nat} {L : List (Option Value)} {st : List Value} {f : gM α} {q : Fin 4} (i : Nat) (x : Nat) (hd : decode cc pc = .ok (.aload_n q, 1)) (hi : (q : Nat) = i) (hL : L[i]? = some (some (.ref x)))
    (k : gS l D dA b bs Hb cc nL own nm ret fr lo Z (pc + 1) L (.ref x :: st) f) : gS l D dA b bs Hb cc nL own nm ret fr lo Z pc L st f := gS.step (fun _ _ _ _ _ _ _ _ _ cx _ _ _ _ _ _ hh w => lv_aload_n cx.1 cx.2.1 hd hi (hh.2.2 _ _ hL) w) k
theorem gS.aload  {pc : Nat} {L : List (Option Value)} {st : List Value} {f : gM α} (i : Nat) (x : Nat) (hd : decode cc pc = .ok (.aload i, 2)) (hL : L[i]? = some (some (.ref x)))
    (k : gS l D dA b bs Hb cc nL own nm ret fr lo Z (pc + 2) L (.ref x :: st) f) : gS l D dA b bs Hb cc nL own nm ret fr lo Z pc L st f := gS.step (fun _ _ _ _ _ _ _ _ _ cx _ _ _ _ _ _ hh w => lv_aload cx.1 cx.2.1 hd (hh.2.2 _ _ hL) w) k
theorem gS.lload_n  {pc : Nat} {L : List (Option Value)} {st : List Value} {f : gM α} {q : Fin 4} (i : Nat) (x : Int64) (hd : decode cc pc = .ok (.lload_n q, 1)) (hi : (q : Nat) = i) (hL : L[i]? = some (some (.long x)))
    (k : gS l D dA b bs Hb cc nL own nm ret fr lo Z (pc + 1) L (.long x :: st) f) : gS l D dA b bs Hb cc nL own nm ret fr lo Z pc L st f := gS.step (fun _ _ _ _ _ _ _ _ _ cx _ _ _ _ _ _ hh w => lv_lload_n cx.1 cx.2.1 hd hi (hh.2.2 _ _ hL) w) k
theorem gS.aload_nf  {pc : Nat} {L : List (Option Value)} {st : List Value} {f : gM α} {q : Fin 4} (i : Nat) (x : UInt32) (hd : decode cc pc = .ok (.aload_n q, 1)) (hi : (q : Nat) = i) (hL : L[i]? = some (some (.float x)))
    (k : gS l D dA b bs Hb cc nL own nm ret fr lo Z (pc + 1) L (.float x :: st) f) : gS l D dA b bs Hb cc nL own nm ret fr lo Z pc L st f := gS.step (fun _ _ _ _ _ _ _ _ _ cx _ _ _ _ _ _ hh w => lv_aload_n cx.1 cx.2.1 hd hi (hh.2.2 _ _ hL) w) k
theorem gS.aload_nQ  {pc : Nat} {L : List (Option Value)} {st : List Value} {f : gM α} {q : Fin 4} (i : Nat) (x : Option Nat) (hd : decode cc pc = .ok (.aload_n q, 1)) (hi : (q : Nat) = i) (hL : L[i]? = some (some (va_rf x)))
    (k : gS l D dA b bs Hb cc nL own nm ret fr lo Z (pc + 1) L (va_rf x :: st) f) : gS l D dA b bs Hb cc nL own nm ret fr lo Z pc L st f := by
  cases x with
  | none => exact gS.step (fun _ _ _ _ _ _ _ _ _ cx _ _ _ _ _ _ hh w => lv_aload_nN cx.1 cx.2.1 hd hi (hh.2.2 _ _ hL) w) k
  | some x => exact gS.step (fun _ _ _ _ _ _ _ _ _ cx _ _ _ _ _ _ hh w => lv_aload_n cx.1 cx.2.1 hd hi (hh.2.2 _ _ hL) w) k
theorem gS.aloadQ  {pc : Nat} {L : List (Option Value)} {st : List Value} {f : gM α} (i : Nat) (x : Option Nat) (hd : decode cc pc = .ok (.aload i, 2)) (hL : L[i]? = some (some (va_rf x)))
    (k : gS l D dA b bs Hb cc nL own nm ret fr lo Z (pc + 2) L (va_rf x :: st) f) : gS l D dA b bs Hb cc nL own nm ret fr lo Z pc L st f := by
  cases x with
  | none => exact gS.step (fun _ _ _ _ _ _ _ _ _ cx _ _ _ _ _ _ hh w => lv_aloadN cx.1 cx.2.1 hd (hh.2.2 _ _ hL) w) k
  | some x => exact gS.step (fun _ _ _ _ _ _ _ _ _ cx _ _ _ _ _ _ hh w => lv_aload cx.1 cx.2.1 hd (hh.2.2 _ _ hL) w) k
theorem gS.istore_n  {pc : Nat} {L : List (Option Value)} {st : List Value} {f : gM α} {q : Fin 4} (i : Nat) (x : Int32) (hd : decode cc pc = .ok (.istore_n q, 1)) (hi : (q : Nat) = i) (hn : i < nL) (hok : gOk L i = true) {L' : List (Option Value)} (hs : L.set i (some (.int x)) = L')
    (k : gS l D dA b bs Hb cc nL own nm ret fr lo Z (pc + 1) L' st f) : gS l D dA b bs Hb cc nL own nm ret fr lo Z pc L (.int x :: st) f := by
  subst hs
  exact gS.stepL (fun _ _ _ _ _ _ _ _ _ cx _ _ _ _ _ _ hh w => lv_istore_n cx.1 cx.2.1 hd hi hh.lv hn rfl (fun ls' h' => w ls' (gHas.set (v := .int x) hok h'))) k
theorem gS.istore  {pc : Nat} {L : List (Option Value)} {st : List Value} {f : gM α} (i : Nat) (x : Int32) (hd : decode cc pc = .ok (.istore i, 2)) (hn : i < nL) (hok : gOk L i = true) {L' : List (Option Value)} (hs : L.set i (some (.int x)) = L')
    (k : gS l D dA b bs Hb cc nL own nm ret fr lo Z (pc + 2) L' st f) : gS l D dA b bs Hb cc nL own nm ret fr lo Z pc L (.int x :: st) f := by
  subst hs
  exact gS.stepL (fun _ _ _ _ _ _ _ _ _ cx _ _ _ _ _ _ hh w => lv_istore cx.1 cx.2.1 hd hh.lv hn rfl (fun ls' h' => w ls' (gHas.set (v := .int x) hok h'))) k
theorem gS.astore_n  {pc : Nat} {L : List (Option Value)} {st : List Value} {f : gM α} {q : Fin 4} (i : Nat) (x : Nat) (hd : decode cc pc = .ok (.astore_n q, 1)) (hi : (q : Nat) = i) (hn : i < nL) (hok : gOk L i = true) {L' : List (Option Value)} (hs : L.set i (some (.ref x)) = L')
    (k : gS l D dA b bs Hb cc nL own nm ret fr lo Z (pc + 1) L' st f) : gS l D dA b bs Hb cc nL own nm ret fr lo Z pc L (.ref x :: st) f := by
  subst hs
  exact gS.stepL (fun _ _ _ _ _ _ _ _ _ cx _ _ _ _ _ _ hh w => lv_astore_n cx.1 cx.2.1 hd hi hh.lv hn rfl (fun ls' h' => w ls' (gHas.set (v := .ref x) hok h'))) k
theorem gS.astore  {pc : Nat} {L : List (Option Value)} {st : List Value} {f : gM α} (i : Nat) (x : Nat) (hd : decode cc pc = .ok (.astore i, 2)) (hn : i < nL) (hok : gOk L i = true) {L' : List (Option Value)} (hs : L.set i (some (.ref x)) = L')
    (k : gS l D dA b bs Hb cc nL own nm ret fr lo Z (pc + 2) L' st f) : gS l D dA b bs Hb cc nL own nm ret fr lo Z pc L (.ref x :: st) f := by
  subst hs
  exact gS.stepL (fun _ _ _ _ _ _ _ _ _ cx _ _ _ _ _ _ hh w => lv_astore cx.1 cx.2.1 hd hh.lv hn rfl (fun ls' h' => w ls' (gHas.set (v := .ref x) hok h'))) k
theorem gS.astore_nQ  {pc : Nat} {L : List (Option Value)} {st : List Value} {f : gM α} {q : Fin 4} (i : Nat) (x : Option Nat) (hd : decode cc pc = .ok (.astore_n q, 1)) (hi : (q : Nat) = i) (hn : i < nL) (hok : gOk L i = true) {L' : List (Option Value)} (hs : L.set i (some (va_rf x)) = L')
    (k : gS l D dA b bs Hb cc nL own nm ret fr lo Z (pc + 1) L' st f) : gS l D dA b bs Hb cc nL own nm ret fr lo Z pc L (va_rf x :: st) f := by
  subst hs
  cases x with
  | none => exact gS.stepL (fun _ _ _ _ _ _ _ _ _ cx _ _ _ _ _ _ hh w => lv_astore_nN cx.1 cx.2.1 hd hi hh.lv hn rfl (fun ls' h' => w ls' (gHas.set (v := .null) hok h'))) k
  | some x => exact gS.stepL (fun _ _ _ _ _ _ _ _ _ cx _ _ _ _ _ _ hh w => lv_astore_n cx.1 cx.2.1 hd hi hh.lv hn rfl (fun ls' h' => w ls' (gHas.set (v := .ref x) hok h'))) k
theorem gS.astoreQ  {pc : Nat} {L : List (Option Value)} {st : List Value} {f : gM α} (i : Nat) (x : Option Nat) (hd : decode cc pc = .ok (.astore i, 2)) (hn : i < nL) (hok : gOk L i = true) {L' : List (Option Value)} (hs : L.set i (some (va_rf x)) = L')
    (k : gS l D dA b bs Hb cc nL own nm ret fr lo Z (pc + 2) L' st f) : gS l D dA b bs Hb cc nL own nm ret fr lo Z pc L (va_rf x :: st) f := by
  subst hs
  cases x with
  | none => exact gS.stepL (fun _ _ _ _ _ _ _ _ _ cx _ _ _ _ _ _ hh w => lv_astoreN cx.1 cx.2.1 hd hh.lv hn rfl (fun ls' h' => w ls' (gHas.set (v := .null) hok h'))) k
  | some x => exact gS.stepL (fun _ _ _ _ _ _ _ _ _ cx _ _ _ _ _ _ hh w => lv_astore cx.1 cx.2.1 hd hh.lv hn rfl (fun ls' h' => w ls' (gHas.set (v := .ref x) hok h'))) k
theorem gl_at {b : Nat} {bs : gB} {L : List (Option Value)} {j : Nat} {v : Value} (h : L[j]? = some (some v)) : ∃ k : Nat, (gl b bs L)[k]? = some (j, gtr b bs v) := List.getElem?_of_mem (gl_of h)
theorem gS.iinc  {pc : Nat} {L : List (Option Value)} {st : List Value} {f : gM α} {n : Int} (i : Nat) (x v : Int32) (hd : decode cc pc = .ok (.iinc i n, 3)) (hL : L[i]? = some (some (.int x))) (hv : Int32.ofInt n = v) (hn : i < nL) (hok : gOk L i = true) {L' : List (Option Value)} (hs : L.set i (some (.int (x + v))) = L')
    (k : gS l D dA b bs Hb cc nL own nm ret fr lo Z (pc + 3) L' st f) : gS l D dA b bs Hb cc nL own nm ret fr lo Z pc L st f := by
  subst hs
  exact gS.stepL (fun _ _ _ _ _ _ _ _ _ cx _ _ _ _ _ _ hh w => by
  subst hv
  obtain ⟨kk, hk⟩ := gl_at (b := b) (bs := bs) hL
  exact lv_iinc cx.1 cx.2.1 hd hh.lv hk rfl hn rfl (fun ls' h' => w ls' (gHas.set (v := .int _) hok h'))) k
theorem gS.iadd  {pc : Nat} {L : List (Option Value)} {st : List Value} {f : gM α} (x y : Int32) (hd : decode cc pc = .ok (.iadd, 1))
    (k : gS l D dA b bs Hb cc nL own nm ret fr lo Z (pc + 1) L (.int (x + y) :: st) f) : gS l D dA b bs Hb cc nL own nm ret fr lo Z pc L (.int y :: .int x :: st) f := gS.step (fun _ _ _ _ _ _ _ _ _ cx _ _ _ _ _ _ hh w => lv_iadd cx.1 cx.2.1 hd  w) k
theorem gS.isub  {pc : Nat} {L : List (Option Value)} {st : List Value} {f : gM α} (x y : Int32) (hd : decode cc pc = .ok (.isub, 1))
    (k : gS l D dA b bs Hb cc nL own nm ret fr lo Z (pc + 1) L (.int (x - y) :: st) f) : gS l D dA b bs Hb cc nL own nm ret fr lo Z pc L (.int y :: .int x :: st) f := gS.step (fun _ _ _ _ _ _ _ _ _ cx _ _ _ _ _ _ hh w => lv_isub cx.1 cx.2.1 hd  w) k
theorem gS.imul  {pc : Nat} {L : List (Option Value)} {st : List Value} {f : gM α} (x y : Int32) (hd : decode cc pc = .ok (.imul, 1))
    (k : gS l D dA b bs Hb cc nL own nm ret fr lo Z (pc + 1) L (.int (x * y) :: st) f) : gS l D dA b bs Hb cc nL own nm ret fr lo Z pc L (.int y :: .int x :: st) f := gS.step (fun _ _ _ _ _ _ _ _ _ cx _ _ _ _ _ _ hh w => lv_imul cx.1 cx.2.1 hd  w) k
theorem gS.iand  {pc : Nat} {L : List (Option Value)} {st : List Value} {f : gM α} (x y : Int32) (hd : decode cc pc = .ok (.iand, 1))
    (k : gS l D dA b bs Hb cc nL own nm ret fr lo Z (pc + 1) L (.int (x &&& y) :: st) f) : gS l D dA b bs Hb cc nL own nm ret fr lo Z pc L (.int y :: .int x :: st) f := gS.step (fun _ _ _ _ _ _ _ _ _ cx _ _ _ _ _ _ hh w => lv_iand cx.1 cx.2.1 hd  w) k
theorem gS.ior  {pc : Nat} {L : List (Option Value)} {st : List Value} {f : gM α} (x y : Int32) (hd : decode cc pc = .ok (.ior, 1))
    (k : gS l D dA b bs Hb cc nL own nm ret fr lo Z (pc + 1) L (.int (x ||| y) :: st) f) : gS l D dA b bs Hb cc nL own nm ret fr lo Z pc L (.int y :: .int x :: st) f := gS.step (fun _ _ _ _ _ _ _ _ _ cx _ _ _ _ _ _ hh w => lv_ior cx.1 cx.2.1 hd  w) k
theorem gS.ixor  {pc : Nat} {L : List (Option Value)} {st : List Value} {f : gM α} (x y : Int32) (hd : decode cc pc = .ok (.ixor, 1))
    (k : gS l D dA b bs Hb cc nL own nm ret fr lo Z (pc + 1) L (.int (x ^^^ y) :: st) f) : gS l D dA b bs Hb cc nL own nm ret fr lo Z pc L (.int y :: .int x :: st) f := gS.step (fun _ _ _ _ _ _ _ _ _ cx _ _ _ _ _ _ hh w => lv_ixor cx.1 cx.2.1 hd  w) k
theorem gS.ishl  {pc : Nat} {L : List (Option Value)} {st : List Value} {f : gM α} (x y : Int32) (hd : decode cc pc = .ok (.ishl, 1))
    (k : gS l D dA b bs Hb cc nL own nm ret fr lo Z (pc + 1) L (.int (x <<< (y &&& 31)) :: st) f) : gS l D dA b bs Hb cc nL own nm ret fr lo Z pc L (.int y :: .int x :: st) f := gS.step (fun _ _ _ _ _ _ _ _ _ cx _ _ _ _ _ _ hh w => lv_ishl cx.1 cx.2.1 hd  w) k
theorem gS.ishr  {pc : Nat} {L : List (Option Value)} {st : List Value} {f : gM α} (x y : Int32) (hd : decode cc pc = .ok (.ishr, 1))
    (k : gS l D dA b bs Hb cc nL own nm ret fr lo Z (pc + 1) L (.int (x >>> (y &&& 31)) :: st) f) : gS l D dA b bs Hb cc nL own nm ret fr lo Z pc L (.int y :: .int x :: st) f := gS.step (fun _ _ _ _ _ _ _ _ _ cx _ _ _ _ _ _ hh w => lv_ishr cx.1 cx.2.1 hd  w) k
theorem gS.ineg  {pc : Nat} {L : List (Option Value)} {st : List Value} {f : gM α} (x : Int32) (hd : decode cc pc = .ok (.ineg, 1))
    (k : gS l D dA b bs Hb cc nL own nm ret fr lo Z (pc + 1) L (.int (-x) :: st) f) : gS l D dA b bs Hb cc nL own nm ret fr lo Z pc L (.int x :: st) f := gS.step (fun _ _ _ _ _ _ _ _ _ cx _ _ _ _ _ _ hh w => lv_ineg cx.1 cx.2.1 hd  w) k
def iush (x y : Int32) : Int32 := (x.toUInt32 >>> (y.toUInt32 &&& Int32.toUInt32 31)).toInt32
theorem gS.iushr  {pc : Nat} {L : List (Option Value)} {st : List Value} {f : gM α} (x y : Int32) (hd : decode cc pc = .ok (.iushr, 1))
    (k : gS l D dA b bs Hb cc nL own nm ret fr lo Z (pc + 1) L (.int (iush x y) :: st) f) : gS l D dA b bs Hb cc nL own nm ret fr lo Z pc L (.int y :: .int x :: st) f := gS.step (fun _ _ _ _ _ _ _ _ _ cx _ _ _ _ _ _ hh w => lv_iushr cx.1 cx.2.1 hd rfl w) k
theorem gS.i2b  {pc : Nat} {L : List (Option Value)} {st : List Value} {f : gM α} (x : Int32) (hd : decode cc pc = .ok (.i2b, 1))
    (k : gS l D dA b bs Hb cc nL own nm ret fr lo Z (pc + 1) L (.int (x.toInt8.toInt32) :: st) f) : gS l D dA b bs Hb cc nL own nm ret fr lo Z pc L (.int x :: st) f := gS.step (fun _ _ _ _ _ _ _ _ _ cx _ _ _ _ _ _ hh w => lv_i2b cx.1 cx.2.1 hd rfl w) k
theorem gS.i2s  {pc : Nat} {L : List (Option Value)} {st : List Value} {f : gM α} (x : Int32) (hd : decode cc pc = .ok (.i2s, 1))
    (k : gS l D dA b bs Hb cc nL own nm ret fr lo Z (pc + 1) L (.int (x.toInt16.toInt32) :: st) f) : gS l D dA b bs Hb cc nL own nm ret fr lo Z pc L (.int x :: st) f := gS.step (fun _ _ _ _ _ _ _ _ _ cx _ _ _ _ _ _ hh w => lv_i2s cx.1 cx.2.1 hd rfl w) k
theorem gS.i2l  {pc : Nat} {L : List (Option Value)} {st : List Value} {f : gM α} (x : Int32) (hd : decode cc pc = .ok (.i2l, 1))
    (k : gS l D dA b bs Hb cc nL own nm ret fr lo Z (pc + 1) L (.long x.toInt64 :: st) f) : gS l D dA b bs Hb cc nL own nm ret fr lo Z pc L (.int x :: st) f := gS.step (fun _ _ _ _ _ _ _ _ _ cx _ _ _ _ _ _ hh w => lv_i2l cx.1 cx.2.1 hd rfl w) k
theorem gS.l2i  {pc : Nat} {L : List (Option Value)} {st : List Value} {f : gM α} (x : Int64) (hd : decode cc pc = .ok (.l2i, 1))
    (k : gS l D dA b bs Hb cc nL own nm ret fr lo Z (pc + 1) L (.int x.toInt32 :: st) f) : gS l D dA b bs Hb cc nL own nm ret fr lo Z pc L (.long x :: st) f := gS.step (fun _ _ _ _ _ _ _ _ _ cx _ _ _ _ _ _ hh w => lv_l2i cx.1 cx.2.1 hd rfl w) k
theorem gS.land  {pc : Nat} {L : List (Option Value)} {st : List Value} {f : gM α} (x y : Int64) (hd : decode cc pc = .ok (.land, 1))
    (k : gS l D dA b bs Hb cc nL own nm ret fr lo Z (pc + 1) L (.long (x &&& y) :: st) f) : gS l D dA b bs Hb cc nL own nm ret fr lo Z pc L (.long y :: .long x :: st) f := gS.step (fun _ _ _ _ _ _ _ _ _ cx _ _ _ _ _ _ hh w => lv_land cx.1 cx.2.1 hd  w) k
theorem gS.lor  {pc : Nat} {L : List (Option Value)} {st : List Value} {f : gM α} (x y : Int64) (hd : decode cc pc = .ok (.lor, 1))
    (k : gS l D dA b bs Hb cc nL own nm ret fr lo Z (pc + 1) L (.long (x ||| y) :: st) f) : gS l D dA b bs Hb cc nL own nm ret fr lo Z pc L (.long y :: .long x :: st) f := gS.step (fun _ _ _ _ _ _ _ _ _ cx _ _ _ _ _ _ hh w => lv_lor cx.1 cx.2.1 hd  w) k
def lush (x : Int64) (y : Int32) : Int64 := (x.toUInt64 >>> (y.toInt64.toUInt64 &&& Int64.toUInt64 63)).toInt64
theorem gS.lshl  {pc : Nat} {L : List (Option Value)} {st : List Value} {f : gM α} (x : Int64) (y : Int32) (hd : decode cc pc = .ok (.lshl, 1))
    (k : gS l D dA b bs Hb cc nL own nm ret fr lo Z (pc + 1) L (.long (x <<< (y.toInt64 &&& 63)) :: st) f) : gS l D dA b bs Hb cc nL own nm ret fr lo Z pc L (.int y :: .long x :: st) f := gS.step (fun _ _ _ _ _ _ _ _ _ cx _ _ _ _ _ _ hh w => lv_lshl cx.1 cx.2.1 hd rfl w) k
theorem gS.lshr  {pc : Nat} {L : List (Option Value)} {st : List Value} {f : gM α} (x : Int64) (y : Int32) (hd : decode cc pc = .ok (.lshr, 1))
    (k : gS l D dA b bs Hb cc nL own nm ret fr lo Z (pc + 1) L (.long (x >>> (y.toInt64 &&& 63)) :: st) f) : gS l D dA b bs Hb cc nL own nm ret fr lo Z pc L (.int y :: .long x :: st) f := gS.step (fun _ _ _ _ _ _ _ _ _ cx _ _ _ _ _ _ hh w => lv_lshr cx.1 cx.2.1 hd rfl w) k
theorem gS.lushr  {pc : Nat} {L : List (Option Value)} {st : List Value} {f : gM α} (x : Int64) (y : Int32) (hd : decode cc pc = .ok (.lushr, 1))
    (k : gS l D dA b bs Hb cc nL own nm ret fr lo Z (pc + 1) L (.long (lush x y) :: st) f) : gS l D dA b bs Hb cc nL own nm ret fr lo Z pc L (.int y :: .long x :: st) f := gS.step (fun _ _ _ _ _ _ _ _ _ cx _ _ _ _ _ _ hh w => lv_lushr cx.1 cx.2.1 hd rfl w) k
def gDiv (x y : Int32) : gM Int32 := fun h => if y = 0 then none else some (x / y, h)
def gRem (x y : Int32) : gM Int32 := fun h => if y = 0 then none else some (x - x / y * y, h)
theorem gS.idiv  {pc : Nat} {L : List (Option Value)} {st : List Value} {f : Int32 → gM α} (x y : Int32) (hd : decode cc pc = .ok (.idiv, 1))
    (k : ∀ v : Int32, gS l D dA b bs Hb cc nL own nm ret fr lo Z (pc + 1) L (.int v :: st) (f v)) : gS l D dA b bs Hb cc nL own nm ret fr lo Z pc L (.int y :: .int x :: st) (mb (gDiv x y) f) := fun h r h' hf => by
  by_cases hy : y = 0
  · simp [mb, gDiv, hy] at hf
  · have hf : f (x / y) h = some (r, h') := by simpa [mb, gDiv, hy] using hf
    exact ⟨(k _ h r h' hf).1, fun p e R s m args below meth c h0 cx a1 a2 a3 H locs ls hW hl hh => lv_idiv cx.1 cx.2.1 hd hy ((k _ h r h' hf).2 p e R s m args below meth c h0 cx a1 a2 a3 H locs ls hW hl hh)⟩
theorem gS.irem  {pc : Nat} {L : List (Option Value)} {st : List Value} {f : Int32 → gM α} (x y : Int32) (hd : decode cc pc = .ok (.irem, 1))
    (k : ∀ v : Int32, gS l D dA b bs Hb cc nL own nm ret fr lo Z (pc + 1) L (.int v :: st) (f v)) : gS l D dA b bs Hb cc nL own nm ret fr lo Z pc L (.int y :: .int x :: st) (mb (gRem x y) f) := fun h r h' hf => by
  by_cases hy : y = 0
  · simp [mb, gRem, hy] at hf
  · have hf : f (x - x / y * y) h = some (r, h') := by simpa [mb, gRem, hy] using hf
    exact ⟨(k _ h r h' hf).1, fun p e R s m args below meth c h0 cx a1 a2 a3 H locs ls hW hl hh => lv_irem cx.1 cx.2.1 hd hy ((k _ h r h' hf).2 p e R s m args below meth c h0 cx a1 a2 a3 H locs ls hW hl hh)⟩
theorem gS.dup  {pc : Nat} {L : List (Option Value)} {st : List Value} {f : gM α} (v : Value) (hd : decode cc pc = .ok (.dup, 1)) (hv : ∀ b bs, (gtr b bs v).category = 1)
    (k : gS l D dA b bs Hb cc nL own nm ret fr lo Z (pc + 1) L (v :: v :: st) f) : gS l D dA b bs Hb cc nL own nm ret fr lo Z pc L (v :: st) f := gS.step (fun _ _ _ _ _ _ _ _ _ cx _ _ _ _ _ _ hh w => lv_dup cx.1 cx.2.1 hd (hv _ _) w) k
theorem gS.pop  {pc : Nat} {L : List (Option Value)} {st : List Value} {f : gM α} (v : Value) (hd : decode cc pc = .ok (.pop, 1)) (hv : ∀ b bs, (gtr b bs v).category = 1)
    (k : gS l D dA b bs Hb cc nL own nm ret fr lo Z (pc + 1) L st f) : gS l D dA b bs Hb cc nL own nm ret fr lo Z pc L (v :: st) f := gS.step (fun _ _ _ _ _ _ _ _ _ cx _ _ _ _ _ _ hh w => lv_pop cx.1 cx.2.1 hd (hv _ _) w) k
theorem gS.dup_x1  {pc : Nat} {L : List (Option Value)} {st : List Value} {f : gM α} (v w : Value) (hd : decode cc pc = .ok (.dup_x1, 1)) (hv : ∀ b bs, (gtr b bs v).category = 1) (hw : ∀ b bs, (gtr b bs w).category = 1)
    (k : gS l D dA b bs Hb cc nL own nm ret fr lo Z (pc + 1) L (v :: w :: v :: st) f) : gS l D dA b bs Hb cc nL own nm ret fr lo Z pc L (v :: w :: st) f := gS.step (fun _ _ _ _ _ _ _ _ _ cx _ _ _ _ _ _ hh w => lv_dup_x1 cx.1 cx.2.1 hd (hv _ _) (hw _ _) w) k
theorem gS.dup2  {pc : Nat} {L : List (Option Value)} {st : List Value} {f : gM α} (v w : Value) (hd : decode cc pc = .ok (.dup2, 1)) (hv : ∀ b bs, (gtr b bs v).category = 1) (hw : ∀ b bs, (gtr b bs w).category = 1)
    (k : gS l D dA b bs Hb cc nL own nm ret fr lo Z (pc + 1) L (v :: w :: v :: w :: st) f) : gS l D dA b bs Hb cc nL own nm ret fr lo Z pc L (v :: w :: st) f := gS.step (fun _ _ _ _ _ _ _ _ _ cx _ _ _ _ _ _ hh w => lv_dup2_11 cx.1 cx.2.1 hd (hv _ _) (hw _ _) w) k
theorem gS.null  {pc : Nat} {L : List (Option Value)} {st : List Value} {f : gM α}  (hd : decode cc pc = .ok (.aconst_null, 1))
    (k : gS l D dA b bs Hb cc nL own nm ret fr lo Z (pc + 1) L (va_rf none :: st) f) : gS l D dA b bs Hb cc nL own nm ret fr lo Z pc L st f := gS.step (fun _ _ _ _ _ _ _ _ _ cx _ _ _ _ _ _ hh w => lv_null cx.1 cx.2.1 hd  w) k
theorem gS.goto  {pc : Nat} {L : List (Option Value)} {st : List Value} {f : gM α} {off : Int} (tgt : Nat) (hd : decode cc pc = .ok (.goto off, 3)) (ht : (pc : Int) + off = (tgt : Int))
    (k : gS l D dA b bs Hb cc nL own nm ret fr lo Z tgt L st f) : gS l D dA b bs Hb cc nL own nm ret fr lo Z pc L st f := gS.step (fun _ _ _ _ _ _ _ _ _ cx _ _ _ _ _ _ hh w => lv_goto cx.1 cx.2.1 hd ht w) k
theorem gS.ldc  {pc : Nat} {L : List (Option Value)} {st : List Value} {f : gM α} {idx : Nat} (v : Int32) (hd : decode cc pc = .ok (.ldc idx, 2)) (hc : Cond.constant own idx v ∈ gT)
    (k : gS l D dA b bs Hb cc nL own nm ret fr lo Z (pc + 2) L (.int v :: st) f) : gS l D dA b bs Hb cc nL own nm ret fr lo Z pc L st f := gS.step (fun _ _ _ _ _ _ _ _ _ cx _ _ _ _ _ _ hh w => lv_ldc cx.1 cx.2.1 cx.2.2.2.1 (cx.2.2.2.2.1 _ hc) hd w) k
theorem gS.ldcw  {pc : Nat} {L : List (Option Value)} {st : List Value} {f : gM α} {idx : Nat} (v : Int32) (hd : decode cc pc = .ok (.ldc_w idx, 3)) (hc : Cond.constant own idx v ∈ gT)
    (k : gS l D dA b bs Hb cc nL own nm ret fr lo Z (pc + 3) L (.int v :: st) f) : gS l D dA b bs Hb cc nL own nm ret fr lo Z pc L st f := gS.step (fun _ _ _ _ _ _ _ _ _ cx _ _ _ _ _ _ hh w => lv_ldcw cx.1 cx.2.1 cx.2.2.2.1 (cx.2.2.2.2.1 _ hc) hd w) k
theorem gS.ldc2  {pc : Nat} {L : List (Option Value)} {st : List Value} {f : gM α} {idx : Nat} (v : Int64) (hd : decode cc pc = .ok (.ldc2_w idx, 3)) (hc : Cond.constantLong own idx v ∈ gT)
    (k : gS l D dA b bs Hb cc nL own nm ret fr lo Z (pc + 3) L (.long v :: st) f) : gS l D dA b bs Hb cc nL own nm ret fr lo Z pc L st f := gS.step (fun _ _ _ _ _ _ _ _ _ cx _ _ _ _ _ _ hh w => lv_ldc2 cx.1 cx.2.1 cx.2.2.2.1 (cx.2.2.2.2.1 _ hc) hd w) k
theorem gS.if_eq  {pc : Nat} {L : List (Option Value)} {st : List Value} {f g : gM α} (x : Int32) {off : Int} (tgt : Nat) (hd : decode cc pc = .ok (.ifCond .eq off, 3)) (ht : (pc : Int) + off = (tgt : Int))
    (kt : gS l D dA b bs Hb cc nL own nm ret fr lo Z tgt L st f) (kf : gS l D dA b bs Hb cc nL own nm ret fr lo Z (pc + 3) L st g) : gS l D dA b bs Hb cc nL own nm ret fr lo Z pc L (.int x :: st) (if x = 0 then f else g) := gS.br (fun _ _ _ _ _ _ _ _ _ cx _ _ _ _ _ _ a b => lv_if_eq cx.1 cx.2.1 hd ht a b) kt kf
theorem gS.icmp_eq  {pc : Nat} {L : List (Option Value)} {st : List Value} {f g : gM α} (x y : Int32) {off : Int} (tgt : Nat) (hd : decode cc pc = .ok (.if_icmp .eq off, 3)) (ht : (pc : Int) + off = (tgt : Int))
    (kt : gS l D dA b bs Hb cc nL own nm ret fr lo Z tgt L st f) (kf : gS l D dA b bs Hb cc nL own nm ret fr lo Z (pc + 3) L st g) : gS l D dA b bs Hb cc nL own nm ret fr lo Z pc L (.int y :: .int x :: st) (if x = y then f else g) := gS.br (fun _ _ _ _ _ _ _ _ _ cx _ _ _ _ _ _ a b => lv_icmp_eq cx.1 cx.2.1 hd ht a b) kt kf
theorem gS.if_lt  {pc : Nat} {L : List (Option Value)} {st : List Value} {f g : gM α} (x : Int32) {off : Int} (tgt : Nat) (hd : decode cc pc = .ok (.ifCond .lt off, 3)) (ht : (pc : Int) + off = (tgt : Int))
    (kt : gS l D dA b bs Hb cc nL own nm ret fr lo Z tgt L st f) (kf : gS l D dA b bs Hb cc nL own nm ret fr lo Z (pc + 3) L st g) : gS l D dA b bs Hb cc nL own nm ret fr lo Z pc L (.int x :: st) (if x < 0 then f else g) := gS.br (fun _ _ _ _ _ _ _ _ _ cx _ _ _ _ _ _ a b => lv_if_lt cx.1 cx.2.1 hd ht a b) kt kf
theorem gS.icmp_lt  {pc : Nat} {L : List (Option Value)} {st : List Value} {f g : gM α} (x y : Int32) {off : Int} (tgt : Nat) (hd : decode cc pc = .ok (.if_icmp .lt off, 3)) (ht : (pc : Int) + off = (tgt : Int))
    (kt : gS l D dA b bs Hb cc nL own nm ret fr lo Z tgt L st f) (kf : gS l D dA b bs Hb cc nL own nm ret fr lo Z (pc + 3) L st g) : gS l D dA b bs Hb cc nL own nm ret fr lo Z pc L (.int y :: .int x :: st) (if x < y then f else g) := gS.br (fun _ _ _ _ _ _ _ _ _ cx _ _ _ _ _ _ a b => lv_icmp_lt cx.1 cx.2.1 hd ht a b) kt kf
theorem gS.if_ge  {pc : Nat} {L : List (Option Value)} {st : List Value} {f g : gM α} (x : Int32) {off : Int} (tgt : Nat) (hd : decode cc pc = .ok (.ifCond .ge off, 3)) (ht : (pc : Int) + off = (tgt : Int))
    (kt : gS l D dA b bs Hb cc nL own nm ret fr lo Z tgt L st f) (kf : gS l D dA b bs Hb cc nL own nm ret fr lo Z (pc + 3) L st g) : gS l D dA b bs Hb cc nL own nm ret fr lo Z pc L (.int x :: st) (if 0 ≤ x then f else g) := gS.br (fun _ _ _ _ _ _ _ _ _ cx _ _ _ _ _ _ a b => lv_if_ge cx.1 cx.2.1 hd ht a b) kt kf
theorem gS.icmp_ge  {pc : Nat} {L : List (Option Value)} {st : List Value} {f g : gM α} (x y : Int32) {off : Int} (tgt : Nat) (hd : decode cc pc = .ok (.if_icmp .ge off, 3)) (ht : (pc : Int) + off = (tgt : Int))
    (kt : gS l D dA b bs Hb cc nL own nm ret fr lo Z tgt L st f) (kf : gS l D dA b bs Hb cc nL own nm ret fr lo Z (pc + 3) L st g) : gS l D dA b bs Hb cc nL own nm ret fr lo Z pc L (.int y :: .int x :: st) (if y ≤ x then f else g) := gS.br (fun _ _ _ _ _ _ _ _ _ cx _ _ _ _ _ _ a b => lv_icmp_ge cx.1 cx.2.1 hd ht a b) kt kf
theorem gS.if_gt  {pc : Nat} {L : List (Option Value)} {st : List Value} {f g : gM α} (x : Int32) {off : Int} (tgt : Nat) (hd : decode cc pc = .ok (.ifCond .gt off, 3)) (ht : (pc : Int) + off = (tgt : Int))
    (kt : gS l D dA b bs Hb cc nL own nm ret fr lo Z tgt L st f) (kf : gS l D dA b bs Hb cc nL own nm ret fr lo Z (pc + 3) L st g) : gS l D dA b bs Hb cc nL own nm ret fr lo Z pc L (.int x :: st) (if 0 < x then f else g) := gS.br (fun _ _ _ _ _ _ _ _ _ cx _ _ _ _ _ _ a b => lv_if_gt cx.1 cx.2.1 hd ht a b) kt kf
theorem gS.icmp_gt  {pc : Nat} {L : List (Option Value)} {st : List Value} {f g : gM α} (x y : Int32) {off : Int} (tgt : Nat) (hd : decode cc pc = .ok (.if_icmp .gt off, 3)) (ht : (pc : Int) + off = (tgt : Int))
    (kt : gS l D dA b bs Hb cc nL own nm ret fr lo Z tgt L st f) (kf : gS l D dA b bs Hb cc nL own nm ret fr lo Z (pc + 3) L st g) : gS l D dA b bs Hb cc nL own nm ret fr lo Z pc L (.int y :: .int x :: st) (if y < x then f else g) := gS.br (fun _ _ _ _ _ _ _ _ _ cx _ _ _ _ _ _ a b => lv_icmp_gt cx.1 cx.2.1 hd ht a b) kt kf
theorem gS.if_le  {pc : Nat} {L : List (Option Value)} {st : List Value} {f g : gM α} (x : Int32) {off : Int} (tgt : Nat) (hd : decode cc pc = .ok (.ifCond .le off, 3)) (ht : (pc : Int) + off = (tgt : Int))
    (kt : gS l D dA b bs Hb cc nL own nm ret fr lo Z tgt L st f) (kf : gS l D dA b bs Hb cc nL own nm ret fr lo Z (pc + 3) L st g) : gS l D dA b bs Hb cc nL own nm ret fr lo Z pc L (.int x :: st) (if x ≤ 0 then f else g) := gS.br (fun _ _ _ _ _ _ _ _ _ cx _ _ _ _ _ _ a b => lv_if_le cx.1 cx.2.1 hd ht a b) kt kf
theorem gS.icmp_le  {pc : Nat} {L : List (Option Value)} {st : List Value} {f g : gM α} (x y : Int32) {off : Int} (tgt : Nat) (hd : decode cc pc = .ok (.if_icmp .le off, 3)) (ht : (pc : Int) + off = (tgt : Int))
    (kt : gS l D dA b bs Hb cc nL own nm ret fr lo Z tgt L st f) (kf : gS l D dA b bs Hb cc nL own nm ret fr lo Z (pc + 3) L st g) : gS l D dA b bs Hb cc nL own nm ret fr lo Z pc L (.int y :: .int x :: st) (if x ≤ y then f else g) := gS.br (fun _ _ _ _ _ _ _ _ _ cx _ _ _ _ _ _ a b => lv_icmp_le cx.1 cx.2.1 hd ht a b) kt kf
theorem gS.if_ne  {pc : Nat} {L : List (Option Value)} {st : List Value} {f g : gM α} (x : Int32) {off : Int} (tgt : Nat) (hd : decode cc pc = .ok (.ifCond .ne off, 3)) (ht : (pc : Int) + off = (tgt : Int))
    (kf : gS l D dA b bs Hb cc nL own nm ret fr lo Z (pc + 3) L st f) (kt : gS l D dA b bs Hb cc nL own nm ret fr lo Z tgt L st g) : gS l D dA b bs Hb cc nL own nm ret fr lo Z pc L (.int x :: st) (if x = 0 then f else g) := gS.br (fun _ _ _ _ _ _ _ _ _ cx _ _ _ _ _ _ a b => lv_if_ne cx.1 cx.2.1 hd ht b a) kf kt
theorem gS.icmp_ne  {pc : Nat} {L : List (Option Value)} {st : List Value} {f g : gM α} (x y : Int32) {off : Int} (tgt : Nat) (hd : decode cc pc = .ok (.if_icmp .ne off, 3)) (ht : (pc : Int) + off = (tgt : Int))
    (kf : gS l D dA b bs Hb cc nL own nm ret fr lo Z (pc + 3) L st f) (kt : gS l D dA b bs Hb cc nL own nm ret fr lo Z tgt L st g) : gS l D dA b bs Hb cc nL own nm ret fr lo Z pc L (.int y :: .int x :: st) (if x = y then f else g) := gS.br (fun _ _ _ _ _ _ _ _ _ cx _ _ _ _ _ _ a b => lv_icmp_ne cx.1 cx.2.1 hd ht b a) kf kt
theorem gAd_inj {b : Nat} {x y : Option Nat} : gAd b x = gAd b y ↔ x = y := by
  cases x <;> cases y <;> simp [gAd]
theorem gS.acmp_eq  {pc : Nat} {L : List (Option Value)} {st : List Value} {f g : gM α} (x y : Option Nat) {off : Int} (tgt : Nat) (hd : decode cc pc = .ok (.if_acmp .eq off, 3)) (ht : (pc : Int) + off = (tgt : Int))
    (kt : gS l D dA b bs Hb cc nL own nm ret fr lo Z tgt L st f) (kf : gS l D dA b bs Hb cc nL own nm ret fr lo Z (pc + 3) L st g) : gS l D dA b bs Hb cc nL own nm ret fr lo Z pc L (va_rf y :: va_rf x :: st) (if x = y then f else g) := gS.br (fun _ _ _ _ _ _ _ _ _ cx _ _ _ _ _ _ a q => by
  simp only [List.map_cons, gtr_rf]
  exact lv_acmp_eq cx.1 cx.2.1 hd ht (fun z => a (gAd_inj.mp z)) (fun z => q (fun z2 => z (gAd_inj.mpr z2)))) kt kf
theorem gS.acmp_ne  {pc : Nat} {L : List (Option Value)} {st : List Value} {f g : gM α} (x y : Option Nat) {off : Int} (tgt : Nat) (hd : decode cc pc = .ok (.if_acmp .ne off, 3)) (ht : (pc : Int) + off = (tgt : Int))
    (kf : gS l D dA b bs Hb cc nL own nm ret fr lo Z (pc + 3) L st f) (kt : gS l D dA b bs Hb cc nL own nm ret fr lo Z tgt L st g) : gS l D dA b bs Hb cc nL own nm ret fr lo Z pc L (va_rf y :: va_rf x :: st) (if x = y then f else g) := gS.br (fun _ _ _ _ _ _ _ _ _ cx _ _ _ _ _ _ a q => by
  simp only [List.map_cons, gtr_rf]
  exact lv_acmp_ne cx.1 cx.2.1 hd ht (fun z => q (fun z2 => z (gAd_inj.mpr z2))) (fun z => a (gAd_inj.mp z))) kf kt
def mo {α : Type} (r : Option Nat) (f : gM α) (g : Nat → gM α) : gM α := match r with
  | none => f
  | some a => g a
theorem gS.ifnull  {pc : Nat} {L : Option Nat → List (Option Value)} {st : Option Nat → List Value} {f : gM α} {g : Nat → gM α} (r : Option Nat) {off : Int} (tgt : Nat) (hd : decode cc pc = .ok (.ifnull off, 3)) (ht : (pc : Int) + off = (tgt : Int))
    (kn : gS l D dA b bs Hb cc nL own nm ret fr lo Z tgt (L none) (st none) f) (ks : ∀ a : Nat, gS l D dA b bs Hb cc nL own nm ret fr lo Z (pc + 3) (L (some a)) (st (some a)) (g a)) : gS l D dA b bs Hb cc nL own nm ret fr lo Z pc (L r) (va_rf r :: st r) (mo r f g) := by
  cases r with
  | none => exact gS.step (fun _ _ _ _ _ _ _ _ _ cx _ _ _ _ _ _ hh w => lv_ifnullN cx.1 cx.2.1 hd ht w) kn
  | some a => exact gS.step (fun _ _ _ _ _ _ _ _ _ cx _ _ _ _ _ _ hh w => lv_ifnull cx.1 cx.2.1 hd w) (ks a)
theorem gS.ifnonnull  {pc : Nat} {L : Option Nat → List (Option Value)} {st : Option Nat → List Value} {f : gM α} {g : Nat → gM α} (r : Option Nat) {off : Int} (tgt : Nat) (hd : decode cc pc = .ok (.ifnonnull off, 3)) (ht : (pc : Int) + off = (tgt : Int))
    (kn : gS l D dA b bs Hb cc nL own nm ret fr lo Z (pc + 3) (L none) (st none) f) (ks : ∀ a : Nat, gS l D dA b bs Hb cc nL own nm ret fr lo Z tgt (L (some a)) (st (some a)) (g a)) : gS l D dA b bs Hb cc nL own nm ret fr lo Z pc (L r) (va_rf r :: st r) (mo r f g) := by
  cases r with
  | none => exact gS.step (fun _ _ _ _ _ _ _ _ _ cx _ _ _ _ _ _ hh w => lv_ifnonnullN cx.1 cx.2.1 hd w) kn
  | some a => exact gS.step (fun _ _ _ _ _ _ _ _ _ cx _ _ _ _ _ _ hh w => lv_ifnonnull cx.1 cx.2.1 hd ht w) (ks a)
end GS

/-! ===== rows that few methods want: rows of places, kinds asked, copies, the greater of two ===== -/
def gStRk (t a : Nat) (i : Int32) (v : Nat) : gM Unit := mv (match t with | 102 => [0, 9] | 103 => [3] | 104 => [4] | _ => [7, 2]) v (gStR t a i v)
def gInst (ys : List Nat) (a : Nat) : gM Int32 := mv [0, 2, 3, 4, 7, 9] a fun h => match h.1[a]? with
  | none => none
  | some q => some (if ys.contains q.1 then 1 else 0, h)
def gNm (t : Nat) : String := match vwCl[t]? with
  | none => ""
  | some r => r.1
def gClone (a : Nat) : gM Nat := fun h => match h.1[a]? with
  | none => none
  | some q => if q.1 = 100 then some (h.1.length, h.1 ++ [(100, q.2)], (fun x j => if x = h.1.length then h.2.1 a j else h.2.1 x j), fun x j => if x = h.1.length then none else h.2.2 x j) else none
def gCopy (a : Nat) (sp : Int32) (a1 : Nat) (dp n : Int32) : gM Unit := fun h => match h.1[a]?, h.1[a1]? with
  | some q, some q1 => if q.1 = 100 ∧ q1.1 = 100 ∧ ¬ sp < 0 ∧ ¬ dp < 0 ∧ ¬ n < 0 ∧ sp.toNatClampNeg + n.toNatClampNeg ≤ q.2 ∧ dp.toNatClampNeg + n.toNatClampNeg ≤ q1.2 then
      some ((), h.1, (fun x j => if x = a1 then va_cpy (h.2.1 a) (h.2.1 a1) sp.toNatClampNeg dp.toNatClampNeg n.toNatClampNeg j else h.2.1 x j), h.2.2) else none
  | _, _ => none
def imax (x y : Int32) : Int32 := if x < y then y else x
def imin (x y : Int32) : Int32 := if y < x then y else x
def iabs (x : Int32) : Int32 := if 0 ≤ x then x else 0 - x
theorem gW.kind {D : va_G} {dA : Nat → ClassId} {b : Nat} {bs : gB} {Hb : Heap} {h : gH} {H : Heap} {s : State} (hK : gKn D dA b bs Hb s) (hW : gW D dA b Hb h H) {a t n : Nat} (ha : h.1[a]? = some (t, n)) (ht : t < 100) : ∃ cell : Cell, H[b + a]? = some cell ∧ cell.cls = D.1 t ∧ cell.vm = .none ∧ ClassAt s (gNm t) (D.1 t) := by
  have h1 := hW.2.2.2 a t n ha
  unfold gCell at h1
  rw [if_pos ht] at h1
  obtain ⟨r, h2, cell, q1, q2, q3, -⟩ := h1
  have hn : gNm t = r.1 := by simp [gNm, h2]
  exact ⟨cell, q1, q2, q3, by rw [hn]; exact (hK.1.1 t r h2).2⟩
section GX
variable {l : Launch} {D : va_G} {dA : Nat → ClassId} {b : Nat} {bs : gB} {Hb : Heap} {α : Type} {Z : List Frame → Array Value → State → gH → α → gH → State → Prop}
variable {cc : ByteArray} {nL : Nat} {own nm : String} {ret : Option FieldType} {fr lo : Nat}
theorem gS.qnew {pc idx : Nat} {L : List (Option Value)} {st : List Value} {f : Nat → gM α} {n : Int32} {t k : Nat} {C : String} (ht : 102 ≤ t) (hg : ∀ dA, (gTys dA)[k]? = some (dA t, .object C)) (hC : C ∈ ["PenaltyGrid$Deed", "PenaltyGrid$Finding", "PenaltyGrid$Law", "PenaltyGrid$Term"]) (hc : Cond.classLink own idx C ∈ gT) (hd : decode cc pc = .ok (.anewarray idx, 3))
    (kk : ∀ v : Nat, gS l D dA b bs Hb cc nL own nm ret fr lo Z (pc + 3) L (.ref v :: st) (f v)) : gS l D dA b bs Hb cc nL own nm ret fr lo Z pc L (.int n :: st) (mb (gNewA t n) f) := fun h r h' hf => by
  obtain ⟨v, h1, hg', hf⟩ := mb_spec hf
  by_cases hn : ¬ n < 0 ∧ n.toNatClampNeg ≤ 100000
  · rw [gNewA, if_pos hn] at hg'
    cases hg'
    obtain ⟨g1, g2⟩ := kk _ _ r h' hf
    obtain ⟨p1, p2⟩ := gc_push h t n.toNatClampNeg (fun q j => if q = h.1.length then 0 else h.2.1 q j) (fun q j => if q = h.1.length then none else h.2.2 q j)
    have g1' : gLe h h' := ⟨by have := g1.1; omega, by have := g1.2; omega⟩
    refine ⟨g1', fun p e R s m args below meth c h0 cx a1 a2 a3 H locs ls hW hl hh => ?_⟩
    have hK := cx.2.2.2.2.2.1
    have q1 := g1.1
    have q2 := g1.2
    have q3 := a1.1
    have q4 := a1.2
    refine W.anew cx.1 cx.2.1 cx.2.2.2.1 (cx.2.2.2.2.1 _ hc) (va_AO.use (hK.2.2.1 C hC)) rfl hd rfl hn.1 (by omega) (by omega) (by omega) fun cA kA comp e1 e2 e3 e4 => ?_
    obtain ⟨kA', comp', _, _, _, e5⟩ := (hK.1.2 k _ (hg dA)).2
    have hcA : cA = dA t := Option.some.inj (e1.symm.trans e5)
    subst hcA
    generalize hH1 : H.push ({ cls := dA t, slots := Array.replicate n.toNatClampNeg .null, vm := .none } : Cell) = H1
    have z1 : H1.size = H.size + 1 := by rw [← hH1, Array.size_push]
    have y1 : H1[H.size]? = some (arrV (dA t) n.toNatClampNeg (fun _ => .null)) := by rw [← hH1, Array.getElem?_push_size, ← arrV_new]
    have o1 : ∀ q : Nat, q < H.size → H1[q]? = H[q]? := fun q hq => by rw [← hH1, Array.getElem?_push, if_neg (Nat.ne_of_lt hq)]
    have w := g2 p e R s m args below meth c h0 cx ⟨by omega, by omega⟩ a2 a3 H1 locs ls (hW.push (t := t) (n := n.toNatClampNeg) z1 o1 (by unfold gCell; rw [if_neg (by omega), if_neg (by omega), ← hW.1]; exact y1)) hl hh
    have p1' : gc h - gc h0 + 1 = gc h + 1 - gc h0 := by omega
    have p2' : gs h - gs h0 + n.toNatClampNeg = gs h + n.toNatClampNeg - gs h0 := by omega
    rw [p1', p2', hW.1]
    rw [p1, p2] at w
    exact w
  · rw [gNewA, if_neg hn] at hg'; cases hg'
theorem gS.aastk {pc : Nat} {L : List (Option Value)} {st : List Value} {f : gM α} {t k a v : Nat} {i : Int32} {C : String} (ht : 102 ≤ t) (hg : ∀ dA, (gTys dA)[k]? = some (dA t, .object C)) (hks : ∀ tv ∈ (match t with | 102 => [0, 9] | 103 => [3] | 104 => [4] | _ => [7, 2] : List Nat), tv < 100 ∧ (gNm tv = C ∨ (gNm tv, C) ∈ [("PenaltyGrid$YoungDeed", "PenaltyGrid$Deed"), ("PenaltyGrid$DrawnTerm", "PenaltyGrid$Term")])) (hd : decode cc pc = .ok (.aastore, 1))
    (kk : gS l D dA b bs Hb cc nL own nm ret fr lo Z (pc + 1) L st f) : gS l D dA b bs Hb cc nL own nm ret fr lo Z pc L (.ref v :: .int i :: .ref a :: st) (mb (gStRk t a i v) fun _ => f) := fun h r h' hf => by
  obtain ⟨_, h1, hg', hf⟩ := mb_spec hf
  obtain ⟨tv, nv, hva, hvt, hg'⟩ := mv_spec hg'
  obtain ⟨n, ha, hin, hg'⟩ := mi_spec hg'
  cases hg'
  obtain ⟨g1, g2⟩ := kk _ r h' hf
  refine ⟨g1, fun p e R s m args below meth c h0 cx a1 a2 a3 H locs ls hW hl hh => ?_⟩
  have hK := cx.2.2.2.2.2.1
  obtain ⟨kA, comp, k1, k2, k3, -⟩ := (hK.1.2 k _ (hg dA)).2
  obtain ⟨cellV, v1, v2, v3, vC⟩ := gW.kind hK hW hva (hks tv hvt).1
  obtain ⟨kV, hkV, -⟩ := vC.2
  obtain ⟨kcomp, hkcomp, -⟩ := Vm.findClass_spec k3
  have hasg : s.vm.assignable (D.1 tv) comp = true := by
    rcases (hks tv hvt).2 with q | q
    · rw [q] at vC
      have e1 : D.1 tv = comp := Option.some.inj (vC.1.symm.trans k3)
      rw [← e1]
      exact va_assign vC
    · have hc : va_Nw (.castable (gNm tv) C) s := by
        simp only [List.mem_cons, List.not_mem_nil, or_false, Prod.mk.injEq] at q
        rcases q with ⟨q1, q2⟩ | ⟨q1, q2⟩
        · rw [q1, q2]; exact hK.2.2.2.2.1
        · rw [q1, q2]; exact hK.2.2.2.2.2.1
      obtain ⟨c0, t0, f1, f2, f3⟩ := Cond.castable_spec (va_Nw.use (A := args) rfl hc)
      have e1 : D.1 tv = c0 := Option.some.inj (vC.1.symm.trans f1)
      have e2 : comp = t0 := Option.some.inj (k3.symm.trans f2)
      rw [e1, e2]; exact f3
  have hlt : i.toNatClampNeg < n := Nat.not_le.mp fun q => hin (Or.inr q)
  refine W.aast (t := .object C) cx.1 cx.2.1 (hW.arrR ha ht) (fun q h => by cases h) (fun h => by cases h) k1 k2 rfl hkcomp ⟨fun q => hin (Or.inl q), by rw [arrV_size]; exact hlt⟩ v1 (fun q h => by rw [v3] at h; cases h) (by rw [v2]; exact hkV) (by rw [v2]; exact hasg) rfl rfl hd fun H1 e1 e2 e3 => ?_
  refine g2 p e R s m args below meth c h0 cx a1 a2 a3 H1 _ ls (hW.set ha (fun _ _ => rfl) (fun q hq => u2_ne _ _ _ _ hq) e2 e3 ?_) (gLocs hl) hh
  unfold gCell
  rw [if_neg (by omega), if_neg (by omega), e1, arrV_store]
  congr 2
  funext j
  by_cases hj : j = i.toNatClampNeg <;> simp [updV, u2, hj, gAd, va_rf]
theorem gS.inst {pc idx : Nat} {L : List (Option Value)} {st : List Value} {f : Int32 → gM α} {a : Nat} {T : String} (ys : List Nat) (h1 : Cond.classLink own idx T ∈ gT) (hks : ∀ t ∈ [0, 2, 3, 4, 7, 9], (ys.contains t = true ∧ (gNm t = T ∨ (gNm t, T) ∈ [("PenaltyGrid$YoungDeed", "PenaltyGrid$Deed"), ("PenaltyGrid$DrawnTerm", "PenaltyGrid$Term")])) ∨ (ys.contains t = false ∧ (gNm t, T) ∈ gNoc)) (hd : decode cc pc = .ok (.instanceof idx, 3))
    (kk : ∀ v : Int32, gS l D dA b bs Hb cc nL own nm ret fr lo Z (pc + 3) L (.int v :: st) (f v)) : gS l D dA b bs Hb cc nL own nm ret fr lo Z pc L (.ref a :: st) (mb (gInst ys a) f) := fun h r h' hf => by
  obtain ⟨v, h1', hg, hf⟩ := mb_spec hf
  obtain ⟨t, n, ha, ht, hg⟩ := mv_spec hg
  rw [ha] at hg
  cases hg
  obtain ⟨g1, g2⟩ := kk _ h r h' hf
  refine ⟨g1, fun p e R s m args below meth c h0 cx a1 a2 a3 H locs ls hW hl hh => ?_⟩
  have hK := cx.2.2.2.2.2.1
  have ht100 : t < 100 := by
    simp only [List.mem_cons, List.not_mem_nil, or_false] at ht
    omega
  obtain ⟨cell, q1, q2, q3, qC⟩ := gW.kind hK hW ha ht100
  have w := g2 p e R s m args below meth c h0 cx a1 a2 a3 H locs ls hW hl hh
  rcases hks t ht with ⟨y1, y2⟩ | ⟨y1, y2⟩
  · simp only [y1, if_true] at w
    rcases y2 with y2 | y2
    · rw [y2] at qC
      exact va_instS cx.1 cx.2.1 cx.2.2.2.1 (cx.2.2.2.2.1 _ h1) qC ⟨cell, q1, by rw [q3]; rfl, by rw [q2]; exact qC.1⟩ hd w
    · have hc : va_Nw (.castable (gNm t) T) s := by
        simp only [List.mem_cons, List.not_mem_nil, or_false, Prod.mk.injEq] at y2
        rcases y2 with ⟨z1, z2⟩ | ⟨z1, z2⟩
        · rw [z1, z2]; exact hK.2.2.2.2.1
        · rw [z1, z2]; exact hK.2.2.2.2.2.1
      exact va_instY cx.1 cx.2.1 cx.2.2.2.1 (cx.2.2.2.2.1 _ h1) hc ⟨cell, q1, by rw [q3]; rfl, by rw [q2]; exact qC.1⟩ hd w
  · simp only [y1] at w
    exact va_instNo cx.1 cx.2.1 cx.2.2.2.1 (cx.2.2.2.2.1 _ h1) (hK.2.2.2.2.2.2.2.2.2.2.2.2 _ y2) ⟨cell, q1, by rw [q3]; rfl, by rw [q2]; exact qC.1⟩ hd w
/-! the greater, the lesser, without its sign -/
theorem gS.stepR {pc pc' : Nat} {L : List (Option Value)} {st st' : List Value} {f : gM α}
    (hw : ∀ (p : Program) (e : Env) (R : Room) (s : State) (m : MethodId) (args : Array Value) (below : List Frame) (meth : Method) (c : Code), gCx D dA b bs Hb p s m args meth c cc nL own nm ret R fr lo → ∀ (H : Heap) (locs : List Loc) (cells slots : Nat) (Q : State → Prop) (ls : Array Slot), cells ≤ R.cells → slots ≤ R.slots → gHas b bs ls nL L → W p l e R s m args below meth c H locs cells slots Q (F0 m pc' ls (st'.map (gtr b bs))) → W p l e R s m args below meth c H locs cells slots Q (F0 m pc ls (st.map (gtr b bs))))
    (k : gS l D dA b bs Hb cc nL own nm ret fr lo Z pc' L st' f) : gS l D dA b bs Hb cc nL own nm ret fr lo Z pc L st f := fun h r h' hf =>
  ⟨(k h r h' hf).1, fun p e R s m args below meth c h0 cx a1 a2 a3 H locs ls hW hl hh => hw p e R s m args below meth c cx _ _ _ _ _ _ (Nat.le_trans (Nat.sub_le_sub_right (k h r h' hf).1.1 _) a2) (Nat.le_trans (Nat.sub_le_sub_right (k h r h' hf).1.2 _) a3) hh ((k h r h' hf).2 p e R s m args below meth c h0 cx a1 a2 a3 H locs ls hW hl hh)⟩
theorem gS.mmax {pc idx : Nat} {L : List (Option Value)} {st : List Value} {f : gM α} (x y : Int32) (h1 : Cond.methodLink own idx Lib.Math.max.name ∈ gT) (h2 : Cond.static Lib.Math.max.name ∈ gT) (h3 : Cond.initialized "java/lang/Math" ∈ gT) (h4 : Cond.code Lib.Math.max.name Lib.Math.max.code 2 (some .int) ∈ gT) (hd : decode cc pc = .ok (.invokestatic idx, 3)) (hl : st.length ≤ 4) (hfr : 1 ≤ fr) (hlo : 21 ≤ lo)
    (k : gS l D dA b bs Hb cc nL own nm ret fr lo Z (pc + 3) L (.int (imax x y) :: st) f) : gS l D dA b bs Hb cc nL own nm ret fr lo Z pc L (.int y :: .int x :: st) f :=
  gS.stepR (fun p e R s m args below meth c cx H locs cells slots Q ls hc hs hh w => va_mmax cx.1 cx.2.1 (cx.2.2.1.trans hh.1.symm) cx.2.2.2.1 (cx.2.2.2.2.1 _ h1) (cx.2.2.2.2.1 _ h2) (cx.2.2.2.2.1 _ h3) (cx.2.2.2.2.1 _ h4) (by rw [cx.2.2.2.2.2.2.2.2.2.1]; exact hfr) (by have := gCat (b := b) (bs := bs) hl; rw [cx.2.2.2.2.2.2.2.2.2.2]; omega) hc hs hd w) k
theorem gS.mmin {pc idx : Nat} {L : List (Option Value)} {st : List Value} {f : gM α} (x y : Int32) (h1 : Cond.methodLink own idx Lib.Math.min.name ∈ gT) (h2 : Cond.static Lib.Math.min.name ∈ gT) (h3 : Cond.initialized "java/lang/Math" ∈ gT) (h4 : Cond.code Lib.Math.min.name Lib.Math.min.code 2 (some .int) ∈ gT) (hd : decode cc pc = .ok (.invokestatic idx, 3)) (hl : st.length ≤ 4) (hfr : 1 ≤ fr) (hlo : 21 ≤ lo)
    (k : gS l D dA b bs Hb cc nL own nm ret fr lo Z (pc + 3) L (.int (imin x y) :: st) f) : gS l D dA b bs Hb cc nL own nm ret fr lo Z pc L (.int y :: .int x :: st) f :=
  gS.stepR (fun p e R s m args below meth c cx H locs cells slots Q ls hc hs hh w => va_mmin cx.1 cx.2.1 (cx.2.2.1.trans hh.1.symm) cx.2.2.2.1 (cx.2.2.2.2.1 _ h1) (cx.2.2.2.2.1 _ h2) (cx.2.2.2.2.1 _ h3) (cx.2.2.2.2.1 _ h4) (by rw [cx.2.2.2.2.2.2.2.2.2.1]; exact hfr) (by have := gCat (b := b) (bs := bs) hl; rw [cx.2.2.2.2.2.2.2.2.2.2]; omega) hc hs hd w) k
theorem gS.mabs {pc idx : Nat} {L : List (Option Value)} {st : List Value} {f : gM α} (x : Int32) (h1 : Cond.methodLink own idx Lib.Math.abs.name ∈ gT) (h2 : Cond.static Lib.Math.abs.name ∈ gT) (h3 : Cond.initialized "java/lang/Math" ∈ gT) (h4 : Cond.code Lib.Math.abs.name Lib.Math.abs.code 1 (some .int) ∈ gT) (hd : decode cc pc = .ok (.invokestatic idx, 3)) (hl : st.length ≤ 4) (hfr : 1 ≤ fr) (hlo : 21 ≤ lo)
    (k : gS l D dA b bs Hb cc nL own nm ret fr lo Z (pc + 3) L (.int (iabs x) :: st) f) : gS l D dA b bs Hb cc nL own nm ret fr lo Z pc L (.int x :: st) f :=
  gS.stepR (fun p e R s m args below meth c cx H locs cells slots Q ls hc hs hh w => va_mabs cx.1 cx.2.1 (cx.2.2.1.trans hh.1.symm) cx.2.2.2.1 (cx.2.2.2.2.1 _ h1) (cx.2.2.2.2.1 _ h2) (cx.2.2.2.2.1 _ h3) (cx.2.2.2.2.1 _ h4) (by rw [cx.2.2.2.2.2.2.2.2.2.1]; exact hfr) (by have := gCat (b := b) (bs := bs) hl; rw [cx.2.2.2.2.2.2.2.2.2.2]; omega) hc hs hd w) k
end GX

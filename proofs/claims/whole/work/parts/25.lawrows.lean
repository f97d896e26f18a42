/-! ===== the law's own rows: the script, the end ===== -/
def gScr (bs : gB) (i : Int32) : gM Int32 := fun h => if ¬ (i < 0 ∨ bs.2.1 ≤ i.toNatClampNeg) then some (bs.2.2 i.toNatClampNeg, h) else none
def gScrL (bs : gB) : gM Int32 := fun h => some (Int32.ofNat bs.2.1, h)
def gZl (b : Nat) : List Frame → Array Value → State → gH → Int32 → gH → State → Prop := fun below _ s h0 r h' t =>
  (b = s.heap.size ∧ r = 1 ∧ gc h' - gc h0 ≤ 600000 ∧ gs h' - gs h0 ≤ 7302250) → ∃ o, t.status = .running ∧ Ended t below o ∧ o = .returned (some (.int 1)) ∧ Framed s o t [] 600000 7302250
section GLW
variable {p : Program} {l : Launch} {e : Env} {R : Room} {s : State} {m : MethodId} {args : Array Value} {below : List Frame} {meth : Method} {c : Code}
theorem gw_lret {H : Heap} {cc : ByteArray} (hx : p.tables.exec = Jvm.exec) (hb : c.code = cc) (hr : meth.sig.returnType = some .boolean) (hlocks : meth.locks = false) {pc k n : Nat} {ls : Array Slot} (hdg : decode cc pc = .ok (.ireturn, 1)) :
    W p l e R s m args below meth c H [] k n (fun t => ∃ o, t.status = .running ∧ Ended t below o ∧ o = .returned (some (.int 1)) ∧ Framed s o t [] k n) (F0 m pc ls [.int 1]) := by
  intro T hT X
  obtain ⟨fs, hret, hrun, hended, hW, hframe⟩ := X.leave (v := some (.int 1)) (hlocks := hlocks) (fun h => by rw [hr] at h; cases h)
  have hmeth' : T.vm.method? m = some meth := X.method'
  refine ⟨T.setFrames fs, ?_, .returned (some (.int 1)), hrun, hended, rfl, ⟨_, rfl⟩, hW, hframe⟩
  jvm_step X.here [X.here.top, hx, hb, hdg, hmeth', hr, narrow_b1]
  (try refine ⟨rfl, ?_⟩); (try refine ⟨rfl, ?_⟩)
  first | (intro acts; rw [hret _ acts rfl rfl rfl]) | rw [hret _ _ rfl rfl rfl]
  exact Steps.refl _
end GLW
section GLS
variable {l : Launch} {D : va_G} {dA : Nat → ClassId} {b : Nat} {bs : gB} {Hb : Heap} {α : Type} {Z : List Frame → Array Value → State → gH → α → gH → State → Prop}
variable {cc : ByteArray} {nL : Nat} {own nm : String} {ret : Option FieldType} {fr lo : Nat}
theorem gScr_cell {s : State} {h : gH} {H : Heap} (hK : gKn D dA b bs Hb s) (hW : gW D dA b Hb h H) : ∃ scr : Cell, H[bs.1 0]? = some scr ∧ s.isArrayOf scr .int ∧ scr.vm ≠ .unknown ∧ scr.slots.size = bs.2.1 ∧ ∀ j : Nat, j < bs.2.1 → scr.slots[j]? = some (.int (bs.2.2 j)) := by
  obtain ⟨scr, h1, h2, h3, h4, h5⟩ := hK.2.2.2.2.2.2.2.2.2.2.2.1
  have hlt : bs.1 0 < b := by rw [hW.2.1]; exact (Array.getElem?_eq_some_iff.mp h1).1
  exact ⟨scr, by rw [hW.2.2.1 _ hlt]; exact h1, h2, h3, h4, h5⟩
theorem gS.scr {pc : Nat} {L : List (Option Value)} {st : List Value} {f : Int32 → gM α} {i : Int32} (hd : decode cc pc = .ok (.iaload, 1))
    (kk : ∀ v : Int32, gS l D dA b bs Hb cc nL own nm ret fr lo Z (pc + 1) L (.int v :: st) (f v)) : gS l D dA b bs Hb cc nL own nm ret fr lo Z pc L (.int i :: .float 0 :: st) (mb (gScr bs i) f) := fun h r h' hf => by
  obtain ⟨v, h1, hg, hf⟩ := mb_spec hf
  by_cases hin : ¬ (i < 0 ∨ bs.2.1 ≤ i.toNatClampNeg)
  · rw [gScr, if_pos hin] at hg
    cases hg
    obtain ⟨g1, g2⟩ := kk _ h r h' hf
    refine ⟨g1, fun p e R s m args below meth c h0 cx a1 a2 a3 H locs ls hW hl hh => ?_⟩
    obtain ⟨scr, y1, y2, y3, y4, y5⟩ := gScr_cell cx.2.2.2.2.2.1 hW
    have hlt : i.toNatClampNeg < bs.2.1 := Nat.not_le.mp fun q => hin (Or.inr q)
    exact W.iald (v := .int (bs.2.2 i.toNatClampNeg)) cx.1 cx.2.1 y1 y2 y3 (by rw [y4]; exact hin) (y5 _ hlt) rfl rfl hd (g2 p e R s m args below meth c h0 cx a1 a2 a3 H locs ls hW hl hh)
  · rw [gScr, if_neg hin] at hg; cases hg
theorem gS.scrL {pc : Nat} {L : List (Option Value)} {st : List Value} {f : Int32 → gM α} (hd : decode cc pc = .ok (.arraylength, 1))
    (kk : ∀ v : Int32, gS l D dA b bs Hb cc nL own nm ret fr lo Z (pc + 1) L (.int v :: st) (f v)) : gS l D dA b bs Hb cc nL own nm ret fr lo Z pc L (.float 0 :: st) (mb (gScrL bs) f) := fun h r h' hf => by
  obtain ⟨v, h1, hg, hf⟩ := mb_spec hf
  cases hg
  obtain ⟨g1, g2⟩ := kk _ h r h' hf
  refine ⟨g1, fun p e R s m args below meth c h0 cx a1 a2 a3 H locs ls hW hl hh => ?_⟩
  obtain ⟨scr, y1, y2, y3, y4, y5⟩ := gScr_cell cx.2.2.2.2.2.1 hW
  exact W.alen cx.1 cx.2.1 y1 y2 (by rw [y4]) rfl rfl hd (g2 p e R s m args below meth c h0 cx a1 a2 a3 H locs ls hW hl hh)
theorem gS.lret {pc : Nat} {L : List (Option Value)} (v : Int32) (hd : decode cc pc = .ok (.ireturn, 1)) : gS l D dA b bs Hb cc nL own nm (some .boolean) fr lo (gZl b) pc L [.int v] (mp v) := fun h r h' hf => by
  cases hf
  refine ⟨gLe.rf _, fun p e R s m args below meth c h0 cx a1 a2 a3 H locs ls hW hl hh => ?_⟩
  by_cases hz : b = s.heap.size ∧ v = 1 ∧ gc h - gc h0 ≤ 600000 ∧ gs h - gs h0 ≤ 7302250
  · obtain ⟨z1, rfl, z3, z4⟩ := hz
    have w : W p l e R s m args below meth c H locs (gc h - gc h0) (gs h - gs h0) (fun t => ∃ o, t.status = .running ∧ Ended t below o ∧ o = .returned (some (.int 1)) ∧ Framed s o t [] 600000 7302250) (F0 m pc ls [.int 1]) := by
      refine W.widen (k := 600000) (n := 7302250) z3 z4 ?_
      refine va_forget (fun q hq => by rw [← z1]; exact hl q hq) ?_
      exact gw_lret cx.1 cx.2.1 cx.2.2.2.2.2.2.1 cx.2.2.2.2.2.2.2.1 hd
    intro T hT X
    obtain ⟨t, b1, b2⟩ := w T hT X
    exact ⟨t, b1, fun _ => b2⟩
  · intro T hT X
    exact ⟨_, Steps.refl _, fun q => absurd q hz⟩
end GLS
